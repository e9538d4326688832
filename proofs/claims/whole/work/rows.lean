section
-- ===== PART A: goes FIRST, ahead of the names: the tables' words, and 'selects' of the private methods out of them =====
/-- a private method of a class that the tables say can be made, by its rows of tables_1 -/
def lw_okq (q : MethodName × Nat) : Prop := (q.1.cls ≠ "java/lang/invoke/MethodHandle" ∧ q.1.cls ≠ "java/lang/invoke/VarHandle") ∧ Cond.instantiable q.1.cls q.2 ∈ tables_1 ∧ Cond.privateMethod q.1 ∈ tables_1 ∧ Cond.instanceMethod q.1 ∈ tables_1
theorem lw_p0 : lw_okq (⟨"BellFoundry", "profileAt", "(I)LBellFoundry$Profile;"⟩, 11) := ⟨⟨by decide +kernel, by decide +kernel⟩, List.mem_of_getElem? (i := 10) (by decide +kernel), List.mem_of_getElem? (i := 176) (by decide +kernel), List.mem_of_getElem? (i := 177) (by decide +kernel)⟩
theorem lw_p1 : lw_okq (⟨"BellFoundry", "charge", "(I)Z"⟩, 11) := ⟨⟨by decide +kernel, by decide +kernel⟩, List.mem_of_getElem? (i := 10) (by decide +kernel), List.mem_of_getElem? (i := 225) (by decide +kernel), List.mem_of_getElem? (i := 226) (by decide +kernel)⟩
theorem lw_p2 : lw_okq (⟨"BellFoundry", "bellAt", "(I)LBellFoundry$Bell;"⟩, 11) := ⟨⟨by decide +kernel, by decide +kernel⟩, List.mem_of_getElem? (i := 10) (by decide +kernel), List.mem_of_getElem? (i := 297) (by decide +kernel), List.mem_of_getElem? (i := 298) (by decide +kernel)⟩
theorem lw_p3 : lw_okq (⟨"BellFoundry", "trim", "(LBellFoundry$Bell;II)V"⟩, 11) := ⟨⟨by decide +kernel, by decide +kernel⟩, List.mem_of_getElem? (i := 10) (by decide +kernel), List.mem_of_getElem? (i := 309) (by decide +kernel), List.mem_of_getElem? (i := 310) (by decide +kernel)⟩
theorem lw_p4 : lw_okq (⟨"BellFoundry", "shareOf", "(I)I"⟩, 11) := ⟨⟨by decide +kernel, by decide +kernel⟩, List.mem_of_getElem? (i := 10) (by decide +kernel), List.mem_of_getElem? (i := 343) (by decide +kernel), List.mem_of_getElem? (i := 344) (by decide +kernel)⟩
theorem lw_p5 : lw_okq (⟨"BellFoundry", "plannedCuts", "(LBellFoundry$Bell;)I"⟩, 11) := ⟨⟨by decide +kernel, by decide +kernel⟩, List.mem_of_getElem? (i := 10) (by decide +kernel), List.mem_of_getElem? (i := 365) (by decide +kernel), List.mem_of_getElem? (i := 366) (by decide +kernel)⟩
theorem lw_p6 : lw_okq (⟨"BellFoundry$Tuner", "prepare", "(LBellFoundry$Bell;)V"⟩, 7) := ⟨⟨by decide +kernel, by decide +kernel⟩, List.mem_of_getElem? (i := 22) (by decide +kernel), List.mem_of_getElem? (i := 373) (by decide +kernel), List.mem_of_getElem? (i := 374) (by decide +kernel)⟩
theorem lw_p7 : lw_okq (⟨"BellFoundry$Tuner", "boundTables", "(LBellFoundry$Bell;II)V"⟩, 7) := ⟨⟨by decide +kernel, by decide +kernel⟩, List.mem_of_getElem? (i := 22) (by decide +kernel), List.mem_of_getElem? (i := 378) (by decide +kernel), List.mem_of_getElem? (i := 379) (by decide +kernel)⟩
theorem lw_p8 : lw_okq (⟨"BellFoundry$Tuner", "mayReach", "(II)Z"⟩, 7) := ⟨⟨by decide +kernel, by decide +kernel⟩, List.mem_of_getElem? (i := 22) (by decide +kernel), List.mem_of_getElem? (i := 394) (by decide +kernel), List.mem_of_getElem? (i := 395) (by decide +kernel)⟩
theorem lw_p9 : lw_okq (⟨"BellFoundry$Tuner", "lower", "(LBellFoundry$Bell;II)V"⟩, 7) := ⟨⟨by decide +kernel, by decide +kernel⟩, List.mem_of_getElem? (i := 22) (by decide +kernel), List.mem_of_getElem? (i := 398) (by decide +kernel), List.mem_of_getElem? (i := 399) (by decide +kernel)⟩
theorem lw_p10 : lw_okq (⟨"BellFoundry$Chooser", "weigh", "([LBellFoundry$Bell;I)V"⟩, 12) := ⟨⟨by decide +kernel, by decide +kernel⟩, List.mem_of_getElem? (i := 54) (by decide +kernel), List.mem_of_getElem? (i := 434) (by decide +kernel), List.mem_of_getElem? (i := 435) (by decide +kernel)⟩
theorem lw_p11 : lw_okq (⟨"BellFoundry$Chooser", "leastWithFirst", "(I)J"⟩, 12) := ⟨⟨by decide +kernel, by decide +kernel⟩, List.mem_of_getElem? (i := 54) (by decide +kernel), List.mem_of_getElem? (i := 440) (by decide +kernel), List.mem_of_getElem? (i := 441) (by decide +kernel)⟩
theorem lw_p12 : lw_okq (⟨"BellFoundry$Chooser", "numberOf", "(II)J"⟩, 12) := ⟨⟨by decide +kernel, by decide +kernel⟩, List.mem_of_getElem? (i := 54) (by decide +kernel), List.mem_of_getElem? (i := 445) (by decide +kernel), List.mem_of_getElem? (i := 446) (by decide +kernel)⟩
theorem lw_p13 : lw_okq (⟨"BellFoundry$Chooser", "seat", "(II)J"⟩, 12) := ⟨⟨by decide +kernel, by decide +kernel⟩, List.mem_of_getElem? (i := 54) (by decide +kernel), List.mem_of_getElem? (i := 452) (by decide +kernel), List.mem_of_getElem? (i := 453) (by decide +kernel)⟩
theorem lw_p14 : lw_okq (⟨"BellFoundry$Chooser", "reachFrom", "(IIIJ)Z"⟩, 12) := ⟨⟨by decide +kernel, by decide +kernel⟩, List.mem_of_getElem? (i := 54) (by decide +kernel), List.mem_of_getElem? (i := 459) (by decide +kernel), List.mem_of_getElem? (i := 460) (by decide +kernel)⟩
theorem lw_p15 : lw_okq (⟨"BellFoundry$Chooser", "moveHolders", "(I)Z"⟩, 12) := ⟨⟨by decide +kernel, by decide +kernel⟩, List.mem_of_getElem? (i := 54) (by decide +kernel), List.mem_of_getElem? (i := 464) (by decide +kernel), List.mem_of_getElem? (i := 465) (by decide +kernel)⟩
def lw_privs_1 : List (MethodName × Nat) := [(⟨"BellFoundry", "profileAt", "(I)LBellFoundry$Profile;"⟩, 11), (⟨"BellFoundry", "charge", "(I)Z"⟩, 11), (⟨"BellFoundry", "bellAt", "(I)LBellFoundry$Bell;"⟩, 11), (⟨"BellFoundry", "trim", "(LBellFoundry$Bell;II)V"⟩, 11), (⟨"BellFoundry", "shareOf", "(I)I"⟩, 11), (⟨"BellFoundry", "plannedCuts", "(LBellFoundry$Bell;)I"⟩, 11), (⟨"BellFoundry$Tuner", "prepare", "(LBellFoundry$Bell;)V"⟩, 7), (⟨"BellFoundry$Tuner", "boundTables", "(LBellFoundry$Bell;II)V"⟩, 7), (⟨"BellFoundry$Tuner", "mayReach", "(II)Z"⟩, 7), (⟨"BellFoundry$Tuner", "lower", "(LBellFoundry$Bell;II)V"⟩, 7), (⟨"BellFoundry$Chooser", "weigh", "([LBellFoundry$Bell;I)V"⟩, 12), (⟨"BellFoundry$Chooser", "leastWithFirst", "(I)J"⟩, 12), (⟨"BellFoundry$Chooser", "numberOf", "(II)J"⟩, 12), (⟨"BellFoundry$Chooser", "seat", "(II)J"⟩, 12), (⟨"BellFoundry$Chooser", "reachFrom", "(IIIJ)Z"⟩, 12), (⟨"BellFoundry$Chooser", "moveHolders", "(I)Z"⟩, 12)]
theorem lw_r1 : ∀ q ∈ lw_privs_1, lw_okq q := List.forall_mem_cons.mpr ⟨lw_p0, List.forall_mem_cons.mpr ⟨lw_p1, List.forall_mem_cons.mpr ⟨lw_p2, List.forall_mem_cons.mpr ⟨lw_p3, List.forall_mem_cons.mpr ⟨lw_p4, List.forall_mem_cons.mpr ⟨lw_p5, List.forall_mem_cons.mpr ⟨lw_p6, List.forall_mem_cons.mpr ⟨lw_p7, List.forall_mem_cons.mpr ⟨lw_p8, List.forall_mem_cons.mpr ⟨lw_p9, List.forall_mem_cons.mpr ⟨lw_p10, List.forall_mem_cons.mpr ⟨lw_p11, List.forall_mem_cons.mpr ⟨lw_p12, List.forall_mem_cons.mpr ⟨lw_p13, List.forall_mem_cons.mpr ⟨lw_p14, List.forall_mem_cons.mpr ⟨lw_p15, fun _ h => absurd h List.not_mem_nil⟩⟩⟩⟩⟩⟩⟩⟩⟩⟩⟩⟩⟩⟩⟩⟩
theorem lw_p16 : lw_okq (⟨"BellFoundry$Chooser", "nearestFree", "()I"⟩, 12) := ⟨⟨by decide +kernel, by decide +kernel⟩, List.mem_of_getElem? (i := 54) (by decide +kernel), List.mem_of_getElem? (i := 468) (by decide +kernel), List.mem_of_getElem? (i := 469) (by decide +kernel)⟩
theorem lw_p17 : lw_okq (⟨"BellFoundry$Chooser", "passAlong", "(II)V"⟩, 12) := ⟨⟨by decide +kernel, by decide +kernel⟩, List.mem_of_getElem? (i := 54) (by decide +kernel), List.mem_of_getElem? (i := 472) (by decide +kernel), List.mem_of_getElem? (i := 473) (by decide +kernel)⟩
theorem lw_p18 : lw_okq (⟨"BellFoundry", "pullsIf", "(II)I"⟩, 11) := ⟨⟨by decide +kernel, by decide +kernel⟩, List.mem_of_getElem? (i := 10) (by decide +kernel), List.mem_of_getElem? (i := 495) (by decide +kernel), List.mem_of_getElem? (i := 496) (by decide +kernel)⟩
theorem lw_p19 : lw_okq (⟨"BellFoundry", "pullsTogether", "()I"⟩, 11) := ⟨⟨by decide +kernel, by decide +kernel⟩, List.mem_of_getElem? (i := 10) (by decide +kernel), List.mem_of_getElem? (i := 503) (by decide +kernel), List.mem_of_getElem? (i := 504) (by decide +kernel)⟩
theorem lw_p20 : lw_okq (⟨"BellFoundry", "soundMetal", "()I"⟩, 11) := ⟨⟨by decide +kernel, by decide +kernel⟩, List.mem_of_getElem? (i := 10) (by decide +kernel), List.mem_of_getElem? (i := 511) (by decide +kernel), List.mem_of_getElem? (i := 512) (by decide +kernel)⟩
theorem lw_p21 : lw_okq (⟨"BellFoundryModel", "canCut", "(I)Z"⟩, 33) := ⟨⟨by decide +kernel, by decide +kernel⟩, List.mem_of_getElem? (i := 515) (by decide +kernel), List.mem_of_getElem? (i := 651) (by decide +kernel), List.mem_of_getElem? (i := 652) (by decide +kernel)⟩
theorem lw_p22 : lw_okq (⟨"BellFoundryModel", "isBell", "(I)Z"⟩, 33) := ⟨⟨by decide +kernel, by decide +kernel⟩, List.mem_of_getElem? (i := 515) (by decide +kernel), List.mem_of_getElem? (i := 655) (by decide +kernel), List.mem_of_getElem? (i := 656) (by decide +kernel)⟩
theorem lw_p23 : lw_okq (⟨"BellFoundryModel", "weightOf", "(I)I"⟩, 33) := ⟨⟨by decide +kernel, by decide +kernel⟩, List.mem_of_getElem? (i := 515) (by decide +kernel), List.mem_of_getElem? (i := 667) (by decide +kernel), List.mem_of_getElem? (i := 668) (by decide +kernel)⟩
theorem lw_p24 : lw_okq (⟨"BellFoundryModel", "partOf", "(II)I"⟩, 33) := ⟨⟨by decide +kernel, by decide +kernel⟩, List.mem_of_getElem? (i := 515) (by decide +kernel), List.mem_of_getElem? (i := 676) (by decide +kernel), List.mem_of_getElem? (i := 677) (by decide +kernel)⟩
theorem lw_p25 : lw_okq (⟨"BellFoundryModel", "pull", "(II)I"⟩, 33) := ⟨⟨by decide +kernel, by decide +kernel⟩, List.mem_of_getElem? (i := 515) (by decide +kernel), List.mem_of_getElem? (i := 680) (by decide +kernel), List.mem_of_getElem? (i := 681) (by decide +kernel)⟩
theorem lw_p26 : lw_okq (⟨"BellFoundryModel", "seeks", "(I)I"⟩, 33) := ⟨⟨by decide +kernel, by decide +kernel⟩, List.mem_of_getElem? (i := 515) (by decide +kernel), List.mem_of_getElem? (i := 692) (by decide +kernel), List.mem_of_getElem? (i := 693) (by decide +kernel)⟩
theorem lw_p27 : lw_okq (⟨"BellFoundryModel", "isTuned", "(I)Z"⟩, 33) := ⟨⟨by decide +kernel, by decide +kernel⟩, List.mem_of_getElem? (i := 515) (by decide +kernel), List.mem_of_getElem? (i := 696) (by decide +kernel), List.mem_of_getElem? (i := 697) (by decide +kernel)⟩
theorem lw_p28 : lw_okq (⟨"BellFoundryModel", "nextCuts", "()Z"⟩, 33) := ⟨⟨by decide +kernel, by decide +kernel⟩, List.mem_of_getElem? (i := 515) (by decide +kernel), List.mem_of_getElem? (i := 700) (by decide +kernel), List.mem_of_getElem? (i := 701) (by decide +kernel)⟩
theorem lw_p29 : lw_okq (⟨"BellFoundryModel", "rings", "()I"⟩, 33) := ⟨⟨by decide +kernel, by decide +kernel⟩, List.mem_of_getElem? (i := 515) (by decide +kernel), List.mem_of_getElem? (i := 725) (by decide +kernel), List.mem_of_getElem? (i := 726) (by decide +kernel)⟩
theorem lw_p30 : lw_okq (⟨"BellFoundryModel", "lightest", "(III)I"⟩, 33) := ⟨⟨by decide +kernel, by decide +kernel⟩, List.mem_of_getElem? (i := 515) (by decide +kernel), List.mem_of_getElem? (i := 729) (by decide +kernel), List.mem_of_getElem? (i := 730) (by decide +kernel)⟩
theorem lw_p31 : lw_okq (⟨"BellFoundryModel", "agrees", "(III)Z"⟩, 33) := ⟨⟨by decide +kernel, by decide +kernel⟩, List.mem_of_getElem? (i := 515) (by decide +kernel), List.mem_of_getElem? (i := 733) (by decide +kernel), List.mem_of_getElem? (i := 734) (by decide +kernel)⟩
def lw_privs_2 : List (MethodName × Nat) := [(⟨"BellFoundry$Chooser", "nearestFree", "()I"⟩, 12), (⟨"BellFoundry$Chooser", "passAlong", "(II)V"⟩, 12), (⟨"BellFoundry", "pullsIf", "(II)I"⟩, 11), (⟨"BellFoundry", "pullsTogether", "()I"⟩, 11), (⟨"BellFoundry", "soundMetal", "()I"⟩, 11), (⟨"BellFoundryModel", "canCut", "(I)Z"⟩, 33), (⟨"BellFoundryModel", "isBell", "(I)Z"⟩, 33), (⟨"BellFoundryModel", "weightOf", "(I)I"⟩, 33), (⟨"BellFoundryModel", "partOf", "(II)I"⟩, 33), (⟨"BellFoundryModel", "pull", "(II)I"⟩, 33), (⟨"BellFoundryModel", "seeks", "(I)I"⟩, 33), (⟨"BellFoundryModel", "isTuned", "(I)Z"⟩, 33), (⟨"BellFoundryModel", "nextCuts", "()Z"⟩, 33), (⟨"BellFoundryModel", "rings", "()I"⟩, 33), (⟨"BellFoundryModel", "lightest", "(III)I"⟩, 33), (⟨"BellFoundryModel", "agrees", "(III)Z"⟩, 33)]
theorem lw_r2 : ∀ q ∈ lw_privs_2, lw_okq q := List.forall_mem_cons.mpr ⟨lw_p16, List.forall_mem_cons.mpr ⟨lw_p17, List.forall_mem_cons.mpr ⟨lw_p18, List.forall_mem_cons.mpr ⟨lw_p19, List.forall_mem_cons.mpr ⟨lw_p20, List.forall_mem_cons.mpr ⟨lw_p21, List.forall_mem_cons.mpr ⟨lw_p22, List.forall_mem_cons.mpr ⟨lw_p23, List.forall_mem_cons.mpr ⟨lw_p24, List.forall_mem_cons.mpr ⟨lw_p25, List.forall_mem_cons.mpr ⟨lw_p26, List.forall_mem_cons.mpr ⟨lw_p27, List.forall_mem_cons.mpr ⟨lw_p28, List.forall_mem_cons.mpr ⟨lw_p29, List.forall_mem_cons.mpr ⟨lw_p30, List.forall_mem_cons.mpr ⟨lw_p31, fun _ h => absurd h List.not_mem_nil⟩⟩⟩⟩⟩⟩⟩⟩⟩⟩⟩⟩⟩⟩⟩⟩
theorem lw_p32 : lw_okq (⟨"BellFoundryModel", "fits", "(IIIII)Z"⟩, 33) := ⟨⟨by decide +kernel, by decide +kernel⟩, List.mem_of_getElem? (i := 515) (by decide +kernel), List.mem_of_getElem? (i := 737) (by decide +kernel), List.mem_of_getElem? (i := 738) (by decide +kernel)⟩
theorem lw_p33 : lw_okq (⟨"BellFoundryModel", "pulls", "()I"⟩, 33) := ⟨⟨by decide +kernel, by decide +kernel⟩, List.mem_of_getElem? (i := 515) (by decide +kernel), List.mem_of_getElem? (i := 749) (by decide +kernel), List.mem_of_getElem? (i := 750) (by decide +kernel)⟩
def lw_privs_3 : List (MethodName × Nat) := [(⟨"BellFoundryModel", "fits", "(IIIII)Z"⟩, 33), (⟨"BellFoundryModel", "pulls", "()I"⟩, 33)]
theorem lw_r3 : ∀ q ∈ lw_privs_3, lw_okq q := List.forall_mem_cons.mpr ⟨lw_p32, List.forall_mem_cons.mpr ⟨lw_p33, fun _ h => absurd h List.not_mem_nil⟩⟩
def lw_privs : List (MethodName × Nat) := lw_privs_1 ++ (lw_privs_2 ++ (lw_privs_3))
def lw_tbl : List Cond := k2_sels lw_privs ++ tables_1
theorem lw_privs_ok : ∀ q ∈ lw_privs, lw_okq q := by
  show ∀ q ∈ lw_privs_1 ++ (lw_privs_2 ++ (lw_privs_3)), lw_okq q
  exact List.forall_mem_append.mpr ⟨lw_r1, List.forall_mem_append.mpr ⟨lw_r2, lw_r3⟩⟩
end
section
def RX0 : String := "BellFoundry$Bell"
def TX0 : u_T := fun k => match k with
  | 0 => ("BellFoundry$Bell", "profileNumber", "I", true)
  | 1 => ("BellFoundry$Bell", "mould", "LBellFoundry$Profile;", true)
  | 2 => ("BellFoundry$Bell", "thicknesses", "[I", true)
  | 3 => ("BellFoundry$Bell", "isOld", "Z", false)
  | 4 => ("BellFoundry$Bell", "isCracked", "Z", false)
  | 5 => ("BellFoundry$Bell", "way", "I", false)
  | 6 => ("BellFoundry$Bell", "plan", "[I", true)
  | 7 => ("BellFoundry$Bell", "planned", "I", false)
  | _ => ("BellFoundry$Bell", "plannedFor", "I", false)
def tyX0 : Nat → FieldType := fun k => match k with
  | 0 => .int
  | 1 => .object "BellFoundry$Profile"
  | 2 => .array .int
  | 3 => .boolean
  | 4 => .boolean
  | 5 => .int
  | 6 => .array .int
  | 7 => .int
  | _ => .int
abbrev wsX00 : List Cond := u_ws RX0 TX0 9
theorem nmX0 : ∀ a, a < 9 → ∀ b, b < 9 → a ≠ b → (TX0 a).2.1 ≠ (TX0 b).2.1 := by decide +kernel
theorem tyX0_ok : ∀ k, k < 9 → parseFieldDescriptor (TX0 k).2.2.1 = some (tyX0 k) := by decide +kernel
abbrev cX0_init : ByteArray := prog_2_method_1_code
def yX0_init : MethodName := ⟨RX0, "<init>", "(ILBellFoundry$Profile;)V"⟩
abbrev cX0_weightNow : ByteArray := prog_2_method_2_code
def yX0_weightNow : MethodName := ⟨RX0, "weightNow", "()I"⟩
abbrev cX0_partNow : ByteArray := prog_2_method_3_code
def yX0_partNow : MethodName := ⟨RX0, "partNow", "(I)I"⟩
abbrev cX0_canBeTuned : ByteArray := prog_2_method_4_code
def yX0_canBeTuned : MethodName := ⟨RX0, "canBeTuned", "()Z"⟩
abbrev cX0_roomAt : ByteArray := prog_2_method_5_code
def yX0_roomAt : MethodName := ⟨RX0, "roomAt", "(I)I"⟩
abbrev cX0_tableAt : ByteArray := prog_2_method_6_code
def yX0_tableAt : MethodName := ⟨RX0, "tableAt", "(II)I"⟩
abbrev cX0_takeOff : ByteArray := prog_2_method_7_code
def yX0_takeOff : MethodName := ⟨RX0, "takeOff", "(II)I"⟩
def RX1 : String := "BellFoundry$Chooser"
def TX1 : u_T := fun k => match k with
  | 0 => ("BellFoundry$Chooser", "steps", "[I", true)
  | 1 => ("BellFoundry$Chooser", "notes", "I", false)
  | 2 => ("BellFoundry$Chooser", "awry", "I", false)
  | 3 => ("BellFoundry$Chooser", "known", "Z", false)
  | 4 => ("BellFoundry$Chooser", "chosen", "J", false)
  | 5 => ("BellFoundry$Chooser", "sound", "[I", true)
  | 6 => ("BellFoundry$Chooser", "soundCount", "I", false)
  | 7 => ("BellFoundry$Chooser", "weights", "[I", true)
  | 8 => ("BellFoundry$Chooser", "tones", "[I", true)
  | 9 => ("BellFoundry$Chooser", "holders", "[I", true)
  | 10 => ("BellFoundry$Chooser", "reach", "[J", true)
  | _ => ("BellFoundry$Chooser", "cameFrom", "[I", true)
def tyX1 : Nat → FieldType := fun k => match k with
  | 0 => .array .int
  | 1 => .int
  | 2 => .int
  | 3 => .boolean
  | 4 => .long
  | 5 => .array .int
  | 6 => .int
  | 7 => .array .int
  | 8 => .array .int
  | 9 => .array .int
  | 10 => .array .long
  | _ => .array .int
abbrev wsX10 : List Cond := u_ws RX1 TX1 12
theorem nmX1 : ∀ a, a < 12 → ∀ b, b < 12 → a ≠ b → (TX1 a).2.1 ≠ (TX1 b).2.1 := by decide +kernel
theorem tyX1_ok : ∀ k, k < 12 → parseFieldDescriptor (TX1 k).2.2.1 = some (tyX1 k) := by decide +kernel
abbrev cX1_init : ByteArray := prog_3_method_1_code
def yX1_init : MethodName := ⟨RX1, "<init>", "()V"⟩
abbrev cX1_forget : ByteArray := prog_3_method_2_code
def yX1_forget : MethodName := ⟨RX1, "forget", "()V"⟩
abbrev cX1_addNote : ByteArray := prog_3_method_3_code
def yX1_addNote : MethodName := ⟨RX1, "addNote", "(I)V"⟩
abbrev cX1_startAnew : ByteArray := prog_3_method_4_code
def yX1_startAnew : MethodName := ⟨RX1, "startAnew", "(I)V"⟩
abbrev cX1_chosenWeight : ByteArray := prog_3_method_5_code
def yX1_chosenWeight : MethodName := ⟨RX1, "chosenWeight", "()I"⟩
abbrev cX1_chosenBell : ByteArray := prog_3_method_6_code
def yX1_chosenBell : MethodName := ⟨RX1, "chosenBell", "(I)I"⟩
abbrev cX1_choose : ByteArray := prog_3_method_7_code
def yX1_choose : MethodName := ⟨RX1, "choose", "([LBellFoundry$Bell;I)V"⟩
abbrev cX1_placeOf : ByteArray := prog_3_method_8_code
def yX1_placeOf : MethodName := ⟨RX1, "placeOf", "(I)I"⟩
abbrev cX1_numberOf : ByteArray := prog_3_method_9_code
def yX1_numberOf : MethodName := ⟨RX1, "numberOf", "(II)J"⟩
abbrev cX1_weigh : ByteArray := prog_3_method_10_code
def yX1_weigh : MethodName := ⟨RX1, "weigh", "([LBellFoundry$Bell;I)V"⟩
abbrev cX1_leastWithFirst : ByteArray := prog_3_method_11_code
def yX1_leastWithFirst : MethodName := ⟨RX1, "leastWithFirst", "(I)J"⟩
abbrev cX1_seat : ByteArray := prog_3_method_12_code
def yX1_seat : MethodName := ⟨RX1, "seat", "(II)J"⟩
abbrev cX1_moveHolders : ByteArray := prog_3_method_13_code
def yX1_moveHolders : MethodName := ⟨RX1, "moveHolders", "(I)Z"⟩
abbrev cX1_reachFrom : ByteArray := prog_3_method_14_code
def yX1_reachFrom : MethodName := ⟨RX1, "reachFrom", "(IIIJ)Z"⟩
abbrev cX1_nearestFree : ByteArray := prog_3_method_15_code
def yX1_nearestFree : MethodName := ⟨RX1, "nearestFree", "()I"⟩
abbrev cX1_passAlong : ByteArray := prog_3_method_16_code
def yX1_passAlong : MethodName := ⟨RX1, "passAlong", "(II)V"⟩
def RX2 : String := "BellFoundry$Profile"
def TX2 : u_T := fun k => match k with
  | 0 => ("BellFoundry$Profile", "weight", "I", true)
  | 1 => ("BellFoundry$Profile", "bases", "[I", true)
  | 2 => ("BellFoundry$Profile", "tables", "[I", true)
  | 3 => ("BellFoundry$Profile", "metals", "[I", true)
  | 4 => ("BellFoundry$Profile", "leasts", "[I", true)
  | _ => ("BellFoundry$Profile", "thicknesses", "[I", true)
def tyX2 : Nat → FieldType := fun k => match k with
  | 0 => .int
  | 1 => .array .int
  | 2 => .array .int
  | 3 => .array .int
  | 4 => .array .int
  | _ => .array .int
abbrev wsX20 : List Cond := u_ws RX2 TX2 6
theorem nmX2 : ∀ a, a < 6 → ∀ b, b < 6 → a ≠ b → (TX2 a).2.1 ≠ (TX2 b).2.1 := by decide +kernel
theorem tyX2_ok : ∀ k, k < 6 → parseFieldDescriptor (TX2 k).2.2.1 = some (tyX2 k) := by decide +kernel
abbrev cX2_init : ByteArray := prog_4_method_1_code
def yX2_init : MethodName := ⟨RX2, "<init>", "(I)V"⟩
abbrev cX2_init_ : ByteArray := prog_4_method_2_code
def yX2_init_ : MethodName := ⟨RX2, "<init>", "(LBellFoundry$Profile;)V"⟩
abbrev cX2_setTable : ByteArray := prog_4_method_3_code
def yX2_setTable : MethodName := ⟨RX2, "setTable", "(III)Z"⟩
abbrev cX2_setMetal : ByteArray := prog_4_method_4_code
def yX2_setMetal : MethodName := ⟨RX2, "setMetal", "(II)Z"⟩
abbrev cX2_setLeast : ByteArray := prog_4_method_5_code
def yX2_setLeast : MethodName := ⟨RX2, "setLeast", "(II)Z"⟩
abbrev cX2_setThickness : ByteArray := prog_4_method_6_code
def yX2_setThickness : MethodName := ⟨RX2, "setThickness", "(II)Z"⟩
abbrev cX2_castWeight : ByteArray := prog_4_method_7_code
def yX2_castWeight : MethodName := ⟨RX2, "castWeight", "()I"⟩
abbrev cX2_weightWith : ByteArray := prog_4_method_8_code
def yX2_weightWith : MethodName := ⟨RX2, "weightWith", "([I)I"⟩
abbrev cX2_partWith : ByteArray := prog_4_method_9_code
def yX2_partWith : MethodName := ⟨RX2, "partWith", "(I[I)I"⟩
def RX3 : String := "BellFoundry$Tuner"
def TX3 : u_T := fun k => match k with
  | 0 => ("BellFoundry$Tuner", "froms", "[I", true)
  | 1 => ("BellFoundry$Tuner", "tos", "[I", true)
  | 2 => ("BellFoundry$Tuner", "spansSet", "I", false)
  | 3 => ("BellFoundry$Tuner", "values", "[I", true)
  | 4 => ("BellFoundry$Tuner", "roomFrom", "[I", true)
  | 5 => ("BellFoundry$Tuner", "highest", "[I", true)
  | _ => ("BellFoundry$Tuner", "lowest", "[I", true)
def tyX3 : Nat → FieldType := fun k => match k with
  | 0 => .array .int
  | 1 => .array .int
  | 2 => .int
  | 3 => .array .int
  | 4 => .array .int
  | 5 => .array .int
  | _ => .array .int
abbrev wsX30 : List Cond := u_ws RX3 TX3 7
theorem nmX3 : ∀ a, a < 7 → ∀ b, b < 7 → a ≠ b → (TX3 a).2.1 ≠ (TX3 b).2.1 := by decide +kernel
theorem tyX3_ok : ∀ k, k < 7 → parseFieldDescriptor (TX3 k).2.2.1 = some (tyX3 k) := by decide +kernel
abbrev cX3_init : ByteArray := prog_5_method_1_code
def yX3_init : MethodName := ⟨RX3, "<init>", "()V"⟩
abbrev cX3_setSpan : ByteArray := prog_5_method_2_code
def yX3_setSpan : MethodName := ⟨RX3, "setSpan", "(III)V"⟩
abbrev cX3_plan : ByteArray := prog_5_method_3_code
def yX3_plan : MethodName := ⟨RX3, "plan", "(LBellFoundry$Bell;)V"⟩
abbrev cX3_prepare : ByteArray := prog_5_method_4_code
def yX3_prepare : MethodName := ⟨RX3, "prepare", "(LBellFoundry$Bell;)V"⟩
abbrev cX3_boundTables : ByteArray := prog_5_method_5_code
def yX3_boundTables : MethodName := ⟨RX3, "boundTables", "(LBellFoundry$Bell;II)V"⟩
abbrev cX3_search : ByteArray := prog_5_method_6_code
def yX3_search : MethodName := ⟨RX3, "search", "(LBellFoundry$Tuner;LBellFoundry$Bell;II)Z"⟩
abbrev cX3_mayReach : ByteArray := prog_5_method_7_code
def yX3_mayReach : MethodName := ⟨RX3, "mayReach", "(II)Z"⟩
abbrev cX3_lower : ByteArray := prog_5_method_8_code
def yX3_lower : MethodName := ⟨RX3, "lower", "(LBellFoundry$Bell;II)V"⟩
def RX4 : String := "BellFoundry"
def TX4 : u_T := fun k => match k with
  | 0 => ("BellFoundry", "profiles", "[LBellFoundry$Profile;", true)
  | 1 => ("BellFoundry", "profileCount", "I", false)
  | 2 => ("BellFoundry", "bells", "[LBellFoundry$Bell;", true)
  | 3 => ("BellFoundry", "bellCount", "I", false)
  | 4 => ("BellFoundry", "copper", "I", false)
  | 5 => ("BellFoundry", "tin", "I", false)
  | 6 => ("BellFoundry", "heap", "I", false)
  | 7 => ("BellFoundry", "tuner", "LBellFoundry$Tuner;", true)
  | 8 => ("BellFoundry", "chooser", "LBellFoundry$Chooser;", true)
  | 9 => ("BellFoundry", "shares", "[I", true)
  | _ => ("BellFoundry", "bears", "I", false)
def tyX4 : Nat → FieldType := fun k => match k with
  | 0 => .array (.object "BellFoundry$Profile")
  | 1 => .int
  | 2 => .array (.object "BellFoundry$Bell")
  | 3 => .int
  | 4 => .int
  | 5 => .int
  | 6 => .int
  | 7 => .object "BellFoundry$Tuner"
  | 8 => .object "BellFoundry$Chooser"
  | 9 => .array .int
  | _ => .int
abbrev wsX40 : List Cond := u_ws RX4 TX4 11
theorem nmX4 : ∀ a, a < 11 → ∀ b, b < 11 → a ≠ b → (TX4 a).2.1 ≠ (TX4 b).2.1 := by decide +kernel
theorem tyX4_ok : ∀ k, k < 11 → parseFieldDescriptor (TX4 k).2.2.1 = some (tyX4 k) := by decide +kernel
abbrev cX4_init : ByteArray := prog_1_method_1_code
def yX4_init : MethodName := ⟨RX4, "<init>", "()V"⟩
abbrev cX4_profile : ByteArray := prog_1_method_2_code
def yX4_profile : MethodName := ⟨RX4, "profile", "(I)I"⟩
abbrev cX4_shape : ByteArray := prog_1_method_3_code
def yX4_shape : MethodName := ⟨RX4, "shape", "(IIII)Z"⟩
abbrev cX4_base : ByteArray := prog_1_method_4_code
def yX4_base : MethodName := ⟨RX4, "base", "(III)Z"⟩
abbrev cX4_buy : ByteArray := prog_1_method_5_code
def yX4_buy : MethodName := ⟨RX4, "buy", "(II)Z"⟩
abbrev cX4_cast : ByteArray := prog_1_method_6_code
def yX4_cast : MethodName := ⟨RX4, "cast", "(I)I"⟩
abbrev cX4_cut : ByteArray := prog_1_method_7_code
def yX4_cut : MethodName := ⟨RX4, "cut", "(II)I"⟩
abbrev cX4_old : ByteArray := prog_1_method_8_code
def yX4_old : MethodName := ⟨RX4, "old", "(I)Z"⟩
abbrev cX4_crack : ByteArray := prog_1_method_9_code
def yX4_crack : MethodName := ⟨RX4, "crack", "(I)Z"⟩
abbrev cX4_bellOf : ByteArray := prog_1_method_10_code
def yX4_bellOf : MethodName := ⟨RX4, "bellOf", "(II)I"⟩
abbrev cX4_span : ByteArray := prog_1_method_11_code
def yX4_span : MethodName := ⟨RX4, "span", "(III)Z"⟩
abbrev cX4_tuning : ByteArray := prog_1_method_12_code
def yX4_tuning : MethodName := ⟨RX4, "tuning", "(I)I"⟩
abbrev cX4_tune : ByteArray := prog_1_method_13_code
def yX4_tune : MethodName := ⟨RX4, "tune", "(I)I"⟩
abbrev cX4_tuningAt : ByteArray := prog_1_method_14_code
def yX4_tuningAt : MethodName := ⟨RX4, "tuningAt", "(II)I"⟩
abbrev cX4_note : ByteArray := prog_1_method_15_code
def yX4_note : MethodName := ⟨RX4, "note", "(I)I"⟩
abbrev cX4_ring : ByteArray := prog_1_method_16_code
def yX4_ring : MethodName := ⟨RX4, "ring", "(I)Z"⟩
abbrev cX4_ringWeight : ByteArray := prog_1_method_17_code
def yX4_ringWeight : MethodName := ⟨RX4, "ringWeight", "()I"⟩
abbrev cX4_ringBell : ByteArray := prog_1_method_18_code
def yX4_ringBell : MethodName := ⟨RX4, "ringBell", "(I)I"⟩
abbrev cX4_tower : ByteArray := prog_1_method_19_code
def yX4_tower : MethodName := ⟨RX4, "tower", "(III)Z"⟩
abbrev cX4_hang : ByteArray := prog_1_method_20_code
def yX4_hang : MethodName := ⟨RX4, "hang", "(II)Z"⟩
abbrev cX4_about : ByteArray := prog_1_method_21_code
def yX4_about : MethodName := ⟨RX4, "about", "(I)I"⟩
abbrev cX4_within : ByteArray := prog_1_method_22_code
def yX4_within : MethodName := ⟨RX4, "within", "(III)Z"⟩
abbrev cX4_isHeight : ByteArray := prog_1_method_23_code
def yX4_isHeight : MethodName := ⟨RX4, "isHeight", "(I)Z"⟩
abbrev cX4_isPart : ByteArray := prog_1_method_24_code
def yX4_isPart : MethodName := ⟨RX4, "isPart", "(I)Z"⟩
abbrev cX4_isWay : ByteArray := prog_1_method_25_code
def yX4_isWay : MethodName := ⟨RX4, "isWay", "(I)Z"⟩
abbrev cX4_profileAt : ByteArray := prog_1_method_26_code
def yX4_profileAt : MethodName := ⟨RX4, "profileAt", "(I)LBellFoundry$Profile;"⟩
abbrev cX4_bellAt : ByteArray := prog_1_method_27_code
def yX4_bellAt : MethodName := ⟨RX4, "bellAt", "(I)LBellFoundry$Bell;"⟩
abbrev cX4_charge : ByteArray := prog_1_method_28_code
def yX4_charge : MethodName := ⟨RX4, "charge", "(I)Z"⟩
abbrev cX4_trim : ByteArray := prog_1_method_29_code
def yX4_trim : MethodName := ⟨RX4, "trim", "(LBellFoundry$Bell;II)V"⟩
abbrev cX4_plannedCuts : ByteArray := prog_1_method_30_code
def yX4_plannedCuts : MethodName := ⟨RX4, "plannedCuts", "(LBellFoundry$Bell;)I"⟩
abbrev cX4_soundMetal : ByteArray := prog_1_method_31_code
def yX4_soundMetal : MethodName := ⟨RX4, "soundMetal", "()I"⟩
abbrev cX4_shareOf : ByteArray := prog_1_method_32_code
def yX4_shareOf : MethodName := ⟨RX4, "shareOf", "(I)I"⟩
abbrev cX4_pullBy : ByteArray := prog_1_method_33_code
def yX4_pullBy : MethodName := ⟨RX4, "pullBy", "(LBellFoundry$Bell;II)I"⟩
abbrev cX4_pullsTogether : ByteArray := prog_1_method_34_code
def yX4_pullsTogether : MethodName := ⟨RX4, "pullsTogether", "()I"⟩
abbrev cX4_pullsIf : ByteArray := prog_1_method_35_code
def yX4_pullsIf : MethodName := ⟨RX4, "pullsIf", "(II)I"⟩
def RX5 : String := "BellFoundryModel"
def TX5 : u_T := fun k => match k with
  | 0 => ("BellFoundryModel", "profiles", "I", false)
  | 1 => ("BellFoundryModel", "rest", "[I", true)
  | 2 => ("BellFoundryModel", "thick", "[I", true)
  | 3 => ("BellFoundryModel", "least", "[I", true)
  | 4 => ("BellFoundryModel", "metal", "[I", true)
  | 5 => ("BellFoundryModel", "base", "[I", true)
  | 6 => ("BellFoundryModel", "table", "[I", true)
  | 7 => ("BellFoundryModel", "bells", "I", false)
  | 8 => ("BellFoundryModel", "bellProfile", "[I", true)
  | 9 => ("BellFoundryModel", "bellRest", "[I", true)
  | 10 => ("BellFoundryModel", "bellThick", "[I", true)
  | 11 => ("BellFoundryModel", "bellLeast", "[I", true)
  | 12 => ("BellFoundryModel", "bellMetal", "[I", true)
  | 13 => ("BellFoundryModel", "bellBase", "[I", true)
  | 14 => ("BellFoundryModel", "bellTable", "[I", true)
  | 15 => ("BellFoundryModel", "isOld", "[Z", true)
  | 16 => ("BellFoundryModel", "isCracked", "[Z", true)
  | 17 => ("BellFoundryModel", "hangs", "[I", true)
  | 18 => ("BellFoundryModel", "copper", "I", false)
  | 19 => ("BellFoundryModel", "tin", "I", false)
  | 20 => ("BellFoundryModel", "heap", "I", false)
  | 21 => ("BellFoundryModel", "from", "[I", true)
  | 22 => ("BellFoundryModel", "to", "[I", true)
  | 23 => ("BellFoundryModel", "notes", "I", false)
  | 24 => ("BellFoundryModel", "step", "[I", true)
  | 25 => ("BellFoundryModel", "awry", "I", false)
  | 26 => ("BellFoundryModel", "share", "[I", true)
  | 27 => ("BellFoundryModel", "bears", "I", false)
  | 28 => ("BellFoundryModel", "cuts", "[I", true)
  | 29 => ("BellFoundryModel", "ringBell", "[I", true)
  | 30 => ("BellFoundryModel", "weights", "[I", true)
  | 31 => ("BellFoundryModel", "parts", "[I", true)
  | _ => ("BellFoundryModel", "filled", "[I", true)
def tyX5 : Nat → FieldType := fun k => match k with
  | 0 => .int
  | 1 => .array .int
  | 2 => .array .int
  | 3 => .array .int
  | 4 => .array .int
  | 5 => .array .int
  | 6 => .array .int
  | 7 => .int
  | 8 => .array .int
  | 9 => .array .int
  | 10 => .array .int
  | 11 => .array .int
  | 12 => .array .int
  | 13 => .array .int
  | 14 => .array .int
  | 15 => .array .boolean
  | 16 => .array .boolean
  | 17 => .array .int
  | 18 => .int
  | 19 => .int
  | 20 => .int
  | 21 => .array .int
  | 22 => .array .int
  | 23 => .int
  | 24 => .array .int
  | 25 => .int
  | 26 => .array .int
  | 27 => .int
  | 28 => .array .int
  | 29 => .array .int
  | 30 => .array .int
  | 31 => .array .int
  | _ => .array .int
abbrev wsX50 : List Cond := u_ws RX5 TX5 33
theorem nmX5 : ∀ a, a < 33 → ∀ b, b < 33 → a ≠ b → (TX5 a).2.1 ≠ (TX5 b).2.1 := by decide +kernel
theorem tyX5_ok : ∀ k, k < 33 → parseFieldDescriptor (TX5 k).2.2.1 = some (tyX5 k) := by decide +kernel
abbrev cX5_init : ByteArray := prog_7_method_1_code
def yX5_init : MethodName := ⟨RX5, "<init>", "()V"⟩
abbrev cX5_in : ByteArray := prog_7_method_2_code
def yX5_in : MethodName := ⟨RX5, "in", "(III)Z"⟩
abbrev cX5_isBell : ByteArray := prog_7_method_3_code
def yX5_isBell : MethodName := ⟨RX5, "isBell", "(I)Z"⟩
abbrev cX5_profile : ByteArray := prog_7_method_4_code
def yX5_profile : MethodName := ⟨RX5, "profile", "(I)I"⟩
abbrev cX5_shape : ByteArray := prog_7_method_5_code
def yX5_shape : MethodName := ⟨RX5, "shape", "(IIII)Z"⟩
abbrev cX5_base : ByteArray := prog_7_method_6_code
def yX5_base : MethodName := ⟨RX5, "base", "(III)Z"⟩
abbrev cX5_buy : ByteArray := prog_7_method_7_code
def yX5_buy : MethodName := ⟨RX5, "buy", "(II)Z"⟩
abbrev cX5_weightOf : ByteArray := prog_7_method_8_code
def yX5_weightOf : MethodName := ⟨RX5, "weightOf", "(I)I"⟩
abbrev cX5_partOf : ByteArray := prog_7_method_9_code
def yX5_partOf : MethodName := ⟨RX5, "partOf", "(II)I"⟩
abbrev cX5_cast : ByteArray := prog_7_method_10_code
def yX5_cast : MethodName := ⟨RX5, "cast", "(I)I"⟩
abbrev cX5_canCut : ByteArray := prog_7_method_11_code
def yX5_canCut : MethodName := ⟨RX5, "canCut", "(I)Z"⟩
abbrev cX5_cut : ByteArray := prog_7_method_12_code
def yX5_cut : MethodName := ⟨RX5, "cut", "(II)I"⟩
abbrev cX5_old : ByteArray := prog_7_method_13_code
def yX5_old : MethodName := ⟨RX5, "old", "(I)Z"⟩
abbrev cX5_crack : ByteArray := prog_7_method_14_code
def yX5_crack : MethodName := ⟨RX5, "crack", "(I)Z"⟩
abbrev cX5_pull : ByteArray := prog_7_method_15_code
def yX5_pull : MethodName := ⟨RX5, "pull", "(II)I"⟩
abbrev cX5_bellOf : ByteArray := prog_7_method_16_code
def yX5_bellOf : MethodName := ⟨RX5, "bellOf", "(II)I"⟩
abbrev cX5_span : ByteArray := prog_7_method_17_code
def yX5_span : MethodName := ⟨RX5, "span", "(III)Z"⟩
abbrev cX5_isTuned : ByteArray := prog_7_method_18_code
def yX5_isTuned : MethodName := ⟨RX5, "isTuned", "(I)Z"⟩
abbrev cX5_nextCuts : ByteArray := prog_7_method_19_code
def yX5_nextCuts : MethodName := ⟨RX5, "nextCuts", "()Z"⟩
abbrev cX5_seeks : ByteArray := prog_7_method_20_code
def yX5_seeks : MethodName := ⟨RX5, "seeks", "(I)I"⟩
abbrev cX5_tuning : ByteArray := prog_7_method_21_code
def yX5_tuning : MethodName := ⟨RX5, "tuning", "(I)I"⟩
abbrev cX5_tune : ByteArray := prog_7_method_22_code
def yX5_tune : MethodName := ⟨RX5, "tune", "(I)I"⟩
abbrev cX5_tuningAt : ByteArray := prog_7_method_23_code
def yX5_tuningAt : MethodName := ⟨RX5, "tuningAt", "(II)I"⟩
abbrev cX5_note : ByteArray := prog_7_method_24_code
def yX5_note : MethodName := ⟨RX5, "note", "(I)I"⟩
abbrev cX5_ring : ByteArray := prog_7_method_25_code
def yX5_ring : MethodName := ⟨RX5, "ring", "(I)Z"⟩
abbrev cX5_agrees : ByteArray := prog_7_method_26_code
def yX5_agrees : MethodName := ⟨RX5, "agrees", "(III)Z"⟩
abbrev cX5_lightest : ByteArray := prog_7_method_27_code
def yX5_lightest : MethodName := ⟨RX5, "lightest", "(III)I"⟩
abbrev cX5_rings : ByteArray := prog_7_method_28_code
def yX5_rings : MethodName := ⟨RX5, "rings", "()I"⟩
abbrev cX5_fits : ByteArray := prog_7_method_29_code
def yX5_fits : MethodName := ⟨RX5, "fits", "(IIIII)Z"⟩
abbrev cX5_ringWeight : ByteArray := prog_7_method_30_code
def yX5_ringWeight : MethodName := ⟨RX5, "ringWeight", "()I"⟩
abbrev cX5_ringBell : ByteArray := prog_7_method_31_code
def yX5_ringBell : MethodName := ⟨RX5, "ringBell", "(I)I"⟩
abbrev cX5_pulls : ByteArray := prog_7_method_32_code
def yX5_pulls : MethodName := ⟨RX5, "pulls", "()I"⟩
abbrev cX5_tower : ByteArray := prog_7_method_33_code
def yX5_tower : MethodName := ⟨RX5, "tower", "(III)Z"⟩
abbrev cX5_hang : ByteArray := prog_7_method_34_code
def yX5_hang : MethodName := ⟨RX5, "hang", "(II)Z"⟩
abbrev cX5_about : ByteArray := prog_7_method_35_code
def yX5_about : MethodName := ⟨RX5, "about", "(I)I"⟩
def RJx8e188 : String := "java/lang/Cloneable"
def TJx8e188 : u_T := fun k => match k with
  | _ => ("", "", "", false)
def tyJx8e188 : Nat → FieldType := fun k => match k with
  | _ => .int
abbrev wsJx8e1880 : List Cond := u_ws RJx8e188 TJx8e188 0
theorem nmJx8e188 : ∀ a, a < 0 → ∀ b, b < 0 → a ≠ b → (TJx8e188 a).2.1 ≠ (TJx8e188 b).2.1 := by decide +kernel
theorem tyJx8e188_ok : ∀ k, k < 0 → parseFieldDescriptor (TJx8e188 k).2.2.1 = some (tyJx8e188 k) := by decide +kernel
def RJ9 : String := "java/lang/Math"
def TJ9 : u_T := fun k => match k with
  | _ => ("", "", "", false)
def tyJ9 : Nat → FieldType := fun k => match k with
  | _ => .int
abbrev wsJ90 : List Cond := u_ws RJ9 TJ9 0
theorem nmJ9 : ∀ a, a < 0 → ∀ b, b < 0 → a ≠ b → (TJ9 a).2.1 ≠ (TJ9 b).2.1 := by decide +kernel
theorem tyJ9_ok : ∀ k, k < 0 → parseFieldDescriptor (TJ9 k).2.2.1 = some (tyJ9 k) := by decide +kernel
abbrev cJ9_max_7cf53 : ByteArray := prog_9_method_65_code
def yJ9_max_7cf53 : MethodName := ⟨RJ9, "max", "(II)I"⟩
abbrev cJ9_min_7cf53 : ByteArray := prog_9_method_69_code
def yJ9_min_7cf53 : MethodName := ⟨RJ9, "min", "(II)I"⟩
abbrev cJ9_min_f86c9 : ByteArray := prog_9_method_70_code
def yJ9_min_f86c9 : MethodName := ⟨RJ9, "min", "(JJ)J"⟩
def RJ7 : String := "java/util/Arrays"
def TJ7 : u_T := fun k => match k with
  | _ => ("", "", "", false)
def tyJ7 : Nat → FieldType := fun k => match k with
  | _ => .int
abbrev wsJ70 : List Cond := u_ws RJ7 TJ7 0
theorem nmJ7 : ∀ a, a < 0 → ∀ b, b < 0 → a ≠ b → (TJ7 a).2.1 ≠ (TJ7 b).2.1 := by decide +kernel
theorem tyJ7_ok : ∀ k, k < 0 → parseFieldDescriptor (TJ7 k).2.2.1 = some (tyJ7 k) := by decide +kernel
abbrev cJ7_fill_d0a16 : ByteArray := prog_10_method_101_code
def yJ7_fill_d0a16 : MethodName := ⟨RJ7, "fill", "([JJ)V"⟩
abbrev cJ7_fill_53178 : ByteArray := prog_10_method_103_code
def yJ7_fill_53178 : MethodName := ⟨RJ7, "fill", "([II)V"⟩
def RL : String := "BellFoundryLaw"
abbrev cL_law : ByteArray := code
def yL_law : MethodName := ⟨RL, "law", "([I)Z"⟩
abbrev vwCl : List vw_C := [(RX0, TX0, 9), (RX1, TX1, 12), (RX2, TX2, 6), (RX3, TX3, 7), (RX4, TX4, 11), (RX5, TX5, 33)]
end
section
theorem dX0_init_0 : decode cX0_init 0 = .ok (.aload_n 0, 1) := by decide +kernel
theorem dX0_init_1 : decode cX0_init 1 = .ok (.invokespecial 3, 3) := by decide +kernel
theorem dX0_init_4 : decode cX0_init 4 = .ok (.aload_n 0, 1) := by decide +kernel
theorem dX0_init_5 : decode cX0_init 5 = .ok (.iload_n 1, 1) := by decide +kernel
theorem dX0_init_6 : decode cX0_init 6 = .ok (.putfield 9, 3) := by decide +kernel
theorem dX0_init_9 : decode cX0_init 9 = .ok (.aload_n 0, 1) := by decide +kernel
theorem dX0_init_10 : decode cX0_init 10 = .ok (.new 15, 3) := by decide +kernel
theorem dX0_init_13 : decode cX0_init 13 = .ok (.dup, 1) := by decide +kernel
theorem dX0_init_14 : decode cX0_init 14 = .ok (.aload_n 2, 1) := by decide +kernel
theorem dX0_init_15 : decode cX0_init 15 = .ok (.invokespecial 17, 3) := by decide +kernel
theorem dX0_init_18 : decode cX0_init 18 = .ok (.putfield 20, 3) := by decide +kernel
theorem dX0_init_21 : decode cX0_init 21 = .ok (.aload_n 0, 1) := by decide +kernel
theorem dX0_init_22 : decode cX0_init 22 = .ok (.aload_n 2, 1) := by decide +kernel
theorem dX0_init_23 : decode cX0_init 23 = .ok (.getfield 24, 3) := by decide +kernel
theorem dX0_init_26 : decode cX0_init 26 = .ok (.invokevirtual 28, 3) := by decide +kernel
theorem dX0_init_29 : decode cX0_init 29 = .ok (.checkcast 29, 3) := by decide +kernel
theorem dX0_init_32 : decode cX0_init 32 = .ok (.putfield 33, 3) := by decide +kernel
theorem dX0_init_35 : decode cX0_init 35 = .ok (.aload_n 0, 1) := by decide +kernel
theorem dX0_init_36 : decode cX0_init 36 = .ok (.iconst (-1), 1) := by decide +kernel
theorem dX0_init_37 : decode cX0_init 37 = .ok (.putfield 34, 3) := by decide +kernel
theorem dX0_init_40 : decode cX0_init 40 = .ok (.aload_n 0, 1) := by decide +kernel
theorem dX0_init_41 : decode cX0_init 41 = .ok (.bipush 8, 2) := by decide +kernel
theorem dX0_init_43 : decode cX0_init 43 = .ok (.newarray .int, 2) := by decide +kernel
theorem dX0_init_45 : decode cX0_init 45 = .ok (.putfield 37, 3) := by decide +kernel
theorem dX0_init_48 : decode cX0_init 48 = .ok (.aload_n 0, 1) := by decide +kernel
theorem dX0_init_49 : decode cX0_init 49 = .ok (.iconst (-1), 1) := by decide +kernel
theorem dX0_init_50 : decode cX0_init 50 = .ok (.putfield 40, 3) := by decide +kernel
theorem dX0_init_53 : decode cX0_init 53 = .ok (.aload_n 0, 1) := by decide +kernel
theorem dX0_init_54 : decode cX0_init 54 = .ok (.iconst (-1), 1) := by decide +kernel
theorem dX0_init_55 : decode cX0_init 55 = .ok (.putfield 43, 3) := by decide +kernel
theorem dX0_init_58 : decode cX0_init 58 = .ok (.return_, 1) := by decide +kernel
theorem dX0_weightNow_0 : decode cX0_weightNow 0 = .ok (.aload_n 0, 1) := by decide +kernel
theorem dX0_weightNow_1 : decode cX0_weightNow 1 = .ok (.getfield 20, 3) := by decide +kernel
theorem dX0_weightNow_4 : decode cX0_weightNow 4 = .ok (.aload_n 0, 1) := by decide +kernel
theorem dX0_weightNow_5 : decode cX0_weightNow 5 = .ok (.getfield 33, 3) := by decide +kernel
theorem dX0_weightNow_8 : decode cX0_weightNow 8 = .ok (.invokevirtual 46, 3) := by decide +kernel
theorem dX0_weightNow_11 : decode cX0_weightNow 11 = .ok (.ireturn, 1) := by decide +kernel
theorem dX0_partNow_0 : decode cX0_partNow 0 = .ok (.aload_n 0, 1) := by decide +kernel
theorem dX0_partNow_1 : decode cX0_partNow 1 = .ok (.getfield 20, 3) := by decide +kernel
theorem dX0_partNow_4 : decode cX0_partNow 4 = .ok (.iload_n 1, 1) := by decide +kernel
theorem dX0_partNow_5 : decode cX0_partNow 5 = .ok (.aload_n 0, 1) := by decide +kernel
theorem dX0_partNow_6 : decode cX0_partNow 6 = .ok (.getfield 33, 3) := by decide +kernel
theorem dX0_partNow_9 : decode cX0_partNow 9 = .ok (.invokevirtual 50, 3) := by decide +kernel
theorem dX0_partNow_12 : decode cX0_partNow 12 = .ok (.ireturn, 1) := by decide +kernel
theorem dX0_canBeTuned_0 : decode cX0_canBeTuned 0 = .ok (.aload_n 0, 1) := by decide +kernel
theorem dX0_canBeTuned_1 : decode cX0_canBeTuned 1 = .ok (.getfield 54, 3) := by decide +kernel
theorem dX0_canBeTuned_4 : decode cX0_canBeTuned 4 = .ok (.ifCond .ne 14, 3) := by decide +kernel
theorem dX0_canBeTuned_7 : decode cX0_canBeTuned 7 = .ok (.aload_n 0, 1) := by decide +kernel
theorem dX0_canBeTuned_8 : decode cX0_canBeTuned 8 = .ok (.getfield 58, 3) := by decide +kernel
theorem dX0_canBeTuned_11 : decode cX0_canBeTuned 11 = .ok (.ifCond .ne 7, 3) := by decide +kernel
theorem dX0_canBeTuned_14 : decode cX0_canBeTuned 14 = .ok (.iconst 1, 1) := by decide +kernel
theorem dX0_canBeTuned_15 : decode cX0_canBeTuned 15 = .ok (.goto 4, 3) := by decide +kernel
theorem dX0_canBeTuned_18 : decode cX0_canBeTuned 18 = .ok (.iconst 0, 1) := by decide +kernel
theorem dX0_canBeTuned_19 : decode cX0_canBeTuned 19 = .ok (.ireturn, 1) := by decide +kernel
theorem dX0_roomAt_0 : decode cX0_roomAt 0 = .ok (.aload_n 0, 1) := by decide +kernel
theorem dX0_roomAt_1 : decode cX0_roomAt 1 = .ok (.getfield 33, 3) := by decide +kernel
theorem dX0_roomAt_4 : decode cX0_roomAt 4 = .ok (.iload_n 1, 1) := by decide +kernel
theorem dX0_roomAt_5 : decode cX0_roomAt 5 = .ok (.iaload, 1) := by decide +kernel
theorem dX0_roomAt_6 : decode cX0_roomAt 6 = .ok (.aload_n 0, 1) := by decide +kernel
theorem dX0_roomAt_7 : decode cX0_roomAt 7 = .ok (.getfield 20, 3) := by decide +kernel
theorem dX0_roomAt_10 : decode cX0_roomAt 10 = .ok (.getfield 61, 3) := by decide +kernel
theorem dX0_roomAt_13 : decode cX0_roomAt 13 = .ok (.iload_n 1, 1) := by decide +kernel
theorem dX0_roomAt_14 : decode cX0_roomAt 14 = .ok (.iaload, 1) := by decide +kernel
theorem dX0_roomAt_15 : decode cX0_roomAt 15 = .ok (.isub, 1) := by decide +kernel
theorem dX0_roomAt_16 : decode cX0_roomAt 16 = .ok (.ireturn, 1) := by decide +kernel
theorem dX0_tableAt_0 : decode cX0_tableAt 0 = .ok (.aload_n 0, 1) := by decide +kernel
theorem dX0_tableAt_1 : decode cX0_tableAt 1 = .ok (.getfield 20, 3) := by decide +kernel
theorem dX0_tableAt_4 : decode cX0_tableAt 4 = .ok (.getfield 64, 3) := by decide +kernel
theorem dX0_tableAt_7 : decode cX0_tableAt 7 = .ok (.iload_n 1, 1) := by decide +kernel
theorem dX0_tableAt_8 : decode cX0_tableAt 8 = .ok (.bipush 8, 2) := by decide +kernel
theorem dX0_tableAt_10 : decode cX0_tableAt 10 = .ok (.imul, 1) := by decide +kernel
theorem dX0_tableAt_11 : decode cX0_tableAt 11 = .ok (.iload_n 2, 1) := by decide +kernel
theorem dX0_tableAt_12 : decode cX0_tableAt 12 = .ok (.iadd, 1) := by decide +kernel
theorem dX0_tableAt_13 : decode cX0_tableAt 13 = .ok (.iaload, 1) := by decide +kernel
theorem dX0_tableAt_14 : decode cX0_tableAt 14 = .ok (.ireturn, 1) := by decide +kernel
theorem dX0_takeOff_0 : decode cX0_takeOff 0 = .ok (.aload_n 0, 1) := by decide +kernel
theorem dX0_takeOff_1 : decode cX0_takeOff 1 = .ok (.getfield 33, 3) := by decide +kernel
theorem dX0_takeOff_4 : decode cX0_takeOff 4 = .ok (.iload_n 1, 1) := by decide +kernel
theorem dX0_takeOff_5 : decode cX0_takeOff 5 = .ok (.dup2, 1) := by decide +kernel
theorem dX0_takeOff_6 : decode cX0_takeOff 6 = .ok (.iaload, 1) := by decide +kernel
theorem dX0_takeOff_7 : decode cX0_takeOff 7 = .ok (.iload_n 2, 1) := by decide +kernel
theorem dX0_takeOff_8 : decode cX0_takeOff 8 = .ok (.isub, 1) := by decide +kernel
theorem dX0_takeOff_9 : decode cX0_takeOff 9 = .ok (.iastore, 1) := by decide +kernel
theorem dX0_takeOff_10 : decode cX0_takeOff 10 = .ok (.aload_n 0, 1) := by decide +kernel
theorem dX0_takeOff_11 : decode cX0_takeOff 11 = .ok (.iconst (-1), 1) := by decide +kernel
theorem dX0_takeOff_12 : decode cX0_takeOff 12 = .ok (.putfield 43, 3) := by decide +kernel
theorem dX0_takeOff_15 : decode cX0_takeOff 15 = .ok (.aload_n 0, 1) := by decide +kernel
theorem dX0_takeOff_16 : decode cX0_takeOff 16 = .ok (.getfield 20, 3) := by decide +kernel
theorem dX0_takeOff_19 : decode cX0_takeOff 19 = .ok (.getfield 67, 3) := by decide +kernel
theorem dX0_takeOff_22 : decode cX0_takeOff 22 = .ok (.iload_n 1, 1) := by decide +kernel
theorem dX0_takeOff_23 : decode cX0_takeOff 23 = .ok (.iaload, 1) := by decide +kernel
theorem dX0_takeOff_24 : decode cX0_takeOff 24 = .ok (.iload_n 2, 1) := by decide +kernel
theorem dX0_takeOff_25 : decode cX0_takeOff 25 = .ok (.imul, 1) := by decide +kernel
theorem dX0_takeOff_26 : decode cX0_takeOff 26 = .ok (.ireturn, 1) := by decide +kernel
theorem dX1_init_0 : decode cX1_init 0 = .ok (.aload_n 0, 1) := by decide +kernel
theorem dX1_init_1 : decode cX1_init 1 = .ok (.invokespecial 7, 3) := by decide +kernel
theorem dX1_init_4 : decode cX1_init 4 = .ok (.aload_n 0, 1) := by decide +kernel
theorem dX1_init_5 : decode cX1_init 5 = .ok (.bipush 8, 2) := by decide +kernel
theorem dX1_init_7 : decode cX1_init 7 = .ok (.newarray .int, 2) := by decide +kernel
theorem dX1_init_9 : decode cX1_init 9 = .ok (.putfield 13, 3) := by decide +kernel
theorem dX1_init_12 : decode cX1_init 12 = .ok (.aload_n 0, 1) := by decide +kernel
theorem dX1_init_13 : decode cX1_init 13 = .ok (.ldc2_w 17, 3) := by decide +kernel
theorem dX1_init_16 : decode cX1_init 16 = .ok (.putfield 19, 3) := by decide +kernel
theorem dX1_init_19 : decode cX1_init 19 = .ok (.aload_n 0, 1) := by decide +kernel
theorem dX1_init_20 : decode cX1_init 20 = .ok (.bipush 24, 2) := by decide +kernel
theorem dX1_init_22 : decode cX1_init 22 = .ok (.newarray .int, 2) := by decide +kernel
theorem dX1_init_24 : decode cX1_init 24 = .ok (.putfield 23, 3) := by decide +kernel
theorem dX1_init_27 : decode cX1_init 27 = .ok (.aload_n 0, 1) := by decide +kernel
theorem dX1_init_28 : decode cX1_init 28 = .ok (.bipush 24, 2) := by decide +kernel
theorem dX1_init_30 : decode cX1_init 30 = .ok (.newarray .int, 2) := by decide +kernel
theorem dX1_init_32 : decode cX1_init 32 = .ok (.putfield 26, 3) := by decide +kernel
theorem dX1_init_35 : decode cX1_init 35 = .ok (.aload_n 0, 1) := by decide +kernel
theorem dX1_init_36 : decode cX1_init 36 = .ok (.bipush 24, 2) := by decide +kernel
theorem dX1_init_38 : decode cX1_init 38 = .ok (.newarray .int, 2) := by decide +kernel
theorem dX1_init_40 : decode cX1_init 40 = .ok (.putfield 29, 3) := by decide +kernel
theorem dX1_init_43 : decode cX1_init 43 = .ok (.aload_n 0, 1) := by decide +kernel
theorem dX1_init_44 : decode cX1_init 44 = .ok (.bipush 24, 2) := by decide +kernel
theorem dX1_init_46 : decode cX1_init 46 = .ok (.newarray .int, 2) := by decide +kernel
theorem dX1_init_48 : decode cX1_init 48 = .ok (.putfield 32, 3) := by decide +kernel
theorem dX1_init_51 : decode cX1_init 51 = .ok (.aload_n 0, 1) := by decide +kernel
theorem dX1_init_52 : decode cX1_init 52 = .ok (.bipush 24, 2) := by decide +kernel
theorem dX1_init_54 : decode cX1_init 54 = .ok (.newarray .long, 2) := by decide +kernel
theorem dX1_init_56 : decode cX1_init 56 = .ok (.putfield 35, 3) := by decide +kernel
theorem dX1_init_59 : decode cX1_init 59 = .ok (.aload_n 0, 1) := by decide +kernel
theorem dX1_init_60 : decode cX1_init 60 = .ok (.bipush 24, 2) := by decide +kernel
theorem dX1_init_62 : decode cX1_init 62 = .ok (.newarray .int, 2) := by decide +kernel
theorem dX1_init_64 : decode cX1_init 64 = .ok (.putfield 39, 3) := by decide +kernel
theorem dX1_init_67 : decode cX1_init 67 = .ok (.return_, 1) := by decide +kernel
theorem dX1_forget_0 : decode cX1_forget 0 = .ok (.aload_n 0, 1) := by decide +kernel
theorem dX1_forget_1 : decode cX1_forget 1 = .ok (.iconst 0, 1) := by decide +kernel
theorem dX1_forget_2 : decode cX1_forget 2 = .ok (.putfield 42, 3) := by decide +kernel
theorem dX1_forget_5 : decode cX1_forget 5 = .ok (.return_, 1) := by decide +kernel
theorem dX1_addNote_0 : decode cX1_addNote 0 = .ok (.aload_n 0, 1) := by decide +kernel
theorem dX1_addNote_1 : decode cX1_addNote 1 = .ok (.getfield 13, 3) := by decide +kernel
theorem dX1_addNote_4 : decode cX1_addNote 4 = .ok (.aload_n 0, 1) := by decide +kernel
theorem dX1_addNote_5 : decode cX1_addNote 5 = .ok (.getfield 46, 3) := by decide +kernel
theorem dX1_addNote_8 : decode cX1_addNote 8 = .ok (.iload_n 1, 1) := by decide +kernel
theorem dX1_addNote_9 : decode cX1_addNote 9 = .ok (.iastore, 1) := by decide +kernel
theorem dX1_addNote_10 : decode cX1_addNote 10 = .ok (.aload_n 0, 1) := by decide +kernel
theorem dX1_addNote_11 : decode cX1_addNote 11 = .ok (.dup, 1) := by decide +kernel
theorem dX1_addNote_12 : decode cX1_addNote 12 = .ok (.getfield 46, 3) := by decide +kernel
theorem dX1_addNote_15 : decode cX1_addNote 15 = .ok (.iconst 1, 1) := by decide +kernel
theorem dX1_addNote_16 : decode cX1_addNote 16 = .ok (.iadd, 1) := by decide +kernel
theorem dX1_addNote_17 : decode cX1_addNote 17 = .ok (.putfield 46, 3) := by decide +kernel
theorem dX1_addNote_20 : decode cX1_addNote 20 = .ok (.aload_n 0, 1) := by decide +kernel
theorem dX1_addNote_21 : decode cX1_addNote 21 = .ok (.iconst 0, 1) := by decide +kernel
theorem dX1_addNote_22 : decode cX1_addNote 22 = .ok (.putfield 42, 3) := by decide +kernel
theorem dX1_addNote_25 : decode cX1_addNote 25 = .ok (.return_, 1) := by decide +kernel
theorem dX1_startAnew_0 : decode cX1_startAnew 0 = .ok (.aload_n 0, 1) := by decide +kernel
theorem dX1_startAnew_1 : decode cX1_startAnew 1 = .ok (.iconst 0, 1) := by decide +kernel
theorem dX1_startAnew_2 : decode cX1_startAnew 2 = .ok (.putfield 46, 3) := by decide +kernel
theorem dX1_startAnew_5 : decode cX1_startAnew 5 = .ok (.aload_n 0, 1) := by decide +kernel
theorem dX1_startAnew_6 : decode cX1_startAnew 6 = .ok (.iload_n 1, 1) := by decide +kernel
theorem dX1_startAnew_7 : decode cX1_startAnew 7 = .ok (.putfield 50, 3) := by decide +kernel
theorem dX1_startAnew_10 : decode cX1_startAnew 10 = .ok (.aload_n 0, 1) := by decide +kernel
theorem dX1_startAnew_11 : decode cX1_startAnew 11 = .ok (.iconst 0, 1) := by decide +kernel
theorem dX1_startAnew_12 : decode cX1_startAnew 12 = .ok (.putfield 42, 3) := by decide +kernel
theorem dX1_startAnew_15 : decode cX1_startAnew 15 = .ok (.return_, 1) := by decide +kernel
theorem dX1_chosenWeight_0 : decode cX1_chosenWeight 0 = .ok (.aload_n 0, 1) := by decide +kernel
theorem dX1_chosenWeight_1 : decode cX1_chosenWeight 1 = .ok (.getfield 19, 3) := by decide +kernel
theorem dX1_chosenWeight_4 : decode cX1_chosenWeight 4 = .ok (.ldc2_w 17, 3) := by decide +kernel
theorem dX1_chosenWeight_7 : decode cX1_chosenWeight 7 = .ok (.lcmp, 1) := by decide +kernel
theorem dX1_chosenWeight_8 : decode cX1_chosenWeight 8 = .ok (.ifCond .ne 7, 3) := by decide +kernel
theorem dX1_chosenWeight_11 : decode cX1_chosenWeight 11 = .ok (.iconst (-1), 1) := by decide +kernel
theorem dX1_chosenWeight_12 : decode cX1_chosenWeight 12 = .ok (.goto 11, 3) := by decide +kernel
theorem dX1_chosenWeight_15 : decode cX1_chosenWeight 15 = .ok (.aload_n 0, 1) := by decide +kernel
theorem dX1_chosenWeight_16 : decode cX1_chosenWeight 16 = .ok (.getfield 19, 3) := by decide +kernel
theorem dX1_chosenWeight_19 : decode cX1_chosenWeight 19 = .ok (.bipush 40, 2) := by decide +kernel
theorem dX1_chosenWeight_21 : decode cX1_chosenWeight 21 = .ok (.lshr, 1) := by decide +kernel
theorem dX1_chosenWeight_22 : decode cX1_chosenWeight 22 = .ok (.l2i, 1) := by decide +kernel
theorem dX1_chosenWeight_23 : decode cX1_chosenWeight 23 = .ok (.ireturn, 1) := by decide +kernel
theorem dX1_chosenBell_0 : decode cX1_chosenBell 0 = .ok (.aload_n 0, 1) := by decide +kernel
theorem dX1_chosenBell_1 : decode cX1_chosenBell 1 = .ok (.getfield 19, 3) := by decide +kernel
theorem dX1_chosenBell_4 : decode cX1_chosenBell 4 = .ok (.ldc2_w 17, 3) := by decide +kernel
theorem dX1_chosenBell_7 : decode cX1_chosenBell 7 = .ok (.lcmp, 1) := by decide +kernel
theorem dX1_chosenBell_8 : decode cX1_chosenBell 8 = .ok (.ifCond .ne 5, 3) := by decide +kernel
theorem dX1_chosenBell_11 : decode cX1_chosenBell 11 = .ok (.iconst (-1), 1) := by decide +kernel
theorem dX1_chosenBell_12 : decode cX1_chosenBell 12 = .ok (.ireturn, 1) := by decide +kernel
theorem dX1_chosenBell_13 : decode cX1_chosenBell 13 = .ok (.aload_n 0, 1) := by decide +kernel
theorem dX1_chosenBell_14 : decode cX1_chosenBell 14 = .ok (.getfield 19, 3) := by decide +kernel
theorem dX1_chosenBell_17 : decode cX1_chosenBell 17 = .ok (.iload_n 1, 1) := by decide +kernel
theorem dX1_chosenBell_18 : decode cX1_chosenBell 18 = .ok (.invokestatic 53, 3) := by decide +kernel
theorem dX1_chosenBell_21 : decode cX1_chosenBell 21 = .ok (.lshr, 1) := by decide +kernel
theorem dX1_chosenBell_22 : decode cX1_chosenBell 22 = .ok (.l2i, 1) := by decide +kernel
theorem dX1_chosenBell_23 : decode cX1_chosenBell 23 = .ok (.bipush 31, 2) := by decide +kernel
theorem dX1_chosenBell_25 : decode cX1_chosenBell 25 = .ok (.iand, 1) := by decide +kernel
theorem dX1_chosenBell_26 : decode cX1_chosenBell 26 = .ok (.ireturn, 1) := by decide +kernel
theorem dX1_choose_0 : decode cX1_choose 0 = .ok (.aload_n 0, 1) := by decide +kernel
theorem dX1_choose_1 : decode cX1_choose 1 = .ok (.getfield 42, 3) := by decide +kernel
theorem dX1_choose_4 : decode cX1_choose 4 = .ok (.ifCond .eq 4, 3) := by decide +kernel
theorem dX1_choose_7 : decode cX1_choose 7 = .ok (.return_, 1) := by decide +kernel
theorem dX1_choose_8 : decode cX1_choose 8 = .ok (.aload_n 0, 1) := by decide +kernel
theorem dX1_choose_9 : decode cX1_choose 9 = .ok (.iconst 1, 1) := by decide +kernel
theorem dX1_choose_10 : decode cX1_choose 10 = .ok (.putfield 42, 3) := by decide +kernel
theorem dX1_choose_13 : decode cX1_choose 13 = .ok (.aload_n 0, 1) := by decide +kernel
theorem dX1_choose_14 : decode cX1_choose 14 = .ok (.ldc2_w 17, 3) := by decide +kernel
theorem dX1_choose_17 : decode cX1_choose 17 = .ok (.putfield 19, 3) := by decide +kernel
theorem dX1_choose_20 : decode cX1_choose 20 = .ok (.aload_n 0, 1) := by decide +kernel
theorem dX1_choose_21 : decode cX1_choose 21 = .ok (.getfield 46, 3) := by decide +kernel
theorem dX1_choose_24 : decode cX1_choose 24 = .ok (.ifCond .ne 4, 3) := by decide +kernel
theorem dX1_choose_27 : decode cX1_choose 27 = .ok (.return_, 1) := by decide +kernel
theorem dX1_choose_28 : decode cX1_choose 28 = .ok (.aload_n 0, 1) := by decide +kernel
theorem dX1_choose_29 : decode cX1_choose 29 = .ok (.aload_n 1, 1) := by decide +kernel
theorem dX1_choose_30 : decode cX1_choose 30 = .ok (.iload_n 2, 1) := by decide +kernel
theorem dX1_choose_31 : decode cX1_choose 31 = .ok (.invokevirtual 57, 3) := by decide +kernel
theorem dX1_choose_34 : decode cX1_choose 34 = .ok (.iconst 0, 1) := by decide +kernel
theorem dX1_choose_35 : decode cX1_choose 35 = .ok (.istore_n 3, 1) := by decide +kernel
theorem dX1_choose_36 : decode cX1_choose 36 = .ok (.iload_n 3, 1) := by decide +kernel
theorem dX1_choose_37 : decode cX1_choose 37 = .ok (.aload_n 0, 1) := by decide +kernel
theorem dX1_choose_38 : decode cX1_choose 38 = .ok (.getfield 61, 3) := by decide +kernel
theorem dX1_choose_41 : decode cX1_choose 41 = .ok (.if_icmp .ge 30, 3) := by decide +kernel
theorem dX1_choose_44 : decode cX1_choose 44 = .ok (.aload_n 0, 1) := by decide +kernel
theorem dX1_choose_45 : decode cX1_choose 45 = .ok (.aload_n 0, 1) := by decide +kernel
theorem dX1_choose_46 : decode cX1_choose 46 = .ok (.getfield 19, 3) := by decide +kernel
theorem dX1_choose_49 : decode cX1_choose 49 = .ok (.aload_n 0, 1) := by decide +kernel
theorem dX1_choose_50 : decode cX1_choose 50 = .ok (.aload_n 0, 1) := by decide +kernel
theorem dX1_choose_51 : decode cX1_choose 51 = .ok (.getfield 23, 3) := by decide +kernel
theorem dX1_choose_54 : decode cX1_choose 54 = .ok (.iload_n 3, 1) := by decide +kernel
theorem dX1_choose_55 : decode cX1_choose 55 = .ok (.iaload, 1) := by decide +kernel
theorem dX1_choose_56 : decode cX1_choose 56 = .ok (.invokevirtual 64, 3) := by decide +kernel
theorem dX1_choose_59 : decode cX1_choose 59 = .ok (.invokestatic 68, 3) := by decide +kernel
theorem dX1_choose_62 : decode cX1_choose 62 = .ok (.putfield 19, 3) := by decide +kernel
theorem dX1_choose_65 : decode cX1_choose 65 = .ok (.iinc 3 1, 3) := by decide +kernel
theorem dX1_choose_68 : decode cX1_choose 68 = .ok (.goto (-32), 3) := by decide +kernel
theorem dX1_choose_71 : decode cX1_choose 71 = .ok (.return_, 1) := by decide +kernel
theorem dX1_placeOf_0 : decode cX1_placeOf 0 = .ok (.iconst 5, 1) := by decide +kernel
theorem dX1_placeOf_1 : decode cX1_placeOf 1 = .ok (.bipush 7, 2) := by decide +kernel
theorem dX1_placeOf_3 : decode cX1_placeOf 3 = .ok (.iload_n 0, 1) := by decide +kernel
theorem dX1_placeOf_4 : decode cX1_placeOf 4 = .ok (.isub, 1) := by decide +kernel
theorem dX1_placeOf_5 : decode cX1_placeOf 5 = .ok (.imul, 1) := by decide +kernel
theorem dX1_placeOf_6 : decode cX1_placeOf 6 = .ok (.ireturn, 1) := by decide +kernel
theorem dX1_numberOf_0 : decode cX1_numberOf 0 = .ok (.aload_n 0, 1) := by decide +kernel
theorem dX1_numberOf_1 : decode cX1_numberOf 1 = .ok (.getfield 26, 3) := by decide +kernel
theorem dX1_numberOf_4 : decode cX1_numberOf 4 = .ok (.iload_n 2, 1) := by decide +kernel
theorem dX1_numberOf_5 : decode cX1_numberOf 5 = .ok (.iaload, 1) := by decide +kernel
theorem dX1_numberOf_6 : decode cX1_numberOf 6 = .ok (.i2l, 1) := by decide +kernel
theorem dX1_numberOf_7 : decode cX1_numberOf 7 = .ok (.bipush 40, 2) := by decide +kernel
theorem dX1_numberOf_9 : decode cX1_numberOf 9 = .ok (.lshl, 1) := by decide +kernel
theorem dX1_numberOf_10 : decode cX1_numberOf 10 = .ok (.iload_n 2, 1) := by decide +kernel
theorem dX1_numberOf_11 : decode cX1_numberOf 11 = .ok (.i2l, 1) := by decide +kernel
theorem dX1_numberOf_12 : decode cX1_numberOf 12 = .ok (.iload_n 1, 1) := by decide +kernel
theorem dX1_numberOf_13 : decode cX1_numberOf 13 = .ok (.invokestatic 53, 3) := by decide +kernel
theorem dX1_numberOf_16 : decode cX1_numberOf 16 = .ok (.lshl, 1) := by decide +kernel
theorem dX1_numberOf_17 : decode cX1_numberOf 17 = .ok (.ladd, 1) := by decide +kernel
theorem dX1_numberOf_18 : decode cX1_numberOf 18 = .ok (.lreturn, 1) := by decide +kernel
theorem dX1_weigh_0 : decode cX1_weigh 0 = .ok (.aload_n 0, 1) := by decide +kernel
theorem dX1_weigh_1 : decode cX1_weigh 1 = .ok (.iconst 0, 1) := by decide +kernel
theorem dX1_weigh_2 : decode cX1_weigh 2 = .ok (.putfield 61, 3) := by decide +kernel
theorem dX1_weigh_5 : decode cX1_weigh 5 = .ok (.iconst 0, 1) := by decide +kernel
theorem dX1_weigh_6 : decode cX1_weigh 6 = .ok (.istore_n 3, 1) := by decide +kernel
theorem dX1_weigh_7 : decode cX1_weigh 7 = .ok (.iload_n 3, 1) := by decide +kernel
theorem dX1_weigh_8 : decode cX1_weigh 8 = .ok (.iload_n 2, 1) := by decide +kernel
theorem dX1_weigh_9 : decode cX1_weigh 9 = .ok (.if_icmp .ge 70, 3) := by decide +kernel
theorem dX1_weigh_12 : decode cX1_weigh 12 = .ok (.aload_n 1, 1) := by decide +kernel
theorem dX1_weigh_13 : decode cX1_weigh 13 = .ok (.iload_n 3, 1) := by decide +kernel
theorem dX1_weigh_14 : decode cX1_weigh 14 = .ok (.aaload, 1) := by decide +kernel
theorem dX1_weigh_15 : decode cX1_weigh 15 = .ok (.astore 4, 2) := by decide +kernel
theorem dX1_weigh_17 : decode cX1_weigh 17 = .ok (.aload 4, 2) := by decide +kernel
theorem dX1_weigh_19 : decode cX1_weigh 19 = .ok (.ifnull 54, 3) := by decide +kernel
theorem dX1_weigh_22 : decode cX1_weigh 22 = .ok (.aload 4, 2) := by decide +kernel
theorem dX1_weigh_24 : decode cX1_weigh 24 = .ok (.getfield 74, 3) := by decide +kernel
theorem dX1_weigh_27 : decode cX1_weigh 27 = .ok (.ifCond .ne 46, 3) := by decide +kernel
theorem dX1_weigh_30 : decode cX1_weigh 30 = .ok (.aload_n 0, 1) := by decide +kernel
theorem dX1_weigh_31 : decode cX1_weigh 31 = .ok (.getfield 26, 3) := by decide +kernel
theorem dX1_weigh_34 : decode cX1_weigh 34 = .ok (.iload_n 3, 1) := by decide +kernel
theorem dX1_weigh_35 : decode cX1_weigh 35 = .ok (.aload 4, 2) := by decide +kernel
theorem dX1_weigh_37 : decode cX1_weigh 37 = .ok (.invokevirtual 79, 3) := by decide +kernel
theorem dX1_weigh_40 : decode cX1_weigh 40 = .ok (.iastore, 1) := by decide +kernel
theorem dX1_weigh_41 : decode cX1_weigh 41 = .ok (.aload_n 0, 1) := by decide +kernel
theorem dX1_weigh_42 : decode cX1_weigh 42 = .ok (.getfield 29, 3) := by decide +kernel
theorem dX1_weigh_45 : decode cX1_weigh 45 = .ok (.iload_n 3, 1) := by decide +kernel
theorem dX1_weigh_46 : decode cX1_weigh 46 = .ok (.aload 4, 2) := by decide +kernel
theorem dX1_weigh_48 : decode cX1_weigh 48 = .ok (.iconst 0, 1) := by decide +kernel
theorem dX1_weigh_49 : decode cX1_weigh 49 = .ok (.invokevirtual 83, 3) := by decide +kernel
theorem dX1_weigh_52 : decode cX1_weigh 52 = .ok (.iastore, 1) := by decide +kernel
theorem dX1_weigh_53 : decode cX1_weigh 53 = .ok (.aload_n 0, 1) := by decide +kernel
theorem dX1_weigh_54 : decode cX1_weigh 54 = .ok (.getfield 23, 3) := by decide +kernel
theorem dX1_weigh_57 : decode cX1_weigh 57 = .ok (.aload_n 0, 1) := by decide +kernel
theorem dX1_weigh_58 : decode cX1_weigh 58 = .ok (.getfield 61, 3) := by decide +kernel
theorem dX1_weigh_61 : decode cX1_weigh 61 = .ok (.iload_n 3, 1) := by decide +kernel
theorem dX1_weigh_62 : decode cX1_weigh 62 = .ok (.iastore, 1) := by decide +kernel
theorem dX1_weigh_63 : decode cX1_weigh 63 = .ok (.aload_n 0, 1) := by decide +kernel
theorem dX1_weigh_64 : decode cX1_weigh 64 = .ok (.dup, 1) := by decide +kernel
theorem dX1_weigh_65 : decode cX1_weigh 65 = .ok (.getfield 61, 3) := by decide +kernel
theorem dX1_weigh_68 : decode cX1_weigh 68 = .ok (.iconst 1, 1) := by decide +kernel
theorem dX1_weigh_69 : decode cX1_weigh 69 = .ok (.iadd, 1) := by decide +kernel
theorem dX1_weigh_70 : decode cX1_weigh 70 = .ok (.putfield 61, 3) := by decide +kernel
theorem dX1_weigh_73 : decode cX1_weigh 73 = .ok (.iinc 3 1, 3) := by decide +kernel
theorem dX1_weigh_76 : decode cX1_weigh 76 = .ok (.goto (-69), 3) := by decide +kernel
theorem dX1_weigh_79 : decode cX1_weigh 79 = .ok (.return_, 1) := by decide +kernel
theorem dX1_leastWithFirst_0 : decode cX1_leastWithFirst 0 = .ok (.aload_n 0, 1) := by decide +kernel
theorem dX1_leastWithFirst_1 : decode cX1_leastWithFirst 1 = .ok (.getfield 32, 3) := by decide +kernel
theorem dX1_leastWithFirst_4 : decode cX1_leastWithFirst 4 = .ok (.iconst (-1), 1) := by decide +kernel
theorem dX1_leastWithFirst_5 : decode cX1_leastWithFirst 5 = .ok (.invokestatic 86, 3) := by decide +kernel
theorem dX1_leastWithFirst_8 : decode cX1_leastWithFirst 8 = .ok (.aload_n 0, 1) := by decide +kernel
theorem dX1_leastWithFirst_9 : decode cX1_leastWithFirst 9 = .ok (.iconst 0, 1) := by decide +kernel
theorem dX1_leastWithFirst_10 : decode cX1_leastWithFirst 10 = .ok (.iload_n 1, 1) := by decide +kernel
theorem dX1_leastWithFirst_11 : decode cX1_leastWithFirst 11 = .ok (.invokevirtual 92, 3) := by decide +kernel
theorem dX1_leastWithFirst_14 : decode cX1_leastWithFirst 14 = .ok (.lstore_n 2, 1) := by decide +kernel
theorem dX1_leastWithFirst_15 : decode cX1_leastWithFirst 15 = .ok (.iconst 1, 1) := by decide +kernel
theorem dX1_leastWithFirst_16 : decode cX1_leastWithFirst 16 = .ok (.istore 4, 2) := by decide +kernel
theorem dX1_leastWithFirst_18 : decode cX1_leastWithFirst 18 = .ok (.iload 4, 2) := by decide +kernel
theorem dX1_leastWithFirst_20 : decode cX1_leastWithFirst 20 = .ok (.aload_n 0, 1) := by decide +kernel
theorem dX1_leastWithFirst_21 : decode cX1_leastWithFirst 21 = .ok (.getfield 46, 3) := by decide +kernel
theorem dX1_leastWithFirst_24 : decode cX1_leastWithFirst 24 = .ok (.if_icmp .ge 47, 3) := by decide +kernel
theorem dX1_leastWithFirst_27 : decode cX1_leastWithFirst 27 = .ok (.lload_n 2, 1) := by decide +kernel
theorem dX1_leastWithFirst_28 : decode cX1_leastWithFirst 28 = .ok (.aload_n 0, 1) := by decide +kernel
theorem dX1_leastWithFirst_29 : decode cX1_leastWithFirst 29 = .ok (.getfield 19, 3) := by decide +kernel
theorem dX1_leastWithFirst_32 : decode cX1_leastWithFirst 32 = .ok (.lcmp, 1) := by decide +kernel
theorem dX1_leastWithFirst_33 : decode cX1_leastWithFirst 33 = .ok (.ifCond .ge 38, 3) := by decide +kernel
theorem dX1_leastWithFirst_36 : decode cX1_leastWithFirst 36 = .ok (.aload_n 0, 1) := by decide +kernel
theorem dX1_leastWithFirst_37 : decode cX1_leastWithFirst 37 = .ok (.iload 4, 2) := by decide +kernel
theorem dX1_leastWithFirst_39 : decode cX1_leastWithFirst 39 = .ok (.iload_n 1, 1) := by decide +kernel
theorem dX1_leastWithFirst_40 : decode cX1_leastWithFirst 40 = .ok (.invokevirtual 96, 3) := by decide +kernel
theorem dX1_leastWithFirst_43 : decode cX1_leastWithFirst 43 = .ok (.lstore 5, 2) := by decide +kernel
theorem dX1_leastWithFirst_45 : decode cX1_leastWithFirst 45 = .ok (.lload 5, 2) := by decide +kernel
theorem dX1_leastWithFirst_47 : decode cX1_leastWithFirst 47 = .ok (.ldc2_w 17, 3) := by decide +kernel
theorem dX1_leastWithFirst_50 : decode cX1_leastWithFirst 50 = .ok (.lcmp, 1) := by decide +kernel
theorem dX1_leastWithFirst_51 : decode cX1_leastWithFirst 51 = .ok (.ifCond .ne 9, 3) := by decide +kernel
theorem dX1_leastWithFirst_54 : decode cX1_leastWithFirst 54 = .ok (.ldc2_w 17, 3) := by decide +kernel
theorem dX1_leastWithFirst_57 : decode cX1_leastWithFirst 57 = .ok (.goto 7, 3) := by decide +kernel
theorem dX1_leastWithFirst_60 : decode cX1_leastWithFirst 60 = .ok (.lload_n 2, 1) := by decide +kernel
theorem dX1_leastWithFirst_61 : decode cX1_leastWithFirst 61 = .ok (.lload 5, 2) := by decide +kernel
theorem dX1_leastWithFirst_63 : decode cX1_leastWithFirst 63 = .ok (.ladd, 1) := by decide +kernel
theorem dX1_leastWithFirst_64 : decode cX1_leastWithFirst 64 = .ok (.lstore_n 2, 1) := by decide +kernel
theorem dX1_leastWithFirst_65 : decode cX1_leastWithFirst 65 = .ok (.iinc 4 1, 3) := by decide +kernel
theorem dX1_leastWithFirst_68 : decode cX1_leastWithFirst 68 = .ok (.goto (-50), 3) := by decide +kernel
theorem dX1_leastWithFirst_71 : decode cX1_leastWithFirst 71 = .ok (.lload_n 2, 1) := by decide +kernel
theorem dX1_leastWithFirst_72 : decode cX1_leastWithFirst 72 = .ok (.lreturn, 1) := by decide +kernel
theorem dX1_seat_0 : decode cX1_seat 0 = .ok (.aload_n 0, 1) := by decide +kernel
theorem dX1_seat_1 : decode cX1_seat 1 = .ok (.getfield 35, 3) := by decide +kernel
theorem dX1_seat_4 : decode cX1_seat 4 = .ok (.ldc2_w 17, 3) := by decide +kernel
theorem dX1_seat_7 : decode cX1_seat 7 = .ok (.invokestatic 99, 3) := by decide +kernel
theorem dX1_seat_10 : decode cX1_seat 10 = .ok (.aload_n 0, 1) := by decide +kernel
theorem dX1_seat_11 : decode cX1_seat 11 = .ok (.iload_n 1, 1) := by decide +kernel
theorem dX1_seat_12 : decode cX1_seat 12 = .ok (.iload_n 2, 1) := by decide +kernel
theorem dX1_seat_13 : decode cX1_seat 13 = .ok (.iconst (-1), 1) := by decide +kernel
theorem dX1_seat_14 : decode cX1_seat 14 = .ok (.lconst 0, 1) := by decide +kernel
theorem dX1_seat_15 : decode cX1_seat 15 = .ok (.invokevirtual 102, 3) := by decide +kernel
theorem dX1_seat_18 : decode cX1_seat 18 = .ok (.istore_n 3, 1) := by decide +kernel
theorem dX1_seat_19 : decode cX1_seat 19 = .ok (.iconst 1, 1) := by decide +kernel
theorem dX1_seat_20 : decode cX1_seat 20 = .ok (.istore 4, 2) := by decide +kernel
theorem dX1_seat_22 : decode cX1_seat 22 = .ok (.iload 4, 2) := by decide +kernel
theorem dX1_seat_24 : decode cX1_seat 24 = .ok (.iload_n 1, 1) := by decide +kernel
theorem dX1_seat_25 : decode cX1_seat 25 = .ok (.if_icmp .ge 19, 3) := by decide +kernel
theorem dX1_seat_28 : decode cX1_seat 28 = .ok (.iload_n 3, 1) := by decide +kernel
theorem dX1_seat_29 : decode cX1_seat 29 = .ok (.ifCond .eq 15, 3) := by decide +kernel
theorem dX1_seat_32 : decode cX1_seat 32 = .ok (.aload_n 0, 1) := by decide +kernel
theorem dX1_seat_33 : decode cX1_seat 33 = .ok (.iload_n 2, 1) := by decide +kernel
theorem dX1_seat_34 : decode cX1_seat 34 = .ok (.invokevirtual 106, 3) := by decide +kernel
theorem dX1_seat_37 : decode cX1_seat 37 = .ok (.istore_n 3, 1) := by decide +kernel
theorem dX1_seat_38 : decode cX1_seat 38 = .ok (.iinc 4 1, 3) := by decide +kernel
theorem dX1_seat_41 : decode cX1_seat 41 = .ok (.goto (-19), 3) := by decide +kernel
theorem dX1_seat_44 : decode cX1_seat 44 = .ok (.aload_n 0, 1) := by decide +kernel
theorem dX1_seat_45 : decode cX1_seat 45 = .ok (.invokevirtual 110, 3) := by decide +kernel
theorem dX1_seat_48 : decode cX1_seat 48 = .ok (.istore 4, 2) := by decide +kernel
theorem dX1_seat_50 : decode cX1_seat 50 = .ok (.iload 4, 2) := by decide +kernel
theorem dX1_seat_52 : decode cX1_seat 52 = .ok (.iconst (-1), 1) := by decide +kernel
theorem dX1_seat_53 : decode cX1_seat 53 = .ok (.if_icmp .ne 7, 3) := by decide +kernel
theorem dX1_seat_56 : decode cX1_seat 56 = .ok (.ldc2_w 17, 3) := by decide +kernel
theorem dX1_seat_59 : decode cX1_seat 59 = .ok (.lreturn, 1) := by decide +kernel
theorem dX1_seat_60 : decode cX1_seat 60 = .ok (.aload_n 0, 1) := by decide +kernel
theorem dX1_seat_61 : decode cX1_seat 61 = .ok (.iload_n 1, 1) := by decide +kernel
theorem dX1_seat_62 : decode cX1_seat 62 = .ok (.iload 4, 2) := by decide +kernel
theorem dX1_seat_64 : decode cX1_seat 64 = .ok (.invokevirtual 113, 3) := by decide +kernel
theorem dX1_seat_67 : decode cX1_seat 67 = .ok (.aload_n 0, 1) := by decide +kernel
theorem dX1_seat_68 : decode cX1_seat 68 = .ok (.getfield 35, 3) := by decide +kernel
theorem dX1_seat_71 : decode cX1_seat 71 = .ok (.iload 4, 2) := by decide +kernel
theorem dX1_seat_73 : decode cX1_seat 73 = .ok (.laload, 1) := by decide +kernel
theorem dX1_seat_74 : decode cX1_seat 74 = .ok (.lreturn, 1) := by decide +kernel
theorem dX1_moveHolders_0 : decode cX1_moveHolders 0 = .ok (.iconst 0, 1) := by decide +kernel
theorem dX1_moveHolders_1 : decode cX1_moveHolders 1 = .ok (.istore_n 2, 1) := by decide +kernel
theorem dX1_moveHolders_2 : decode cX1_moveHolders 2 = .ok (.iconst 0, 1) := by decide +kernel
theorem dX1_moveHolders_3 : decode cX1_moveHolders 3 = .ok (.istore_n 3, 1) := by decide +kernel
theorem dX1_moveHolders_4 : decode cX1_moveHolders 4 = .ok (.iload_n 3, 1) := by decide +kernel
theorem dX1_moveHolders_5 : decode cX1_moveHolders 5 = .ok (.aload_n 0, 1) := by decide +kernel
theorem dX1_moveHolders_6 : decode cX1_moveHolders 6 = .ok (.getfield 61, 3) := by decide +kernel
theorem dX1_moveHolders_9 : decode cX1_moveHolders 9 = .ok (.if_icmp .ge 76, 3) := by decide +kernel
theorem dX1_moveHolders_12 : decode cX1_moveHolders 12 = .ok (.aload_n 0, 1) := by decide +kernel
theorem dX1_moveHolders_13 : decode cX1_moveHolders 13 = .ok (.getfield 23, 3) := by decide +kernel
theorem dX1_moveHolders_16 : decode cX1_moveHolders 16 = .ok (.iload_n 3, 1) := by decide +kernel
theorem dX1_moveHolders_17 : decode cX1_moveHolders 17 = .ok (.iaload, 1) := by decide +kernel
theorem dX1_moveHolders_18 : decode cX1_moveHolders 18 = .ok (.istore 4, 2) := by decide +kernel
theorem dX1_moveHolders_20 : decode cX1_moveHolders 20 = .ok (.aload_n 0, 1) := by decide +kernel
theorem dX1_moveHolders_21 : decode cX1_moveHolders 21 = .ok (.getfield 32, 3) := by decide +kernel
theorem dX1_moveHolders_24 : decode cX1_moveHolders 24 = .ok (.iload 4, 2) := by decide +kernel
theorem dX1_moveHolders_26 : decode cX1_moveHolders 26 = .ok (.iaload, 1) := by decide +kernel
theorem dX1_moveHolders_27 : decode cX1_moveHolders 27 = .ok (.istore 5, 2) := by decide +kernel
theorem dX1_moveHolders_29 : decode cX1_moveHolders 29 = .ok (.iload 5, 2) := by decide +kernel
theorem dX1_moveHolders_31 : decode cX1_moveHolders 31 = .ok (.iconst (-1), 1) := by decide +kernel
theorem dX1_moveHolders_32 : decode cX1_moveHolders 32 = .ok (.if_icmp .eq 47, 3) := by decide +kernel
theorem dX1_moveHolders_35 : decode cX1_moveHolders 35 = .ok (.aload_n 0, 1) := by decide +kernel
theorem dX1_moveHolders_36 : decode cX1_moveHolders 36 = .ok (.getfield 35, 3) := by decide +kernel
theorem dX1_moveHolders_39 : decode cX1_moveHolders 39 = .ok (.iload 4, 2) := by decide +kernel
theorem dX1_moveHolders_41 : decode cX1_moveHolders 41 = .ok (.laload, 1) := by decide +kernel
theorem dX1_moveHolders_42 : decode cX1_moveHolders 42 = .ok (.ldc2_w 17, 3) := by decide +kernel
theorem dX1_moveHolders_45 : decode cX1_moveHolders 45 = .ok (.lcmp, 1) := by decide +kernel
theorem dX1_moveHolders_46 : decode cX1_moveHolders 46 = .ok (.ifCond .eq 33, 3) := by decide +kernel
theorem dX1_moveHolders_49 : decode cX1_moveHolders 49 = .ok (.aload_n 0, 1) := by decide +kernel
theorem dX1_moveHolders_50 : decode cX1_moveHolders 50 = .ok (.iload 5, 2) := by decide +kernel
theorem dX1_moveHolders_52 : decode cX1_moveHolders 52 = .ok (.iload_n 1, 1) := by decide +kernel
theorem dX1_moveHolders_53 : decode cX1_moveHolders 53 = .ok (.iload 4, 2) := by decide +kernel
theorem dX1_moveHolders_55 : decode cX1_moveHolders 55 = .ok (.aload_n 0, 1) := by decide +kernel
theorem dX1_moveHolders_56 : decode cX1_moveHolders 56 = .ok (.getfield 35, 3) := by decide +kernel
theorem dX1_moveHolders_59 : decode cX1_moveHolders 59 = .ok (.iload 4, 2) := by decide +kernel
theorem dX1_moveHolders_61 : decode cX1_moveHolders 61 = .ok (.laload, 1) := by decide +kernel
theorem dX1_moveHolders_62 : decode cX1_moveHolders 62 = .ok (.aload_n 0, 1) := by decide +kernel
theorem dX1_moveHolders_63 : decode cX1_moveHolders 63 = .ok (.iload 5, 2) := by decide +kernel
theorem dX1_moveHolders_65 : decode cX1_moveHolders 65 = .ok (.iload 4, 2) := by decide +kernel
theorem dX1_moveHolders_67 : decode cX1_moveHolders 67 = .ok (.invokevirtual 92, 3) := by decide +kernel
theorem dX1_moveHolders_70 : decode cX1_moveHolders 70 = .ok (.lsub, 1) := by decide +kernel
theorem dX1_moveHolders_71 : decode cX1_moveHolders 71 = .ok (.invokevirtual 102, 3) := by decide +kernel
theorem dX1_moveHolders_74 : decode cX1_moveHolders 74 = .ok (.ifCond .eq 5, 3) := by decide +kernel
theorem dX1_moveHolders_77 : decode cX1_moveHolders 77 = .ok (.iconst 1, 1) := by decide +kernel
theorem dX1_moveHolders_78 : decode cX1_moveHolders 78 = .ok (.istore_n 2, 1) := by decide +kernel
theorem dX1_moveHolders_79 : decode cX1_moveHolders 79 = .ok (.iinc 3 1, 3) := by decide +kernel
theorem dX1_moveHolders_82 : decode cX1_moveHolders 82 = .ok (.goto (-78), 3) := by decide +kernel
theorem dX1_moveHolders_85 : decode cX1_moveHolders 85 = .ok (.iload_n 2, 1) := by decide +kernel
theorem dX1_moveHolders_86 : decode cX1_moveHolders 86 = .ok (.ireturn, 1) := by decide +kernel
theorem dX1_reachFrom_0 : decode cX1_reachFrom 0 = .ok (.iconst 0, 1) := by decide +kernel
theorem dX1_reachFrom_1 : decode cX1_reachFrom 1 = .ok (.istore 6, 2) := by decide +kernel
theorem dX1_reachFrom_3 : decode cX1_reachFrom 3 = .ok (.iconst 0, 1) := by decide +kernel
theorem dX1_reachFrom_4 : decode cX1_reachFrom 4 = .ok (.istore 7, 2) := by decide +kernel
theorem dX1_reachFrom_6 : decode cX1_reachFrom 6 = .ok (.iload 7, 2) := by decide +kernel
theorem dX1_reachFrom_8 : decode cX1_reachFrom 8 = .ok (.aload_n 0, 1) := by decide +kernel
theorem dX1_reachFrom_9 : decode cX1_reachFrom 9 = .ok (.getfield 61, 3) := by decide +kernel
theorem dX1_reachFrom_12 : decode cX1_reachFrom 12 = .ok (.if_icmp .ge 109, 3) := by decide +kernel
theorem dX1_reachFrom_15 : decode cX1_reachFrom 15 = .ok (.aload_n 0, 1) := by decide +kernel
theorem dX1_reachFrom_16 : decode cX1_reachFrom 16 = .ok (.getfield 23, 3) := by decide +kernel
theorem dX1_reachFrom_19 : decode cX1_reachFrom 19 = .ok (.iload 7, 2) := by decide +kernel
theorem dX1_reachFrom_21 : decode cX1_reachFrom 21 = .ok (.iaload, 1) := by decide +kernel
theorem dX1_reachFrom_22 : decode cX1_reachFrom 22 = .ok (.istore 8, 2) := by decide +kernel
theorem dX1_reachFrom_24 : decode cX1_reachFrom 24 = .ok (.aload_n 0, 1) := by decide +kernel
theorem dX1_reachFrom_25 : decode cX1_reachFrom 25 = .ok (.getfield 29, 3) := by decide +kernel
theorem dX1_reachFrom_28 : decode cX1_reachFrom 28 = .ok (.iload 8, 2) := by decide +kernel
theorem dX1_reachFrom_30 : decode cX1_reachFrom 30 = .ok (.iaload, 1) := by decide +kernel
theorem dX1_reachFrom_31 : decode cX1_reachFrom 31 = .ok (.aload_n 0, 1) := by decide +kernel
theorem dX1_reachFrom_32 : decode cX1_reachFrom 32 = .ok (.getfield 29, 3) := by decide +kernel
theorem dX1_reachFrom_35 : decode cX1_reachFrom 35 = .ok (.iload_n 2, 1) := by decide +kernel
theorem dX1_reachFrom_36 : decode cX1_reachFrom 36 = .ok (.iaload, 1) := by decide +kernel
theorem dX1_reachFrom_37 : decode cX1_reachFrom 37 = .ok (.isub, 1) := by decide +kernel
theorem dX1_reachFrom_38 : decode cX1_reachFrom 38 = .ok (.aload_n 0, 1) := by decide +kernel
theorem dX1_reachFrom_39 : decode cX1_reachFrom 39 = .ok (.getfield 13, 3) := by decide +kernel
theorem dX1_reachFrom_42 : decode cX1_reachFrom 42 = .ok (.iload_n 1, 1) := by decide +kernel
theorem dX1_reachFrom_43 : decode cX1_reachFrom 43 = .ok (.iaload, 1) := by decide +kernel
theorem dX1_reachFrom_44 : decode cX1_reachFrom 44 = .ok (.isub, 1) := by decide +kernel
theorem dX1_reachFrom_45 : decode cX1_reachFrom 45 = .ok (.istore 9, 2) := by decide +kernel
theorem dX1_reachFrom_47 : decode cX1_reachFrom 47 = .ok (.lload 4, 2) := by decide +kernel
theorem dX1_reachFrom_49 : decode cX1_reachFrom 49 = .ok (.aload_n 0, 1) := by decide +kernel
theorem dX1_reachFrom_50 : decode cX1_reachFrom 50 = .ok (.iload_n 1, 1) := by decide +kernel
theorem dX1_reachFrom_51 : decode cX1_reachFrom 51 = .ok (.iload 8, 2) := by decide +kernel
theorem dX1_reachFrom_53 : decode cX1_reachFrom 53 = .ok (.invokevirtual 92, 3) := by decide +kernel
theorem dX1_reachFrom_56 : decode cX1_reachFrom 56 = .ok (.ladd, 1) := by decide +kernel
theorem dX1_reachFrom_57 : decode cX1_reachFrom 57 = .ok (.lstore 10, 2) := by decide +kernel
theorem dX1_reachFrom_59 : decode cX1_reachFrom 59 = .ok (.iload 8, 2) := by decide +kernel
theorem dX1_reachFrom_61 : decode cX1_reachFrom 61 = .ok (.iload_n 2, 1) := by decide +kernel
theorem dX1_reachFrom_62 : decode cX1_reachFrom 62 = .ok (.if_icmp .eq 53, 3) := by decide +kernel
theorem dX1_reachFrom_65 : decode cX1_reachFrom 65 = .ok (.iload 9, 2) := by decide +kernel
theorem dX1_reachFrom_67 : decode cX1_reachFrom 67 = .ok (.aload_n 0, 1) := by decide +kernel
theorem dX1_reachFrom_68 : decode cX1_reachFrom 68 = .ok (.getfield 50, 3) := by decide +kernel
theorem dX1_reachFrom_71 : decode cX1_reachFrom 71 = .ok (.ineg, 1) := by decide +kernel
theorem dX1_reachFrom_72 : decode cX1_reachFrom 72 = .ok (.aload_n 0, 1) := by decide +kernel
theorem dX1_reachFrom_73 : decode cX1_reachFrom 73 = .ok (.getfield 50, 3) := by decide +kernel
theorem dX1_reachFrom_76 : decode cX1_reachFrom 76 = .ok (.invokestatic 117, 3) := by decide +kernel
theorem dX1_reachFrom_79 : decode cX1_reachFrom 79 = .ok (.ifCond .eq 36, 3) := by decide +kernel
theorem dX1_reachFrom_82 : decode cX1_reachFrom 82 = .ok (.lload 10, 2) := by decide +kernel
theorem dX1_reachFrom_84 : decode cX1_reachFrom 84 = .ok (.aload_n 0, 1) := by decide +kernel
theorem dX1_reachFrom_85 : decode cX1_reachFrom 85 = .ok (.getfield 35, 3) := by decide +kernel
theorem dX1_reachFrom_88 : decode cX1_reachFrom 88 = .ok (.iload 8, 2) := by decide +kernel
theorem dX1_reachFrom_90 : decode cX1_reachFrom 90 = .ok (.laload, 1) := by decide +kernel
theorem dX1_reachFrom_91 : decode cX1_reachFrom 91 = .ok (.lcmp, 1) := by decide +kernel
theorem dX1_reachFrom_92 : decode cX1_reachFrom 92 = .ok (.ifCond .ge 23, 3) := by decide +kernel
theorem dX1_reachFrom_95 : decode cX1_reachFrom 95 = .ok (.aload_n 0, 1) := by decide +kernel
theorem dX1_reachFrom_96 : decode cX1_reachFrom 96 = .ok (.getfield 35, 3) := by decide +kernel
theorem dX1_reachFrom_99 : decode cX1_reachFrom 99 = .ok (.iload 8, 2) := by decide +kernel
theorem dX1_reachFrom_101 : decode cX1_reachFrom 101 = .ok (.lload 10, 2) := by decide +kernel
theorem dX1_reachFrom_103 : decode cX1_reachFrom 103 = .ok (.lastore, 1) := by decide +kernel
theorem dX1_reachFrom_104 : decode cX1_reachFrom 104 = .ok (.aload_n 0, 1) := by decide +kernel
theorem dX1_reachFrom_105 : decode cX1_reachFrom 105 = .ok (.getfield 39, 3) := by decide +kernel
theorem dX1_reachFrom_108 : decode cX1_reachFrom 108 = .ok (.iload 8, 2) := by decide +kernel
theorem dX1_reachFrom_110 : decode cX1_reachFrom 110 = .ok (.iload_n 3, 1) := by decide +kernel
theorem dX1_reachFrom_111 : decode cX1_reachFrom 111 = .ok (.iastore, 1) := by decide +kernel
theorem dX1_reachFrom_112 : decode cX1_reachFrom 112 = .ok (.iconst 1, 1) := by decide +kernel
theorem dX1_reachFrom_113 : decode cX1_reachFrom 113 = .ok (.istore 6, 2) := by decide +kernel
theorem dX1_reachFrom_115 : decode cX1_reachFrom 115 = .ok (.iinc 7 1, 3) := by decide +kernel
theorem dX1_reachFrom_118 : decode cX1_reachFrom 118 = .ok (.goto (-112), 3) := by decide +kernel
theorem dX1_reachFrom_121 : decode cX1_reachFrom 121 = .ok (.iload 6, 2) := by decide +kernel
theorem dX1_reachFrom_123 : decode cX1_reachFrom 123 = .ok (.ireturn, 1) := by decide +kernel
theorem dX1_nearestFree_0 : decode cX1_nearestFree 0 = .ok (.iconst (-1), 1) := by decide +kernel
theorem dX1_nearestFree_1 : decode cX1_nearestFree 1 = .ok (.istore_n 1, 1) := by decide +kernel
theorem dX1_nearestFree_2 : decode cX1_nearestFree 2 = .ok (.iconst 0, 1) := by decide +kernel
theorem dX1_nearestFree_3 : decode cX1_nearestFree 3 = .ok (.istore_n 2, 1) := by decide +kernel
theorem dX1_nearestFree_4 : decode cX1_nearestFree 4 = .ok (.iload_n 2, 1) := by decide +kernel
theorem dX1_nearestFree_5 : decode cX1_nearestFree 5 = .ok (.aload_n 0, 1) := by decide +kernel
theorem dX1_nearestFree_6 : decode cX1_nearestFree 6 = .ok (.getfield 61, 3) := by decide +kernel
theorem dX1_nearestFree_9 : decode cX1_nearestFree 9 = .ok (.if_icmp .ge 62, 3) := by decide +kernel
theorem dX1_nearestFree_12 : decode cX1_nearestFree 12 = .ok (.aload_n 0, 1) := by decide +kernel
theorem dX1_nearestFree_13 : decode cX1_nearestFree 13 = .ok (.getfield 23, 3) := by decide +kernel
theorem dX1_nearestFree_16 : decode cX1_nearestFree 16 = .ok (.iload_n 2, 1) := by decide +kernel
theorem dX1_nearestFree_17 : decode cX1_nearestFree 17 = .ok (.iaload, 1) := by decide +kernel
theorem dX1_nearestFree_18 : decode cX1_nearestFree 18 = .ok (.istore_n 3, 1) := by decide +kernel
theorem dX1_nearestFree_19 : decode cX1_nearestFree 19 = .ok (.aload_n 0, 1) := by decide +kernel
theorem dX1_nearestFree_20 : decode cX1_nearestFree 20 = .ok (.getfield 32, 3) := by decide +kernel
theorem dX1_nearestFree_23 : decode cX1_nearestFree 23 = .ok (.iload_n 3, 1) := by decide +kernel
theorem dX1_nearestFree_24 : decode cX1_nearestFree 24 = .ok (.iaload, 1) := by decide +kernel
theorem dX1_nearestFree_25 : decode cX1_nearestFree 25 = .ok (.iconst (-1), 1) := by decide +kernel
theorem dX1_nearestFree_26 : decode cX1_nearestFree 26 = .ok (.if_icmp .ne 39, 3) := by decide +kernel
theorem dX1_nearestFree_29 : decode cX1_nearestFree 29 = .ok (.aload_n 0, 1) := by decide +kernel
theorem dX1_nearestFree_30 : decode cX1_nearestFree 30 = .ok (.getfield 35, 3) := by decide +kernel
theorem dX1_nearestFree_33 : decode cX1_nearestFree 33 = .ok (.iload_n 3, 1) := by decide +kernel
theorem dX1_nearestFree_34 : decode cX1_nearestFree 34 = .ok (.laload, 1) := by decide +kernel
theorem dX1_nearestFree_35 : decode cX1_nearestFree 35 = .ok (.ldc2_w 17, 3) := by decide +kernel
theorem dX1_nearestFree_38 : decode cX1_nearestFree 38 = .ok (.lcmp, 1) := by decide +kernel
theorem dX1_nearestFree_39 : decode cX1_nearestFree 39 = .ok (.ifCond .eq 26, 3) := by decide +kernel
theorem dX1_nearestFree_42 : decode cX1_nearestFree 42 = .ok (.iload_n 1, 1) := by decide +kernel
theorem dX1_nearestFree_43 : decode cX1_nearestFree 43 = .ok (.iconst (-1), 1) := by decide +kernel
theorem dX1_nearestFree_44 : decode cX1_nearestFree 44 = .ok (.if_icmp .eq 19, 3) := by decide +kernel
theorem dX1_nearestFree_47 : decode cX1_nearestFree 47 = .ok (.aload_n 0, 1) := by decide +kernel
theorem dX1_nearestFree_48 : decode cX1_nearestFree 48 = .ok (.getfield 35, 3) := by decide +kernel
theorem dX1_nearestFree_51 : decode cX1_nearestFree 51 = .ok (.iload_n 3, 1) := by decide +kernel
theorem dX1_nearestFree_52 : decode cX1_nearestFree 52 = .ok (.laload, 1) := by decide +kernel
theorem dX1_nearestFree_53 : decode cX1_nearestFree 53 = .ok (.aload_n 0, 1) := by decide +kernel
theorem dX1_nearestFree_54 : decode cX1_nearestFree 54 = .ok (.getfield 35, 3) := by decide +kernel
theorem dX1_nearestFree_57 : decode cX1_nearestFree 57 = .ok (.iload_n 1, 1) := by decide +kernel
theorem dX1_nearestFree_58 : decode cX1_nearestFree 58 = .ok (.laload, 1) := by decide +kernel
theorem dX1_nearestFree_59 : decode cX1_nearestFree 59 = .ok (.lcmp, 1) := by decide +kernel
theorem dX1_nearestFree_60 : decode cX1_nearestFree 60 = .ok (.ifCond .ge 5, 3) := by decide +kernel
theorem dX1_nearestFree_63 : decode cX1_nearestFree 63 = .ok (.iload_n 3, 1) := by decide +kernel
theorem dX1_nearestFree_64 : decode cX1_nearestFree 64 = .ok (.istore_n 1, 1) := by decide +kernel
theorem dX1_nearestFree_65 : decode cX1_nearestFree 65 = .ok (.iinc 2 1, 3) := by decide +kernel
theorem dX1_nearestFree_68 : decode cX1_nearestFree 68 = .ok (.goto (-64), 3) := by decide +kernel
theorem dX1_nearestFree_71 : decode cX1_nearestFree 71 = .ok (.iload_n 1, 1) := by decide +kernel
theorem dX1_nearestFree_72 : decode cX1_nearestFree 72 = .ok (.ireturn, 1) := by decide +kernel
theorem dX1_passAlong_0 : decode cX1_passAlong 0 = .ok (.iload_n 2, 1) := by decide +kernel
theorem dX1_passAlong_1 : decode cX1_passAlong 1 = .ok (.istore_n 3, 1) := by decide +kernel
theorem dX1_passAlong_2 : decode cX1_passAlong 2 = .ok (.iconst 0, 1) := by decide +kernel
theorem dX1_passAlong_3 : decode cX1_passAlong 3 = .ok (.istore 4, 2) := by decide +kernel
theorem dX1_passAlong_5 : decode cX1_passAlong 5 = .ok (.iload 4, 2) := by decide +kernel
theorem dX1_passAlong_7 : decode cX1_passAlong 7 = .ok (.iload_n 1, 1) := by decide +kernel
theorem dX1_passAlong_8 : decode cX1_passAlong 8 = .ok (.if_icmp .ge 48, 3) := by decide +kernel
theorem dX1_passAlong_11 : decode cX1_passAlong 11 = .ok (.iload_n 3, 1) := by decide +kernel
theorem dX1_passAlong_12 : decode cX1_passAlong 12 = .ok (.iconst (-1), 1) := by decide +kernel
theorem dX1_passAlong_13 : decode cX1_passAlong 13 = .ok (.if_icmp .eq 43, 3) := by decide +kernel
theorem dX1_passAlong_16 : decode cX1_passAlong 16 = .ok (.aload_n 0, 1) := by decide +kernel
theorem dX1_passAlong_17 : decode cX1_passAlong 17 = .ok (.getfield 39, 3) := by decide +kernel
theorem dX1_passAlong_20 : decode cX1_passAlong 20 = .ok (.iload_n 3, 1) := by decide +kernel
theorem dX1_passAlong_21 : decode cX1_passAlong 21 = .ok (.iaload, 1) := by decide +kernel
theorem dX1_passAlong_22 : decode cX1_passAlong 22 = .ok (.istore 5, 2) := by decide +kernel
theorem dX1_passAlong_24 : decode cX1_passAlong 24 = .ok (.aload_n 0, 1) := by decide +kernel
theorem dX1_passAlong_25 : decode cX1_passAlong 25 = .ok (.getfield 32, 3) := by decide +kernel
theorem dX1_passAlong_28 : decode cX1_passAlong 28 = .ok (.iload_n 3, 1) := by decide +kernel
theorem dX1_passAlong_29 : decode cX1_passAlong 29 = .ok (.iload 5, 2) := by decide +kernel
theorem dX1_passAlong_31 : decode cX1_passAlong 31 = .ok (.iconst (-1), 1) := by decide +kernel
theorem dX1_passAlong_32 : decode cX1_passAlong 32 = .ok (.if_icmp .ne 7, 3) := by decide +kernel
theorem dX1_passAlong_35 : decode cX1_passAlong 35 = .ok (.iload_n 1, 1) := by decide +kernel
theorem dX1_passAlong_36 : decode cX1_passAlong 36 = .ok (.goto 10, 3) := by decide +kernel
theorem dX1_passAlong_39 : decode cX1_passAlong 39 = .ok (.aload_n 0, 1) := by decide +kernel
theorem dX1_passAlong_40 : decode cX1_passAlong 40 = .ok (.getfield 32, 3) := by decide +kernel
theorem dX1_passAlong_43 : decode cX1_passAlong 43 = .ok (.iload 5, 2) := by decide +kernel
theorem dX1_passAlong_45 : decode cX1_passAlong 45 = .ok (.iaload, 1) := by decide +kernel
theorem dX1_passAlong_46 : decode cX1_passAlong 46 = .ok (.iastore, 1) := by decide +kernel
theorem dX1_passAlong_47 : decode cX1_passAlong 47 = .ok (.iload 5, 2) := by decide +kernel
theorem dX1_passAlong_49 : decode cX1_passAlong 49 = .ok (.istore_n 3, 1) := by decide +kernel
theorem dX1_passAlong_50 : decode cX1_passAlong 50 = .ok (.iinc 4 1, 3) := by decide +kernel
theorem dX1_passAlong_53 : decode cX1_passAlong 53 = .ok (.goto (-48), 3) := by decide +kernel
theorem dX1_passAlong_56 : decode cX1_passAlong 56 = .ok (.return_, 1) := by decide +kernel
theorem dX2_init_0 : decode cX2_init 0 = .ok (.aload_n 0, 1) := by decide +kernel
theorem dX2_init_1 : decode cX2_init 1 = .ok (.invokespecial 3, 3) := by decide +kernel
theorem dX2_init_4 : decode cX2_init 4 = .ok (.aload_n 0, 1) := by decide +kernel
theorem dX2_init_5 : decode cX2_init 5 = .ok (.iload_n 1, 1) := by decide +kernel
theorem dX2_init_6 : decode cX2_init 6 = .ok (.putfield 9, 3) := by decide +kernel
theorem dX2_init_9 : decode cX2_init 9 = .ok (.aload_n 0, 1) := by decide +kernel
theorem dX2_init_10 : decode cX2_init 10 = .ok (.iconst 5, 1) := by decide +kernel
theorem dX2_init_11 : decode cX2_init 11 = .ok (.newarray .int, 2) := by decide +kernel
theorem dX2_init_13 : decode cX2_init 13 = .ok (.putfield 15, 3) := by decide +kernel
theorem dX2_init_16 : decode cX2_init 16 = .ok (.aload_n 0, 1) := by decide +kernel
theorem dX2_init_17 : decode cX2_init 17 = .ok (.bipush 40, 2) := by decide +kernel
theorem dX2_init_19 : decode cX2_init 19 = .ok (.newarray .int, 2) := by decide +kernel
theorem dX2_init_21 : decode cX2_init 21 = .ok (.putfield 19, 3) := by decide +kernel
theorem dX2_init_24 : decode cX2_init 24 = .ok (.aload_n 0, 1) := by decide +kernel
theorem dX2_init_25 : decode cX2_init 25 = .ok (.bipush 8, 2) := by decide +kernel
theorem dX2_init_27 : decode cX2_init 27 = .ok (.newarray .int, 2) := by decide +kernel
theorem dX2_init_29 : decode cX2_init 29 = .ok (.putfield 22, 3) := by decide +kernel
theorem dX2_init_32 : decode cX2_init 32 = .ok (.aload_n 0, 1) := by decide +kernel
theorem dX2_init_33 : decode cX2_init 33 = .ok (.bipush 8, 2) := by decide +kernel
theorem dX2_init_35 : decode cX2_init 35 = .ok (.newarray .int, 2) := by decide +kernel
theorem dX2_init_37 : decode cX2_init 37 = .ok (.putfield 25, 3) := by decide +kernel
theorem dX2_init_40 : decode cX2_init 40 = .ok (.aload_n 0, 1) := by decide +kernel
theorem dX2_init_41 : decode cX2_init 41 = .ok (.bipush 8, 2) := by decide +kernel
theorem dX2_init_43 : decode cX2_init 43 = .ok (.newarray .int, 2) := by decide +kernel
theorem dX2_init_45 : decode cX2_init 45 = .ok (.putfield 28, 3) := by decide +kernel
theorem dX2_init_48 : decode cX2_init 48 = .ok (.aload_n 0, 1) := by decide +kernel
theorem dX2_init_49 : decode cX2_init 49 = .ok (.getfield 22, 3) := by decide +kernel
theorem dX2_init_52 : decode cX2_init 52 = .ok (.iconst 1, 1) := by decide +kernel
theorem dX2_init_53 : decode cX2_init 53 = .ok (.invokestatic 31, 3) := by decide +kernel
theorem dX2_init_56 : decode cX2_init 56 = .ok (.return_, 1) := by decide +kernel
theorem dX2_init__0 : decode cX2_init_ 0 = .ok (.aload_n 0, 1) := by decide +kernel
theorem dX2_init__1 : decode cX2_init_ 1 = .ok (.invokespecial 3, 3) := by decide +kernel
theorem dX2_init__4 : decode cX2_init_ 4 = .ok (.aload_n 0, 1) := by decide +kernel
theorem dX2_init__5 : decode cX2_init_ 5 = .ok (.aload_n 1, 1) := by decide +kernel
theorem dX2_init__6 : decode cX2_init_ 6 = .ok (.getfield 9, 3) := by decide +kernel
theorem dX2_init__9 : decode cX2_init_ 9 = .ok (.putfield 9, 3) := by decide +kernel
theorem dX2_init__12 : decode cX2_init_ 12 = .ok (.aload_n 0, 1) := by decide +kernel
theorem dX2_init__13 : decode cX2_init_ 13 = .ok (.aload_n 1, 1) := by decide +kernel
theorem dX2_init__14 : decode cX2_init_ 14 = .ok (.getfield 15, 3) := by decide +kernel
theorem dX2_init__17 : decode cX2_init_ 17 = .ok (.invokevirtual 37, 3) := by decide +kernel
theorem dX2_init__20 : decode cX2_init_ 20 = .ok (.checkcast 38, 3) := by decide +kernel
theorem dX2_init__23 : decode cX2_init_ 23 = .ok (.putfield 15, 3) := by decide +kernel
theorem dX2_init__26 : decode cX2_init_ 26 = .ok (.aload_n 0, 1) := by decide +kernel
theorem dX2_init__27 : decode cX2_init_ 27 = .ok (.aload_n 1, 1) := by decide +kernel
theorem dX2_init__28 : decode cX2_init_ 28 = .ok (.getfield 19, 3) := by decide +kernel
theorem dX2_init__31 : decode cX2_init_ 31 = .ok (.invokevirtual 37, 3) := by decide +kernel
theorem dX2_init__34 : decode cX2_init_ 34 = .ok (.checkcast 38, 3) := by decide +kernel
theorem dX2_init__37 : decode cX2_init_ 37 = .ok (.putfield 19, 3) := by decide +kernel
theorem dX2_init__40 : decode cX2_init_ 40 = .ok (.aload_n 0, 1) := by decide +kernel
theorem dX2_init__41 : decode cX2_init_ 41 = .ok (.aload_n 1, 1) := by decide +kernel
theorem dX2_init__42 : decode cX2_init_ 42 = .ok (.getfield 22, 3) := by decide +kernel
theorem dX2_init__45 : decode cX2_init_ 45 = .ok (.invokevirtual 37, 3) := by decide +kernel
theorem dX2_init__48 : decode cX2_init_ 48 = .ok (.checkcast 38, 3) := by decide +kernel
theorem dX2_init__51 : decode cX2_init_ 51 = .ok (.putfield 22, 3) := by decide +kernel
theorem dX2_init__54 : decode cX2_init_ 54 = .ok (.aload_n 0, 1) := by decide +kernel
theorem dX2_init__55 : decode cX2_init_ 55 = .ok (.aload_n 1, 1) := by decide +kernel
theorem dX2_init__56 : decode cX2_init_ 56 = .ok (.getfield 25, 3) := by decide +kernel
theorem dX2_init__59 : decode cX2_init_ 59 = .ok (.invokevirtual 37, 3) := by decide +kernel
theorem dX2_init__62 : decode cX2_init_ 62 = .ok (.checkcast 38, 3) := by decide +kernel
theorem dX2_init__65 : decode cX2_init_ 65 = .ok (.putfield 25, 3) := by decide +kernel
theorem dX2_init__68 : decode cX2_init_ 68 = .ok (.aload_n 0, 1) := by decide +kernel
theorem dX2_init__69 : decode cX2_init_ 69 = .ok (.aload_n 1, 1) := by decide +kernel
theorem dX2_init__70 : decode cX2_init_ 70 = .ok (.getfield 28, 3) := by decide +kernel
theorem dX2_init__73 : decode cX2_init_ 73 = .ok (.invokevirtual 37, 3) := by decide +kernel
theorem dX2_init__76 : decode cX2_init_ 76 = .ok (.checkcast 38, 3) := by decide +kernel
theorem dX2_init__79 : decode cX2_init_ 79 = .ok (.putfield 28, 3) := by decide +kernel
theorem dX2_init__82 : decode cX2_init_ 82 = .ok (.return_, 1) := by decide +kernel
theorem dX2_setTable_0 : decode cX2_setTable 0 = .ok (.iload_n 3, 1) := by decide +kernel
theorem dX2_setTable_1 : decode cX2_setTable 1 = .ok (.bipush (-50), 2) := by decide +kernel
theorem dX2_setTable_3 : decode cX2_setTable 3 = .ok (.bipush 50, 2) := by decide +kernel
theorem dX2_setTable_5 : decode cX2_setTable 5 = .ok (.invokestatic 42, 3) := by decide +kernel
theorem dX2_setTable_8 : decode cX2_setTable 8 = .ok (.ifCond .ne 5, 3) := by decide +kernel
theorem dX2_setTable_11 : decode cX2_setTable 11 = .ok (.iconst 0, 1) := by decide +kernel
theorem dX2_setTable_12 : decode cX2_setTable 12 = .ok (.ireturn, 1) := by decide +kernel
theorem dX2_setTable_13 : decode cX2_setTable 13 = .ok (.aload_n 0, 1) := by decide +kernel
theorem dX2_setTable_14 : decode cX2_setTable 14 = .ok (.getfield 19, 3) := by decide +kernel
theorem dX2_setTable_17 : decode cX2_setTable 17 = .ok (.iload_n 1, 1) := by decide +kernel
theorem dX2_setTable_18 : decode cX2_setTable 18 = .ok (.bipush 8, 2) := by decide +kernel
theorem dX2_setTable_20 : decode cX2_setTable 20 = .ok (.imul, 1) := by decide +kernel
theorem dX2_setTable_21 : decode cX2_setTable 21 = .ok (.iload_n 2, 1) := by decide +kernel
theorem dX2_setTable_22 : decode cX2_setTable 22 = .ok (.iadd, 1) := by decide +kernel
theorem dX2_setTable_23 : decode cX2_setTable 23 = .ok (.iload_n 3, 1) := by decide +kernel
theorem dX2_setTable_24 : decode cX2_setTable 24 = .ok (.iastore, 1) := by decide +kernel
theorem dX2_setTable_25 : decode cX2_setTable 25 = .ok (.iconst 1, 1) := by decide +kernel
theorem dX2_setTable_26 : decode cX2_setTable 26 = .ok (.ireturn, 1) := by decide +kernel
theorem dX2_setMetal_0 : decode cX2_setMetal 0 = .ok (.iload_n 2, 1) := by decide +kernel
theorem dX2_setMetal_1 : decode cX2_setMetal 1 = .ok (.iconst 1, 1) := by decide +kernel
theorem dX2_setMetal_2 : decode cX2_setMetal 2 = .ok (.bipush 50, 2) := by decide +kernel
theorem dX2_setMetal_4 : decode cX2_setMetal 4 = .ok (.invokestatic 42, 3) := by decide +kernel
theorem dX2_setMetal_7 : decode cX2_setMetal 7 = .ok (.ifCond .ne 5, 3) := by decide +kernel
theorem dX2_setMetal_10 : decode cX2_setMetal 10 = .ok (.iconst 0, 1) := by decide +kernel
theorem dX2_setMetal_11 : decode cX2_setMetal 11 = .ok (.ireturn, 1) := by decide +kernel
theorem dX2_setMetal_12 : decode cX2_setMetal 12 = .ok (.aload_n 0, 1) := by decide +kernel
theorem dX2_setMetal_13 : decode cX2_setMetal 13 = .ok (.getfield 22, 3) := by decide +kernel
theorem dX2_setMetal_16 : decode cX2_setMetal 16 = .ok (.iload_n 1, 1) := by decide +kernel
theorem dX2_setMetal_17 : decode cX2_setMetal 17 = .ok (.iload_n 2, 1) := by decide +kernel
theorem dX2_setMetal_18 : decode cX2_setMetal 18 = .ok (.iastore, 1) := by decide +kernel
theorem dX2_setMetal_19 : decode cX2_setMetal 19 = .ok (.iconst 1, 1) := by decide +kernel
theorem dX2_setMetal_20 : decode cX2_setMetal 20 = .ok (.ireturn, 1) := by decide +kernel
theorem dX2_setLeast_0 : decode cX2_setLeast 0 = .ok (.iload_n 2, 1) := by decide +kernel
theorem dX2_setLeast_1 : decode cX2_setLeast 1 = .ok (.iconst 0, 1) := by decide +kernel
theorem dX2_setLeast_2 : decode cX2_setLeast 2 = .ok (.aload_n 0, 1) := by decide +kernel
theorem dX2_setLeast_3 : decode cX2_setLeast 3 = .ok (.getfield 28, 3) := by decide +kernel
theorem dX2_setLeast_6 : decode cX2_setLeast 6 = .ok (.iload_n 1, 1) := by decide +kernel
theorem dX2_setLeast_7 : decode cX2_setLeast 7 = .ok (.iaload, 1) := by decide +kernel
theorem dX2_setLeast_8 : decode cX2_setLeast 8 = .ok (.invokestatic 42, 3) := by decide +kernel
theorem dX2_setLeast_11 : decode cX2_setLeast 11 = .ok (.ifCond .ne 5, 3) := by decide +kernel
theorem dX2_setLeast_14 : decode cX2_setLeast 14 = .ok (.iconst 0, 1) := by decide +kernel
theorem dX2_setLeast_15 : decode cX2_setLeast 15 = .ok (.ireturn, 1) := by decide +kernel
theorem dX2_setLeast_16 : decode cX2_setLeast 16 = .ok (.aload_n 0, 1) := by decide +kernel
theorem dX2_setLeast_17 : decode cX2_setLeast 17 = .ok (.getfield 25, 3) := by decide +kernel
theorem dX2_setLeast_20 : decode cX2_setLeast 20 = .ok (.iload_n 1, 1) := by decide +kernel
theorem dX2_setLeast_21 : decode cX2_setLeast 21 = .ok (.iload_n 2, 1) := by decide +kernel
theorem dX2_setLeast_22 : decode cX2_setLeast 22 = .ok (.iastore, 1) := by decide +kernel
theorem dX2_setLeast_23 : decode cX2_setLeast 23 = .ok (.iconst 1, 1) := by decide +kernel
theorem dX2_setLeast_24 : decode cX2_setLeast 24 = .ok (.ireturn, 1) := by decide +kernel
theorem dX2_setThickness_0 : decode cX2_setThickness 0 = .ok (.iload_n 2, 1) := by decide +kernel
theorem dX2_setThickness_1 : decode cX2_setThickness 1 = .ok (.aload_n 0, 1) := by decide +kernel
theorem dX2_setThickness_2 : decode cX2_setThickness 2 = .ok (.getfield 25, 3) := by decide +kernel
theorem dX2_setThickness_5 : decode cX2_setThickness 5 = .ok (.iload_n 1, 1) := by decide +kernel
theorem dX2_setThickness_6 : decode cX2_setThickness 6 = .ok (.iaload, 1) := by decide +kernel
theorem dX2_setThickness_7 : decode cX2_setThickness 7 = .ok (.bipush 99, 2) := by decide +kernel
theorem dX2_setThickness_9 : decode cX2_setThickness 9 = .ok (.invokestatic 42, 3) := by decide +kernel
theorem dX2_setThickness_12 : decode cX2_setThickness 12 = .ok (.ifCond .ne 5, 3) := by decide +kernel
theorem dX2_setThickness_15 : decode cX2_setThickness 15 = .ok (.iconst 0, 1) := by decide +kernel
theorem dX2_setThickness_16 : decode cX2_setThickness 16 = .ok (.ireturn, 1) := by decide +kernel
theorem dX2_setThickness_17 : decode cX2_setThickness 17 = .ok (.aload_n 0, 1) := by decide +kernel
theorem dX2_setThickness_18 : decode cX2_setThickness 18 = .ok (.getfield 28, 3) := by decide +kernel
theorem dX2_setThickness_21 : decode cX2_setThickness 21 = .ok (.iload_n 1, 1) := by decide +kernel
theorem dX2_setThickness_22 : decode cX2_setThickness 22 = .ok (.iload_n 2, 1) := by decide +kernel
theorem dX2_setThickness_23 : decode cX2_setThickness 23 = .ok (.iastore, 1) := by decide +kernel
theorem dX2_setThickness_24 : decode cX2_setThickness 24 = .ok (.iconst 1, 1) := by decide +kernel
theorem dX2_setThickness_25 : decode cX2_setThickness 25 = .ok (.ireturn, 1) := by decide +kernel
theorem dX2_castWeight_0 : decode cX2_castWeight 0 = .ok (.aload_n 0, 1) := by decide +kernel
theorem dX2_castWeight_1 : decode cX2_castWeight 1 = .ok (.aload_n 0, 1) := by decide +kernel
theorem dX2_castWeight_2 : decode cX2_castWeight 2 = .ok (.getfield 28, 3) := by decide +kernel
theorem dX2_castWeight_5 : decode cX2_castWeight 5 = .ok (.invokevirtual 46, 3) := by decide +kernel
theorem dX2_castWeight_8 : decode cX2_castWeight 8 = .ok (.ireturn, 1) := by decide +kernel
theorem dX2_weightWith_0 : decode cX2_weightWith 0 = .ok (.aload_n 0, 1) := by decide +kernel
theorem dX2_weightWith_1 : decode cX2_weightWith 1 = .ok (.getfield 9, 3) := by decide +kernel
theorem dX2_weightWith_4 : decode cX2_weightWith 4 = .ok (.istore_n 2, 1) := by decide +kernel
theorem dX2_weightWith_5 : decode cX2_weightWith 5 = .ok (.iconst 0, 1) := by decide +kernel
theorem dX2_weightWith_6 : decode cX2_weightWith 6 = .ok (.istore_n 3, 1) := by decide +kernel
theorem dX2_weightWith_7 : decode cX2_weightWith 7 = .ok (.iload_n 3, 1) := by decide +kernel
theorem dX2_weightWith_8 : decode cX2_weightWith 8 = .ok (.bipush 8, 2) := by decide +kernel
theorem dX2_weightWith_10 : decode cX2_weightWith 10 = .ok (.if_icmp .ge 22, 3) := by decide +kernel
theorem dX2_weightWith_13 : decode cX2_weightWith 13 = .ok (.iload_n 2, 1) := by decide +kernel
theorem dX2_weightWith_14 : decode cX2_weightWith 14 = .ok (.aload_n 0, 1) := by decide +kernel
theorem dX2_weightWith_15 : decode cX2_weightWith 15 = .ok (.getfield 22, 3) := by decide +kernel
theorem dX2_weightWith_18 : decode cX2_weightWith 18 = .ok (.iload_n 3, 1) := by decide +kernel
theorem dX2_weightWith_19 : decode cX2_weightWith 19 = .ok (.iaload, 1) := by decide +kernel
theorem dX2_weightWith_20 : decode cX2_weightWith 20 = .ok (.aload_n 1, 1) := by decide +kernel
theorem dX2_weightWith_21 : decode cX2_weightWith 21 = .ok (.iload_n 3, 1) := by decide +kernel
theorem dX2_weightWith_22 : decode cX2_weightWith 22 = .ok (.iaload, 1) := by decide +kernel
theorem dX2_weightWith_23 : decode cX2_weightWith 23 = .ok (.imul, 1) := by decide +kernel
theorem dX2_weightWith_24 : decode cX2_weightWith 24 = .ok (.iadd, 1) := by decide +kernel
theorem dX2_weightWith_25 : decode cX2_weightWith 25 = .ok (.istore_n 2, 1) := by decide +kernel
theorem dX2_weightWith_26 : decode cX2_weightWith 26 = .ok (.iinc 3 1, 3) := by decide +kernel
theorem dX2_weightWith_29 : decode cX2_weightWith 29 = .ok (.goto (-22), 3) := by decide +kernel
theorem dX2_weightWith_32 : decode cX2_weightWith 32 = .ok (.iload_n 2, 1) := by decide +kernel
theorem dX2_weightWith_33 : decode cX2_weightWith 33 = .ok (.ireturn, 1) := by decide +kernel
theorem dX2_partWith_0 : decode cX2_partWith 0 = .ok (.aload_n 0, 1) := by decide +kernel
theorem dX2_partWith_1 : decode cX2_partWith 1 = .ok (.getfield 15, 3) := by decide +kernel
theorem dX2_partWith_4 : decode cX2_partWith 4 = .ok (.iload_n 1, 1) := by decide +kernel
theorem dX2_partWith_5 : decode cX2_partWith 5 = .ok (.iaload, 1) := by decide +kernel
theorem dX2_partWith_6 : decode cX2_partWith 6 = .ok (.istore_n 3, 1) := by decide +kernel
theorem dX2_partWith_7 : decode cX2_partWith 7 = .ok (.iconst 0, 1) := by decide +kernel
theorem dX2_partWith_8 : decode cX2_partWith 8 = .ok (.istore 4, 2) := by decide +kernel
theorem dX2_partWith_10 : decode cX2_partWith 10 = .ok (.iload 4, 2) := by decide +kernel
theorem dX2_partWith_12 : decode cX2_partWith 12 = .ok (.bipush 8, 2) := by decide +kernel
theorem dX2_partWith_14 : decode cX2_partWith 14 = .ok (.if_icmp .ge 29, 3) := by decide +kernel
theorem dX2_partWith_17 : decode cX2_partWith 17 = .ok (.iload_n 3, 1) := by decide +kernel
theorem dX2_partWith_18 : decode cX2_partWith 18 = .ok (.aload_n 0, 1) := by decide +kernel
theorem dX2_partWith_19 : decode cX2_partWith 19 = .ok (.getfield 19, 3) := by decide +kernel
theorem dX2_partWith_22 : decode cX2_partWith 22 = .ok (.iload_n 1, 1) := by decide +kernel
theorem dX2_partWith_23 : decode cX2_partWith 23 = .ok (.bipush 8, 2) := by decide +kernel
theorem dX2_partWith_25 : decode cX2_partWith 25 = .ok (.imul, 1) := by decide +kernel
theorem dX2_partWith_26 : decode cX2_partWith 26 = .ok (.iload 4, 2) := by decide +kernel
theorem dX2_partWith_28 : decode cX2_partWith 28 = .ok (.iadd, 1) := by decide +kernel
theorem dX2_partWith_29 : decode cX2_partWith 29 = .ok (.iaload, 1) := by decide +kernel
theorem dX2_partWith_30 : decode cX2_partWith 30 = .ok (.aload_n 2, 1) := by decide +kernel
theorem dX2_partWith_31 : decode cX2_partWith 31 = .ok (.iload 4, 2) := by decide +kernel
theorem dX2_partWith_33 : decode cX2_partWith 33 = .ok (.iaload, 1) := by decide +kernel
theorem dX2_partWith_34 : decode cX2_partWith 34 = .ok (.imul, 1) := by decide +kernel
theorem dX2_partWith_35 : decode cX2_partWith 35 = .ok (.iadd, 1) := by decide +kernel
theorem dX2_partWith_36 : decode cX2_partWith 36 = .ok (.istore_n 3, 1) := by decide +kernel
theorem dX2_partWith_37 : decode cX2_partWith 37 = .ok (.iinc 4 1, 3) := by decide +kernel
theorem dX2_partWith_40 : decode cX2_partWith 40 = .ok (.goto (-30), 3) := by decide +kernel
theorem dX2_partWith_43 : decode cX2_partWith 43 = .ok (.iload_n 3, 1) := by decide +kernel
theorem dX2_partWith_44 : decode cX2_partWith 44 = .ok (.ireturn, 1) := by decide +kernel
theorem dX3_init_0 : decode cX3_init 0 = .ok (.aload_n 0, 1) := by decide +kernel
theorem dX3_init_1 : decode cX3_init 1 = .ok (.invokespecial 3, 3) := by decide +kernel
theorem dX3_init_4 : decode cX3_init 4 = .ok (.aload_n 0, 1) := by decide +kernel
theorem dX3_init_5 : decode cX3_init 5 = .ok (.iconst 5, 1) := by decide +kernel
theorem dX3_init_6 : decode cX3_init 6 = .ok (.newarray .int, 2) := by decide +kernel
theorem dX3_init_8 : decode cX3_init 8 = .ok (.putfield 9, 3) := by decide +kernel
theorem dX3_init_11 : decode cX3_init 11 = .ok (.aload_n 0, 1) := by decide +kernel
theorem dX3_init_12 : decode cX3_init 12 = .ok (.iconst 5, 1) := by decide +kernel
theorem dX3_init_13 : decode cX3_init 13 = .ok (.newarray .int, 2) := by decide +kernel
theorem dX3_init_15 : decode cX3_init 15 = .ok (.putfield 15, 3) := by decide +kernel
theorem dX3_init_18 : decode cX3_init 18 = .ok (.aload_n 0, 1) := by decide +kernel
theorem dX3_init_19 : decode cX3_init 19 = .ok (.getfield 9, 3) := by decide +kernel
theorem dX3_init_22 : decode cX3_init 22 = .ok (.sipush (-30000), 3) := by decide +kernel
theorem dX3_init_25 : decode cX3_init 25 = .ok (.invokestatic 18, 3) := by decide +kernel
theorem dX3_init_28 : decode cX3_init 28 = .ok (.aload_n 0, 1) := by decide +kernel
theorem dX3_init_29 : decode cX3_init 29 = .ok (.getfield 15, 3) := by decide +kernel
theorem dX3_init_32 : decode cX3_init 32 = .ok (.sipush 30000, 3) := by decide +kernel
theorem dX3_init_35 : decode cX3_init 35 = .ok (.invokestatic 18, 3) := by decide +kernel
theorem dX3_init_38 : decode cX3_init 38 = .ok (.aload_n 0, 1) := by decide +kernel
theorem dX3_init_39 : decode cX3_init 39 = .ok (.iconst 5, 1) := by decide +kernel
theorem dX3_init_40 : decode cX3_init 40 = .ok (.newarray .int, 2) := by decide +kernel
theorem dX3_init_42 : decode cX3_init 42 = .ok (.putfield 24, 3) := by decide +kernel
theorem dX3_init_45 : decode cX3_init 45 = .ok (.aload_n 0, 1) := by decide +kernel
theorem dX3_init_46 : decode cX3_init 46 = .ok (.bipush 9, 2) := by decide +kernel
theorem dX3_init_48 : decode cX3_init 48 = .ok (.newarray .int, 2) := by decide +kernel
theorem dX3_init_50 : decode cX3_init 50 = .ok (.putfield 27, 3) := by decide +kernel
theorem dX3_init_53 : decode cX3_init 53 = .ok (.aload_n 0, 1) := by decide +kernel
theorem dX3_init_54 : decode cX3_init 54 = .ok (.bipush 45, 2) := by decide +kernel
theorem dX3_init_56 : decode cX3_init 56 = .ok (.newarray .int, 2) := by decide +kernel
theorem dX3_init_58 : decode cX3_init 58 = .ok (.putfield 30, 3) := by decide +kernel
theorem dX3_init_61 : decode cX3_init 61 = .ok (.aload_n 0, 1) := by decide +kernel
theorem dX3_init_62 : decode cX3_init 62 = .ok (.bipush 45, 2) := by decide +kernel
theorem dX3_init_64 : decode cX3_init 64 = .ok (.newarray .int, 2) := by decide +kernel
theorem dX3_init_66 : decode cX3_init 66 = .ok (.putfield 33, 3) := by decide +kernel
theorem dX3_init_69 : decode cX3_init 69 = .ok (.return_, 1) := by decide +kernel
theorem dX3_setSpan_0 : decode cX3_setSpan 0 = .ok (.aload_n 0, 1) := by decide +kernel
theorem dX3_setSpan_1 : decode cX3_setSpan 1 = .ok (.getfield 9, 3) := by decide +kernel
theorem dX3_setSpan_4 : decode cX3_setSpan 4 = .ok (.iload_n 1, 1) := by decide +kernel
theorem dX3_setSpan_5 : decode cX3_setSpan 5 = .ok (.iload_n 2, 1) := by decide +kernel
theorem dX3_setSpan_6 : decode cX3_setSpan 6 = .ok (.iastore, 1) := by decide +kernel
theorem dX3_setSpan_7 : decode cX3_setSpan 7 = .ok (.aload_n 0, 1) := by decide +kernel
theorem dX3_setSpan_8 : decode cX3_setSpan 8 = .ok (.getfield 15, 3) := by decide +kernel
theorem dX3_setSpan_11 : decode cX3_setSpan 11 = .ok (.iload_n 1, 1) := by decide +kernel
theorem dX3_setSpan_12 : decode cX3_setSpan 12 = .ok (.iload_n 3, 1) := by decide +kernel
theorem dX3_setSpan_13 : decode cX3_setSpan 13 = .ok (.iastore, 1) := by decide +kernel
theorem dX3_setSpan_14 : decode cX3_setSpan 14 = .ok (.aload_n 0, 1) := by decide +kernel
theorem dX3_setSpan_15 : decode cX3_setSpan 15 = .ok (.dup, 1) := by decide +kernel
theorem dX3_setSpan_16 : decode cX3_setSpan 16 = .ok (.getfield 36, 3) := by decide +kernel
theorem dX3_setSpan_19 : decode cX3_setSpan 19 = .ok (.iconst 1, 1) := by decide +kernel
theorem dX3_setSpan_20 : decode cX3_setSpan 20 = .ok (.iadd, 1) := by decide +kernel
theorem dX3_setSpan_21 : decode cX3_setSpan 21 = .ok (.putfield 36, 3) := by decide +kernel
theorem dX3_setSpan_24 : decode cX3_setSpan 24 = .ok (.return_, 1) := by decide +kernel
theorem dX3_plan_0 : decode cX3_plan 0 = .ok (.aload_n 1, 1) := by decide +kernel
theorem dX3_plan_1 : decode cX3_plan 1 = .ok (.getfield 40, 3) := by decide +kernel
theorem dX3_plan_4 : decode cX3_plan 4 = .ok (.aload_n 0, 1) := by decide +kernel
theorem dX3_plan_5 : decode cX3_plan 5 = .ok (.getfield 36, 3) := by decide +kernel
theorem dX3_plan_8 : decode cX3_plan 8 = .ok (.if_icmp .ne 4, 3) := by decide +kernel
theorem dX3_plan_11 : decode cX3_plan 11 = .ok (.return_, 1) := by decide +kernel
theorem dX3_plan_12 : decode cX3_plan 12 = .ok (.aload_n 1, 1) := by decide +kernel
theorem dX3_plan_13 : decode cX3_plan 13 = .ok (.aload_n 0, 1) := by decide +kernel
theorem dX3_plan_14 : decode cX3_plan 14 = .ok (.getfield 36, 3) := by decide +kernel
theorem dX3_plan_17 : decode cX3_plan 17 = .ok (.putfield 40, 3) := by decide +kernel
theorem dX3_plan_20 : decode cX3_plan 20 = .ok (.aload_n 1, 1) := by decide +kernel
theorem dX3_plan_21 : decode cX3_plan 21 = .ok (.iconst (-1), 1) := by decide +kernel
theorem dX3_plan_22 : decode cX3_plan 22 = .ok (.putfield 45, 3) := by decide +kernel
theorem dX3_plan_25 : decode cX3_plan 25 = .ok (.aload_n 1, 1) := by decide +kernel
theorem dX3_plan_26 : decode cX3_plan 26 = .ok (.getfield 48, 3) := by decide +kernel
theorem dX3_plan_29 : decode cX3_plan 29 = .ok (.iconst 0, 1) := by decide +kernel
theorem dX3_plan_30 : decode cX3_plan 30 = .ok (.invokestatic 18, 3) := by decide +kernel
theorem dX3_plan_33 : decode cX3_plan 33 = .ok (.aload_n 0, 1) := by decide +kernel
theorem dX3_plan_34 : decode cX3_plan 34 = .ok (.aload_n 1, 1) := by decide +kernel
theorem dX3_plan_35 : decode cX3_plan 35 = .ok (.invokevirtual 51, 3) := by decide +kernel
theorem dX3_plan_38 : decode cX3_plan 38 = .ok (.bipush 12, 2) := by decide +kernel
theorem dX3_plan_40 : decode cX3_plan 40 = .ok (.aload_n 0, 1) := by decide +kernel
theorem dX3_plan_41 : decode cX3_plan 41 = .ok (.getfield 27, 3) := by decide +kernel
theorem dX3_plan_44 : decode cX3_plan 44 = .ok (.iconst 0, 1) := by decide +kernel
theorem dX3_plan_45 : decode cX3_plan 45 = .ok (.iaload, 1) := by decide +kernel
theorem dX3_plan_46 : decode cX3_plan 46 = .ok (.invokestatic 55, 3) := by decide +kernel
theorem dX3_plan_49 : decode cX3_plan 49 = .ok (.istore_n 2, 1) := by decide +kernel
theorem dX3_plan_50 : decode cX3_plan 50 = .ok (.iconst 0, 1) := by decide +kernel
theorem dX3_plan_51 : decode cX3_plan 51 = .ok (.istore_n 3, 1) := by decide +kernel
theorem dX3_plan_52 : decode cX3_plan 52 = .ok (.iload_n 3, 1) := by decide +kernel
theorem dX3_plan_53 : decode cX3_plan 53 = .ok (.iload_n 2, 1) := by decide +kernel
theorem dX3_plan_54 : decode cX3_plan 54 = .ok (.if_icmp .gt 25, 3) := by decide +kernel
theorem dX3_plan_57 : decode cX3_plan 57 = .ok (.aload_n 0, 1) := by decide +kernel
theorem dX3_plan_58 : decode cX3_plan 58 = .ok (.aload_n 1, 1) := by decide +kernel
theorem dX3_plan_59 : decode cX3_plan 59 = .ok (.iconst 0, 1) := by decide +kernel
theorem dX3_plan_60 : decode cX3_plan 60 = .ok (.iload_n 3, 1) := by decide +kernel
theorem dX3_plan_61 : decode cX3_plan 61 = .ok (.invokestatic 61, 3) := by decide +kernel
theorem dX3_plan_64 : decode cX3_plan 64 = .ok (.ifCond .eq 9, 3) := by decide +kernel
theorem dX3_plan_67 : decode cX3_plan 67 = .ok (.aload_n 1, 1) := by decide +kernel
theorem dX3_plan_68 : decode cX3_plan 68 = .ok (.iload_n 3, 1) := by decide +kernel
theorem dX3_plan_69 : decode cX3_plan 69 = .ok (.putfield 45, 3) := by decide +kernel
theorem dX3_plan_72 : decode cX3_plan 72 = .ok (.return_, 1) := by decide +kernel
theorem dX3_plan_73 : decode cX3_plan 73 = .ok (.iinc 3 1, 3) := by decide +kernel
theorem dX3_plan_76 : decode cX3_plan 76 = .ok (.goto (-24), 3) := by decide +kernel
theorem dX3_plan_79 : decode cX3_plan 79 = .ok (.return_, 1) := by decide +kernel
theorem dX3_prepare_0 : decode cX3_prepare 0 = .ok (.iconst 0, 1) := by decide +kernel
theorem dX3_prepare_1 : decode cX3_prepare 1 = .ok (.istore_n 2, 1) := by decide +kernel
theorem dX3_prepare_2 : decode cX3_prepare 2 = .ok (.iload_n 2, 1) := by decide +kernel
theorem dX3_prepare_3 : decode cX3_prepare 3 = .ok (.iconst 5, 1) := by decide +kernel
theorem dX3_prepare_4 : decode cX3_prepare 4 = .ok (.if_icmp .ge 20, 3) := by decide +kernel
theorem dX3_prepare_7 : decode cX3_prepare 7 = .ok (.aload_n 0, 1) := by decide +kernel
theorem dX3_prepare_8 : decode cX3_prepare 8 = .ok (.getfield 24, 3) := by decide +kernel
theorem dX3_prepare_11 : decode cX3_prepare 11 = .ok (.iload_n 2, 1) := by decide +kernel
theorem dX3_prepare_12 : decode cX3_prepare 12 = .ok (.aload_n 1, 1) := by decide +kernel
theorem dX3_prepare_13 : decode cX3_prepare 13 = .ok (.iload_n 2, 1) := by decide +kernel
theorem dX3_prepare_14 : decode cX3_prepare 14 = .ok (.invokevirtual 65, 3) := by decide +kernel
theorem dX3_prepare_17 : decode cX3_prepare 17 = .ok (.iastore, 1) := by decide +kernel
theorem dX3_prepare_18 : decode cX3_prepare 18 = .ok (.iinc 2 1, 3) := by decide +kernel
theorem dX3_prepare_21 : decode cX3_prepare 21 = .ok (.goto (-19), 3) := by decide +kernel
theorem dX3_prepare_24 : decode cX3_prepare 24 = .ok (.bipush 7, 2) := by decide +kernel
theorem dX3_prepare_26 : decode cX3_prepare 26 = .ok (.istore_n 2, 1) := by decide +kernel
theorem dX3_prepare_27 : decode cX3_prepare 27 = .ok (.iload_n 2, 1) := by decide +kernel
theorem dX3_prepare_28 : decode cX3_prepare 28 = .ok (.ifCond .lt 49, 3) := by decide +kernel
theorem dX3_prepare_31 : decode cX3_prepare 31 = .ok (.iconst 0, 1) := by decide +kernel
theorem dX3_prepare_32 : decode cX3_prepare 32 = .ok (.istore_n 3, 1) := by decide +kernel
theorem dX3_prepare_33 : decode cX3_prepare 33 = .ok (.iload_n 3, 1) := by decide +kernel
theorem dX3_prepare_34 : decode cX3_prepare 34 = .ok (.iconst 5, 1) := by decide +kernel
theorem dX3_prepare_35 : decode cX3_prepare 35 = .ok (.if_icmp .ge 16, 3) := by decide +kernel
theorem dX3_prepare_38 : decode cX3_prepare 38 = .ok (.aload_n 0, 1) := by decide +kernel
theorem dX3_prepare_39 : decode cX3_prepare 39 = .ok (.aload_n 1, 1) := by decide +kernel
theorem dX3_prepare_40 : decode cX3_prepare 40 = .ok (.iload_n 3, 1) := by decide +kernel
theorem dX3_prepare_41 : decode cX3_prepare 41 = .ok (.iload_n 2, 1) := by decide +kernel
theorem dX3_prepare_42 : decode cX3_prepare 42 = .ok (.invokevirtual 69, 3) := by decide +kernel
theorem dX3_prepare_45 : decode cX3_prepare 45 = .ok (.iinc 3 1, 3) := by decide +kernel
theorem dX3_prepare_48 : decode cX3_prepare 48 = .ok (.goto (-15), 3) := by decide +kernel
theorem dX3_prepare_51 : decode cX3_prepare 51 = .ok (.aload_n 0, 1) := by decide +kernel
theorem dX3_prepare_52 : decode cX3_prepare 52 = .ok (.getfield 27, 3) := by decide +kernel
theorem dX3_prepare_55 : decode cX3_prepare 55 = .ok (.iload_n 2, 1) := by decide +kernel
theorem dX3_prepare_56 : decode cX3_prepare 56 = .ok (.aload_n 0, 1) := by decide +kernel
theorem dX3_prepare_57 : decode cX3_prepare 57 = .ok (.getfield 27, 3) := by decide +kernel
theorem dX3_prepare_60 : decode cX3_prepare 60 = .ok (.iload_n 2, 1) := by decide +kernel
theorem dX3_prepare_61 : decode cX3_prepare 61 = .ok (.iconst 1, 1) := by decide +kernel
theorem dX3_prepare_62 : decode cX3_prepare 62 = .ok (.iadd, 1) := by decide +kernel
theorem dX3_prepare_63 : decode cX3_prepare 63 = .ok (.iaload, 1) := by decide +kernel
theorem dX3_prepare_64 : decode cX3_prepare 64 = .ok (.aload_n 1, 1) := by decide +kernel
theorem dX3_prepare_65 : decode cX3_prepare 65 = .ok (.iload_n 2, 1) := by decide +kernel
theorem dX3_prepare_66 : decode cX3_prepare 66 = .ok (.invokevirtual 73, 3) := by decide +kernel
theorem dX3_prepare_69 : decode cX3_prepare 69 = .ok (.iadd, 1) := by decide +kernel
theorem dX3_prepare_70 : decode cX3_prepare 70 = .ok (.iastore, 1) := by decide +kernel
theorem dX3_prepare_71 : decode cX3_prepare 71 = .ok (.iinc 2 (-1), 3) := by decide +kernel
theorem dX3_prepare_74 : decode cX3_prepare 74 = .ok (.goto (-47), 3) := by decide +kernel
theorem dX3_prepare_77 : decode cX3_prepare 77 = .ok (.return_, 1) := by decide +kernel
theorem dX3_boundTables_0 : decode cX3_boundTables 0 = .ok (.iload_n 3, 1) := by decide +kernel
theorem dX3_boundTables_1 : decode cX3_boundTables 1 = .ok (.iconst 5, 1) := by decide +kernel
theorem dX3_boundTables_2 : decode cX3_boundTables 2 = .ok (.imul, 1) := by decide +kernel
theorem dX3_boundTables_3 : decode cX3_boundTables 3 = .ok (.iload_n 2, 1) := by decide +kernel
theorem dX3_boundTables_4 : decode cX3_boundTables 4 = .ok (.iadd, 1) := by decide +kernel
theorem dX3_boundTables_5 : decode cX3_boundTables 5 = .ok (.istore 4, 2) := by decide +kernel
theorem dX3_boundTables_7 : decode cX3_boundTables 7 = .ok (.iload 4, 2) := by decide +kernel
theorem dX3_boundTables_9 : decode cX3_boundTables 9 = .ok (.iconst 5, 1) := by decide +kernel
theorem dX3_boundTables_10 : decode cX3_boundTables 10 = .ok (.iadd, 1) := by decide +kernel
theorem dX3_boundTables_11 : decode cX3_boundTables 11 = .ok (.istore 5, 2) := by decide +kernel
theorem dX3_boundTables_13 : decode cX3_boundTables 13 = .ok (.aload_n 1, 1) := by decide +kernel
theorem dX3_boundTables_14 : decode cX3_boundTables 14 = .ok (.iload_n 2, 1) := by decide +kernel
theorem dX3_boundTables_15 : decode cX3_boundTables 15 = .ok (.iload_n 3, 1) := by decide +kernel
theorem dX3_boundTables_16 : decode cX3_boundTables 16 = .ok (.invokevirtual 76, 3) := by decide +kernel
theorem dX3_boundTables_19 : decode cX3_boundTables 19 = .ok (.istore 6, 2) := by decide +kernel
theorem dX3_boundTables_21 : decode cX3_boundTables 21 = .ok (.aload_n 1, 1) := by decide +kernel
theorem dX3_boundTables_22 : decode cX3_boundTables 22 = .ok (.iload_n 3, 1) := by decide +kernel
theorem dX3_boundTables_23 : decode cX3_boundTables 23 = .ok (.invokevirtual 73, 3) := by decide +kernel
theorem dX3_boundTables_26 : decode cX3_boundTables 26 = .ok (.ifCond .le 7, 3) := by decide +kernel
theorem dX3_boundTables_29 : decode cX3_boundTables 29 = .ok (.iconst 1, 1) := by decide +kernel
theorem dX3_boundTables_30 : decode cX3_boundTables 30 = .ok (.goto 4, 3) := by decide +kernel
theorem dX3_boundTables_33 : decode cX3_boundTables 33 = .ok (.iconst 0, 1) := by decide +kernel
theorem dX3_boundTables_34 : decode cX3_boundTables 34 = .ok (.istore 7, 2) := by decide +kernel
theorem dX3_boundTables_36 : decode cX3_boundTables 36 = .ok (.aload_n 0, 1) := by decide +kernel
theorem dX3_boundTables_37 : decode cX3_boundTables 37 = .ok (.getfield 27, 3) := by decide +kernel
theorem dX3_boundTables_40 : decode cX3_boundTables 40 = .ok (.iload_n 3, 1) := by decide +kernel
theorem dX3_boundTables_41 : decode cX3_boundTables 41 = .ok (.iconst 1, 1) := by decide +kernel
theorem dX3_boundTables_42 : decode cX3_boundTables 42 = .ok (.iadd, 1) := by decide +kernel
theorem dX3_boundTables_43 : decode cX3_boundTables 43 = .ok (.iaload, 1) := by decide +kernel
theorem dX3_boundTables_44 : decode cX3_boundTables 44 = .ok (.ifCond .le 7, 3) := by decide +kernel
theorem dX3_boundTables_47 : decode cX3_boundTables 47 = .ok (.iconst 1, 1) := by decide +kernel
theorem dX3_boundTables_48 : decode cX3_boundTables 48 = .ok (.goto 4, 3) := by decide +kernel
theorem dX3_boundTables_51 : decode cX3_boundTables 51 = .ok (.iconst 0, 1) := by decide +kernel
theorem dX3_boundTables_52 : decode cX3_boundTables 52 = .ok (.istore 8, 2) := by decide +kernel
theorem dX3_boundTables_54 : decode cX3_boundTables 54 = .ok (.iload 7, 2) := by decide +kernel
theorem dX3_boundTables_56 : decode cX3_boundTables 56 = .ok (.ifCond .eq 49, 3) := by decide +kernel
theorem dX3_boundTables_59 : decode cX3_boundTables 59 = .ok (.iload 8, 2) := by decide +kernel
theorem dX3_boundTables_61 : decode cX3_boundTables 61 = .ok (.ifCond .eq 44, 3) := by decide +kernel
theorem dX3_boundTables_64 : decode cX3_boundTables 64 = .ok (.aload_n 0, 1) := by decide +kernel
theorem dX3_boundTables_65 : decode cX3_boundTables 65 = .ok (.getfield 30, 3) := by decide +kernel
theorem dX3_boundTables_68 : decode cX3_boundTables 68 = .ok (.iload 4, 2) := by decide +kernel
theorem dX3_boundTables_70 : decode cX3_boundTables 70 = .ok (.aload_n 0, 1) := by decide +kernel
theorem dX3_boundTables_71 : decode cX3_boundTables 71 = .ok (.getfield 30, 3) := by decide +kernel
theorem dX3_boundTables_74 : decode cX3_boundTables 74 = .ok (.iload 5, 2) := by decide +kernel
theorem dX3_boundTables_76 : decode cX3_boundTables 76 = .ok (.iaload, 1) := by decide +kernel
theorem dX3_boundTables_77 : decode cX3_boundTables 77 = .ok (.iload 6, 2) := by decide +kernel
theorem dX3_boundTables_79 : decode cX3_boundTables 79 = .ok (.invokestatic 79, 3) := by decide +kernel
theorem dX3_boundTables_82 : decode cX3_boundTables 82 = .ok (.iastore, 1) := by decide +kernel
theorem dX3_boundTables_83 : decode cX3_boundTables 83 = .ok (.aload_n 0, 1) := by decide +kernel
theorem dX3_boundTables_84 : decode cX3_boundTables 84 = .ok (.getfield 33, 3) := by decide +kernel
theorem dX3_boundTables_87 : decode cX3_boundTables 87 = .ok (.iload 4, 2) := by decide +kernel
theorem dX3_boundTables_89 : decode cX3_boundTables 89 = .ok (.aload_n 0, 1) := by decide +kernel
theorem dX3_boundTables_90 : decode cX3_boundTables 90 = .ok (.getfield 33, 3) := by decide +kernel
theorem dX3_boundTables_93 : decode cX3_boundTables 93 = .ok (.iload 5, 2) := by decide +kernel
theorem dX3_boundTables_95 : decode cX3_boundTables 95 = .ok (.iaload, 1) := by decide +kernel
theorem dX3_boundTables_96 : decode cX3_boundTables 96 = .ok (.iload 6, 2) := by decide +kernel
theorem dX3_boundTables_98 : decode cX3_boundTables 98 = .ok (.invokestatic 55, 3) := by decide +kernel
theorem dX3_boundTables_101 : decode cX3_boundTables 101 = .ok (.iastore, 1) := by decide +kernel
theorem dX3_boundTables_102 : decode cX3_boundTables 102 = .ok (.goto 51, 3) := by decide +kernel
theorem dX3_boundTables_105 : decode cX3_boundTables 105 = .ok (.aload_n 0, 1) := by decide +kernel
theorem dX3_boundTables_106 : decode cX3_boundTables 106 = .ok (.getfield 30, 3) := by decide +kernel
theorem dX3_boundTables_109 : decode cX3_boundTables 109 = .ok (.iload 4, 2) := by decide +kernel
theorem dX3_boundTables_111 : decode cX3_boundTables 111 = .ok (.iload 7, 2) := by decide +kernel
theorem dX3_boundTables_113 : decode cX3_boundTables 113 = .ok (.ifCond .eq 8, 3) := by decide +kernel
theorem dX3_boundTables_116 : decode cX3_boundTables 116 = .ok (.iload 6, 2) := by decide +kernel
theorem dX3_boundTables_118 : decode cX3_boundTables 118 = .ok (.goto 10, 3) := by decide +kernel
theorem dX3_boundTables_121 : decode cX3_boundTables 121 = .ok (.aload_n 0, 1) := by decide +kernel
theorem dX3_boundTables_122 : decode cX3_boundTables 122 = .ok (.getfield 30, 3) := by decide +kernel
theorem dX3_boundTables_125 : decode cX3_boundTables 125 = .ok (.iload 5, 2) := by decide +kernel
theorem dX3_boundTables_127 : decode cX3_boundTables 127 = .ok (.iaload, 1) := by decide +kernel
theorem dX3_boundTables_128 : decode cX3_boundTables 128 = .ok (.iastore, 1) := by decide +kernel
theorem dX3_boundTables_129 : decode cX3_boundTables 129 = .ok (.aload_n 0, 1) := by decide +kernel
theorem dX3_boundTables_130 : decode cX3_boundTables 130 = .ok (.getfield 33, 3) := by decide +kernel
theorem dX3_boundTables_133 : decode cX3_boundTables 133 = .ok (.iload 4, 2) := by decide +kernel
theorem dX3_boundTables_135 : decode cX3_boundTables 135 = .ok (.iload 7, 2) := by decide +kernel
theorem dX3_boundTables_137 : decode cX3_boundTables 137 = .ok (.ifCond .eq 8, 3) := by decide +kernel
theorem dX3_boundTables_140 : decode cX3_boundTables 140 = .ok (.iload 6, 2) := by decide +kernel
theorem dX3_boundTables_142 : decode cX3_boundTables 142 = .ok (.goto 10, 3) := by decide +kernel
theorem dX3_boundTables_145 : decode cX3_boundTables 145 = .ok (.aload_n 0, 1) := by decide +kernel
theorem dX3_boundTables_146 : decode cX3_boundTables 146 = .ok (.getfield 33, 3) := by decide +kernel
theorem dX3_boundTables_149 : decode cX3_boundTables 149 = .ok (.iload 5, 2) := by decide +kernel
theorem dX3_boundTables_151 : decode cX3_boundTables 151 = .ok (.iaload, 1) := by decide +kernel
theorem dX3_boundTables_152 : decode cX3_boundTables 152 = .ok (.iastore, 1) := by decide +kernel
theorem dX3_boundTables_153 : decode cX3_boundTables 153 = .ok (.return_, 1) := by decide +kernel
theorem dX3_search_0 : decode cX3_search 0 = .ok (.aload_n 0, 1) := by decide +kernel
theorem dX3_search_1 : decode cX3_search 1 = .ok (.iload_n 2, 1) := by decide +kernel
theorem dX3_search_2 : decode cX3_search 2 = .ok (.iload_n 3, 1) := by decide +kernel
theorem dX3_search_3 : decode cX3_search 3 = .ok (.invokevirtual 82, 3) := by decide +kernel
theorem dX3_search_6 : decode cX3_search 6 = .ok (.ifCond .ne 5, 3) := by decide +kernel
theorem dX3_search_9 : decode cX3_search 9 = .ok (.iconst 0, 1) := by decide +kernel
theorem dX3_search_10 : decode cX3_search 10 = .ok (.ireturn, 1) := by decide +kernel
theorem dX3_search_11 : decode cX3_search 11 = .ok (.iload_n 3, 1) := by decide +kernel
theorem dX3_search_12 : decode cX3_search 12 = .ok (.ifCond .ne 5, 3) := by decide +kernel
theorem dX3_search_15 : decode cX3_search 15 = .ok (.iconst 1, 1) := by decide +kernel
theorem dX3_search_16 : decode cX3_search 16 = .ok (.ireturn, 1) := by decide +kernel
theorem dX3_search_17 : decode cX3_search 17 = .ok (.iload_n 2, 1) := by decide +kernel
theorem dX3_search_18 : decode cX3_search 18 = .ok (.bipush 8, 2) := by decide +kernel
theorem dX3_search_20 : decode cX3_search 20 = .ok (.if_icmp .lt 5, 3) := by decide +kernel
theorem dX3_search_23 : decode cX3_search 23 = .ok (.iconst 0, 1) := by decide +kernel
theorem dX3_search_24 : decode cX3_search 24 = .ok (.ireturn, 1) := by decide +kernel
theorem dX3_search_25 : decode cX3_search 25 = .ok (.aload_n 1, 1) := by decide +kernel
theorem dX3_search_26 : decode cX3_search 26 = .ok (.iload_n 2, 1) := by decide +kernel
theorem dX3_search_27 : decode cX3_search 27 = .ok (.invokevirtual 73, 3) := by decide +kernel
theorem dX3_search_30 : decode cX3_search 30 = .ok (.iload_n 3, 1) := by decide +kernel
theorem dX3_search_31 : decode cX3_search 31 = .ok (.invokestatic 55, 3) := by decide +kernel
theorem dX3_search_34 : decode cX3_search 34 = .ok (.istore 4, 2) := by decide +kernel
theorem dX3_search_36 : decode cX3_search 36 = .ok (.iconst 0, 1) := by decide +kernel
theorem dX3_search_37 : decode cX3_search 37 = .ok (.iload_n 3, 1) := by decide +kernel
theorem dX3_search_38 : decode cX3_search 38 = .ok (.aload_n 0, 1) := by decide +kernel
theorem dX3_search_39 : decode cX3_search 39 = .ok (.getfield 27, 3) := by decide +kernel
theorem dX3_search_42 : decode cX3_search 42 = .ok (.iload_n 2, 1) := by decide +kernel
theorem dX3_search_43 : decode cX3_search 43 = .ok (.iconst 1, 1) := by decide +kernel
theorem dX3_search_44 : decode cX3_search 44 = .ok (.iadd, 1) := by decide +kernel
theorem dX3_search_45 : decode cX3_search 45 = .ok (.iaload, 1) := by decide +kernel
theorem dX3_search_46 : decode cX3_search 46 = .ok (.isub, 1) := by decide +kernel
theorem dX3_search_47 : decode cX3_search 47 = .ok (.invokestatic 79, 3) := by decide +kernel
theorem dX3_search_50 : decode cX3_search 50 = .ok (.istore 5, 2) := by decide +kernel
theorem dX3_search_52 : decode cX3_search 52 = .ok (.aload_n 0, 1) := by decide +kernel
theorem dX3_search_53 : decode cX3_search 53 = .ok (.aload_n 1, 1) := by decide +kernel
theorem dX3_search_54 : decode cX3_search 54 = .ok (.iload_n 2, 1) := by decide +kernel
theorem dX3_search_55 : decode cX3_search 55 = .ok (.iload 5, 2) := by decide +kernel
theorem dX3_search_57 : decode cX3_search 57 = .ok (.invokevirtual 86, 3) := by decide +kernel
theorem dX3_search_60 : decode cX3_search 60 = .ok (.iload 5, 2) := by decide +kernel
theorem dX3_search_62 : decode cX3_search 62 = .ok (.iload 4, 2) := by decide +kernel
theorem dX3_search_64 : decode cX3_search 64 = .ok (.if_icmp .gt 41, 3) := by decide +kernel
theorem dX3_search_67 : decode cX3_search 67 = .ok (.aload_n 0, 1) := by decide +kernel
theorem dX3_search_68 : decode cX3_search 68 = .ok (.aload_n 1, 1) := by decide +kernel
theorem dX3_search_69 : decode cX3_search 69 = .ok (.iload_n 2, 1) := by decide +kernel
theorem dX3_search_70 : decode cX3_search 70 = .ok (.iconst 1, 1) := by decide +kernel
theorem dX3_search_71 : decode cX3_search 71 = .ok (.iadd, 1) := by decide +kernel
theorem dX3_search_72 : decode cX3_search 72 = .ok (.iload_n 3, 1) := by decide +kernel
theorem dX3_search_73 : decode cX3_search 73 = .ok (.iload 5, 2) := by decide +kernel
theorem dX3_search_75 : decode cX3_search 75 = .ok (.isub, 1) := by decide +kernel
theorem dX3_search_76 : decode cX3_search 76 = .ok (.invokestatic 61, 3) := by decide +kernel
theorem dX3_search_79 : decode cX3_search 79 = .ok (.ifCond .eq 13, 3) := by decide +kernel
theorem dX3_search_82 : decode cX3_search 82 = .ok (.aload_n 1, 1) := by decide +kernel
theorem dX3_search_83 : decode cX3_search 83 = .ok (.getfield 48, 3) := by decide +kernel
theorem dX3_search_86 : decode cX3_search 86 = .ok (.iload_n 2, 1) := by decide +kernel
theorem dX3_search_87 : decode cX3_search 87 = .ok (.iload 5, 2) := by decide +kernel
theorem dX3_search_89 : decode cX3_search 89 = .ok (.iastore, 1) := by decide +kernel
theorem dX3_search_90 : decode cX3_search 90 = .ok (.iconst 1, 1) := by decide +kernel
theorem dX3_search_91 : decode cX3_search 91 = .ok (.ireturn, 1) := by decide +kernel
theorem dX3_search_92 : decode cX3_search 92 = .ok (.iinc 5 1, 3) := by decide +kernel
theorem dX3_search_95 : decode cX3_search 95 = .ok (.aload_n 0, 1) := by decide +kernel
theorem dX3_search_96 : decode cX3_search 96 = .ok (.aload_n 1, 1) := by decide +kernel
theorem dX3_search_97 : decode cX3_search 97 = .ok (.iload_n 2, 1) := by decide +kernel
theorem dX3_search_98 : decode cX3_search 98 = .ok (.iconst 1, 1) := by decide +kernel
theorem dX3_search_99 : decode cX3_search 99 = .ok (.invokevirtual 86, 3) := by decide +kernel
theorem dX3_search_102 : decode cX3_search 102 = .ok (.goto (-42), 3) := by decide +kernel
theorem dX3_search_105 : decode cX3_search 105 = .ok (.aload_n 0, 1) := by decide +kernel
theorem dX3_search_106 : decode cX3_search 106 = .ok (.aload_n 1, 1) := by decide +kernel
theorem dX3_search_107 : decode cX3_search 107 = .ok (.iload_n 2, 1) := by decide +kernel
theorem dX3_search_108 : decode cX3_search 108 = .ok (.iload 5, 2) := by decide +kernel
theorem dX3_search_110 : decode cX3_search 110 = .ok (.ineg, 1) := by decide +kernel
theorem dX3_search_111 : decode cX3_search 111 = .ok (.invokevirtual 86, 3) := by decide +kernel
theorem dX3_search_114 : decode cX3_search 114 = .ok (.iconst 0, 1) := by decide +kernel
theorem dX3_search_115 : decode cX3_search 115 = .ok (.ireturn, 1) := by decide +kernel
theorem dX3_mayReach_0 : decode cX3_mayReach 0 = .ok (.iconst 0, 1) := by decide +kernel
theorem dX3_mayReach_1 : decode cX3_mayReach 1 = .ok (.istore_n 3, 1) := by decide +kernel
theorem dX3_mayReach_2 : decode cX3_mayReach 2 = .ok (.iload_n 3, 1) := by decide +kernel
theorem dX3_mayReach_3 : decode cX3_mayReach 3 = .ok (.iconst 5, 1) := by decide +kernel
theorem dX3_mayReach_4 : decode cX3_mayReach 4 = .ok (.if_icmp .ge 68, 3) := by decide +kernel
theorem dX3_mayReach_7 : decode cX3_mayReach 7 = .ok (.iload_n 1, 1) := by decide +kernel
theorem dX3_mayReach_8 : decode cX3_mayReach 8 = .ok (.iconst 5, 1) := by decide +kernel
theorem dX3_mayReach_9 : decode cX3_mayReach 9 = .ok (.imul, 1) := by decide +kernel
theorem dX3_mayReach_10 : decode cX3_mayReach 10 = .ok (.iload_n 3, 1) := by decide +kernel
theorem dX3_mayReach_11 : decode cX3_mayReach 11 = .ok (.iadd, 1) := by decide +kernel
theorem dX3_mayReach_12 : decode cX3_mayReach 12 = .ok (.istore 4, 2) := by decide +kernel
theorem dX3_mayReach_14 : decode cX3_mayReach 14 = .ok (.aload_n 0, 1) := by decide +kernel
theorem dX3_mayReach_15 : decode cX3_mayReach 15 = .ok (.getfield 24, 3) := by decide +kernel
theorem dX3_mayReach_18 : decode cX3_mayReach 18 = .ok (.iload_n 3, 1) := by decide +kernel
theorem dX3_mayReach_19 : decode cX3_mayReach 19 = .ok (.iaload, 1) := by decide +kernel
theorem dX3_mayReach_20 : decode cX3_mayReach 20 = .ok (.iload_n 2, 1) := by decide +kernel
theorem dX3_mayReach_21 : decode cX3_mayReach 21 = .ok (.aload_n 0, 1) := by decide +kernel
theorem dX3_mayReach_22 : decode cX3_mayReach 22 = .ok (.getfield 33, 3) := by decide +kernel
theorem dX3_mayReach_25 : decode cX3_mayReach 25 = .ok (.iload 4, 2) := by decide +kernel
theorem dX3_mayReach_27 : decode cX3_mayReach 27 = .ok (.iaload, 1) := by decide +kernel
theorem dX3_mayReach_28 : decode cX3_mayReach 28 = .ok (.imul, 1) := by decide +kernel
theorem dX3_mayReach_29 : decode cX3_mayReach 29 = .ok (.isub, 1) := by decide +kernel
theorem dX3_mayReach_30 : decode cX3_mayReach 30 = .ok (.aload_n 0, 1) := by decide +kernel
theorem dX3_mayReach_31 : decode cX3_mayReach 31 = .ok (.getfield 9, 3) := by decide +kernel
theorem dX3_mayReach_34 : decode cX3_mayReach 34 = .ok (.iload_n 3, 1) := by decide +kernel
theorem dX3_mayReach_35 : decode cX3_mayReach 35 = .ok (.iaload, 1) := by decide +kernel
theorem dX3_mayReach_36 : decode cX3_mayReach 36 = .ok (.if_icmp .lt 28, 3) := by decide +kernel
theorem dX3_mayReach_39 : decode cX3_mayReach 39 = .ok (.aload_n 0, 1) := by decide +kernel
theorem dX3_mayReach_40 : decode cX3_mayReach 40 = .ok (.getfield 24, 3) := by decide +kernel
theorem dX3_mayReach_43 : decode cX3_mayReach 43 = .ok (.iload_n 3, 1) := by decide +kernel
theorem dX3_mayReach_44 : decode cX3_mayReach 44 = .ok (.iaload, 1) := by decide +kernel
theorem dX3_mayReach_45 : decode cX3_mayReach 45 = .ok (.iload_n 2, 1) := by decide +kernel
theorem dX3_mayReach_46 : decode cX3_mayReach 46 = .ok (.aload_n 0, 1) := by decide +kernel
theorem dX3_mayReach_47 : decode cX3_mayReach 47 = .ok (.getfield 30, 3) := by decide +kernel
theorem dX3_mayReach_50 : decode cX3_mayReach 50 = .ok (.iload 4, 2) := by decide +kernel
theorem dX3_mayReach_52 : decode cX3_mayReach 52 = .ok (.iaload, 1) := by decide +kernel
theorem dX3_mayReach_53 : decode cX3_mayReach 53 = .ok (.imul, 1) := by decide +kernel
theorem dX3_mayReach_54 : decode cX3_mayReach 54 = .ok (.isub, 1) := by decide +kernel
theorem dX3_mayReach_55 : decode cX3_mayReach 55 = .ok (.aload_n 0, 1) := by decide +kernel
theorem dX3_mayReach_56 : decode cX3_mayReach 56 = .ok (.getfield 15, 3) := by decide +kernel
theorem dX3_mayReach_59 : decode cX3_mayReach 59 = .ok (.iload_n 3, 1) := by decide +kernel
theorem dX3_mayReach_60 : decode cX3_mayReach 60 = .ok (.iaload, 1) := by decide +kernel
theorem dX3_mayReach_61 : decode cX3_mayReach 61 = .ok (.if_icmp .le 5, 3) := by decide +kernel
theorem dX3_mayReach_64 : decode cX3_mayReach 64 = .ok (.iconst 0, 1) := by decide +kernel
theorem dX3_mayReach_65 : decode cX3_mayReach 65 = .ok (.ireturn, 1) := by decide +kernel
theorem dX3_mayReach_66 : decode cX3_mayReach 66 = .ok (.iinc 3 1, 3) := by decide +kernel
theorem dX3_mayReach_69 : decode cX3_mayReach 69 = .ok (.goto (-67), 3) := by decide +kernel
theorem dX3_mayReach_72 : decode cX3_mayReach 72 = .ok (.iconst 1, 1) := by decide +kernel
theorem dX3_mayReach_73 : decode cX3_mayReach 73 = .ok (.ireturn, 1) := by decide +kernel
theorem dX3_lower_0 : decode cX3_lower 0 = .ok (.iconst 0, 1) := by decide +kernel
theorem dX3_lower_1 : decode cX3_lower 1 = .ok (.istore 4, 2) := by decide +kernel
theorem dX3_lower_3 : decode cX3_lower 3 = .ok (.iload 4, 2) := by decide +kernel
theorem dX3_lower_5 : decode cX3_lower 5 = .ok (.iconst 5, 1) := by decide +kernel
theorem dX3_lower_6 : decode cX3_lower 6 = .ok (.if_icmp .ge 28, 3) := by decide +kernel
theorem dX3_lower_9 : decode cX3_lower 9 = .ok (.aload_n 0, 1) := by decide +kernel
theorem dX3_lower_10 : decode cX3_lower 10 = .ok (.getfield 24, 3) := by decide +kernel
theorem dX3_lower_13 : decode cX3_lower 13 = .ok (.iload 4, 2) := by decide +kernel
theorem dX3_lower_15 : decode cX3_lower 15 = .ok (.dup2, 1) := by decide +kernel
theorem dX3_lower_16 : decode cX3_lower 16 = .ok (.iaload, 1) := by decide +kernel
theorem dX3_lower_17 : decode cX3_lower 17 = .ok (.iload_n 3, 1) := by decide +kernel
theorem dX3_lower_18 : decode cX3_lower 18 = .ok (.aload_n 1, 1) := by decide +kernel
theorem dX3_lower_19 : decode cX3_lower 19 = .ok (.iload 4, 2) := by decide +kernel
theorem dX3_lower_21 : decode cX3_lower 21 = .ok (.iload_n 2, 1) := by decide +kernel
theorem dX3_lower_22 : decode cX3_lower 22 = .ok (.invokevirtual 76, 3) := by decide +kernel
theorem dX3_lower_25 : decode cX3_lower 25 = .ok (.imul, 1) := by decide +kernel
theorem dX3_lower_26 : decode cX3_lower 26 = .ok (.isub, 1) := by decide +kernel
theorem dX3_lower_27 : decode cX3_lower 27 = .ok (.iastore, 1) := by decide +kernel
theorem dX3_lower_28 : decode cX3_lower 28 = .ok (.iinc 4 1, 3) := by decide +kernel
theorem dX3_lower_31 : decode cX3_lower 31 = .ok (.goto (-28), 3) := by decide +kernel
theorem dX3_lower_34 : decode cX3_lower 34 = .ok (.return_, 1) := by decide +kernel
theorem dJ7_fill_d0a16_0 : decode cJ7_fill_d0a16 0 = .ok (.iconst 0, 1) := by decide +kernel
theorem dJ7_fill_d0a16_1 : decode cJ7_fill_d0a16 1 = .ok (.istore_n 3, 1) := by decide +kernel
theorem dJ7_fill_d0a16_2 : decode cJ7_fill_d0a16 2 = .ok (.aload_n 0, 1) := by decide +kernel
theorem dJ7_fill_d0a16_3 : decode cJ7_fill_d0a16 3 = .ok (.arraylength, 1) := by decide +kernel
theorem dJ7_fill_d0a16_4 : decode cJ7_fill_d0a16 4 = .ok (.istore 4, 2) := by decide +kernel
theorem dJ7_fill_d0a16_6 : decode cJ7_fill_d0a16 6 = .ok (.iload_n 3, 1) := by decide +kernel
theorem dJ7_fill_d0a16_7 : decode cJ7_fill_d0a16 7 = .ok (.iload 4, 2) := by decide +kernel
theorem dJ7_fill_d0a16_9 : decode cJ7_fill_d0a16 9 = .ok (.if_icmp .ge 13, 3) := by decide +kernel
theorem dJ7_fill_d0a16_12 : decode cJ7_fill_d0a16 12 = .ok (.aload_n 0, 1) := by decide +kernel
theorem dJ7_fill_d0a16_13 : decode cJ7_fill_d0a16 13 = .ok (.iload_n 3, 1) := by decide +kernel
theorem dJ7_fill_d0a16_14 : decode cJ7_fill_d0a16 14 = .ok (.lload_n 1, 1) := by decide +kernel
theorem dJ7_fill_d0a16_15 : decode cJ7_fill_d0a16 15 = .ok (.lastore, 1) := by decide +kernel
theorem dJ7_fill_d0a16_16 : decode cJ7_fill_d0a16 16 = .ok (.iinc 3 1, 3) := by decide +kernel
theorem dJ7_fill_d0a16_19 : decode cJ7_fill_d0a16 19 = .ok (.goto (-13), 3) := by decide +kernel
theorem dJ7_fill_d0a16_22 : decode cJ7_fill_d0a16 22 = .ok (.return_, 1) := by decide +kernel
theorem dJ7_fill_53178_0 : decode cJ7_fill_53178 0 = .ok (.iconst 0, 1) := by decide +kernel
theorem dJ7_fill_53178_1 : decode cJ7_fill_53178 1 = .ok (.istore_n 2, 1) := by decide +kernel
theorem dJ7_fill_53178_2 : decode cJ7_fill_53178 2 = .ok (.aload_n 0, 1) := by decide +kernel
theorem dJ7_fill_53178_3 : decode cJ7_fill_53178 3 = .ok (.arraylength, 1) := by decide +kernel
theorem dJ7_fill_53178_4 : decode cJ7_fill_53178 4 = .ok (.istore_n 3, 1) := by decide +kernel
theorem dJ7_fill_53178_5 : decode cJ7_fill_53178 5 = .ok (.iload_n 2, 1) := by decide +kernel
theorem dJ7_fill_53178_6 : decode cJ7_fill_53178 6 = .ok (.iload_n 3, 1) := by decide +kernel
theorem dJ7_fill_53178_7 : decode cJ7_fill_53178 7 = .ok (.if_icmp .ge 13, 3) := by decide +kernel
theorem dJ7_fill_53178_10 : decode cJ7_fill_53178 10 = .ok (.aload_n 0, 1) := by decide +kernel
theorem dJ7_fill_53178_11 : decode cJ7_fill_53178 11 = .ok (.iload_n 2, 1) := by decide +kernel
theorem dJ7_fill_53178_12 : decode cJ7_fill_53178 12 = .ok (.iload_n 1, 1) := by decide +kernel
theorem dJ7_fill_53178_13 : decode cJ7_fill_53178 13 = .ok (.iastore, 1) := by decide +kernel
theorem dJ7_fill_53178_14 : decode cJ7_fill_53178 14 = .ok (.iinc 2 1, 3) := by decide +kernel
theorem dJ7_fill_53178_17 : decode cJ7_fill_53178 17 = .ok (.goto (-12), 3) := by decide +kernel
theorem dJ7_fill_53178_20 : decode cJ7_fill_53178 20 = .ok (.return_, 1) := by decide +kernel
end
section
theorem dX4_init_0 : decode cX4_init 0 = .ok (.aload_n 0, 1) := by decide +kernel
theorem dX4_init_1 : decode cX4_init 1 = .ok (.invokespecial 1, 3) := by decide +kernel
theorem dX4_init_4 : decode cX4_init 4 = .ok (.aload_n 0, 1) := by decide +kernel
theorem dX4_init_5 : decode cX4_init 5 = .ok (.iconst 4, 1) := by decide +kernel
theorem dX4_init_6 : decode cX4_init 6 = .ok (.anewarray 9, 3) := by decide +kernel
theorem dX4_init_9 : decode cX4_init 9 = .ok (.putfield 11, 3) := by decide +kernel
theorem dX4_init_12 : decode cX4_init 12 = .ok (.aload_n 0, 1) := by decide +kernel
theorem dX4_init_13 : decode cX4_init 13 = .ok (.bipush 24, 2) := by decide +kernel
theorem dX4_init_15 : decode cX4_init 15 = .ok (.anewarray 15, 3) := by decide +kernel
theorem dX4_init_18 : decode cX4_init 18 = .ok (.putfield 17, 3) := by decide +kernel
theorem dX4_init_21 : decode cX4_init 21 = .ok (.aload_n 0, 1) := by decide +kernel
theorem dX4_init_22 : decode cX4_init 22 = .ok (.new 21, 3) := by decide +kernel
theorem dX4_init_25 : decode cX4_init 25 = .ok (.dup, 1) := by decide +kernel
theorem dX4_init_26 : decode cX4_init 26 = .ok (.invokespecial 23, 3) := by decide +kernel
theorem dX4_init_29 : decode cX4_init 29 = .ok (.putfield 24, 3) := by decide +kernel
theorem dX4_init_32 : decode cX4_init 32 = .ok (.aload_n 0, 1) := by decide +kernel
theorem dX4_init_33 : decode cX4_init 33 = .ok (.new 28, 3) := by decide +kernel
theorem dX4_init_36 : decode cX4_init 36 = .ok (.dup, 1) := by decide +kernel
theorem dX4_init_37 : decode cX4_init 37 = .ok (.invokespecial 30, 3) := by decide +kernel
theorem dX4_init_40 : decode cX4_init 40 = .ok (.putfield 31, 3) := by decide +kernel
theorem dX4_init_43 : decode cX4_init 43 = .ok (.aload_n 0, 1) := by decide +kernel
theorem dX4_init_44 : decode cX4_init 44 = .ok (.iconst 5, 1) := by decide +kernel
theorem dX4_init_45 : decode cX4_init 45 = .ok (.newarray .int, 2) := by decide +kernel
theorem dX4_init_47 : decode cX4_init 47 = .ok (.putfield 35, 3) := by decide +kernel
theorem dX4_init_50 : decode cX4_init 50 = .ok (.return_, 1) := by decide +kernel
theorem dX4_profile_0 : decode cX4_profile 0 = .ok (.aload_n 0, 1) := by decide +kernel
theorem dX4_profile_1 : decode cX4_profile 1 = .ok (.getfield 39, 3) := by decide +kernel
theorem dX4_profile_4 : decode cX4_profile 4 = .ok (.iconst 4, 1) := by decide +kernel
theorem dX4_profile_5 : decode cX4_profile 5 = .ok (.if_icmp .ge 14, 3) := by decide +kernel
theorem dX4_profile_8 : decode cX4_profile 8 = .ok (.iload_n 1, 1) := by decide +kernel
theorem dX4_profile_9 : decode cX4_profile 9 = .ok (.iconst 0, 1) := by decide +kernel
theorem dX4_profile_10 : decode cX4_profile 10 = .ok (.sipush 5000, 3) := by decide +kernel
theorem dX4_profile_13 : decode cX4_profile 13 = .ok (.invokestatic 43, 3) := by decide +kernel
theorem dX4_profile_16 : decode cX4_profile 16 = .ok (.ifCond .ne 5, 3) := by decide +kernel
theorem dX4_profile_19 : decode cX4_profile 19 = .ok (.iconst (-1), 1) := by decide +kernel
theorem dX4_profile_20 : decode cX4_profile 20 = .ok (.ireturn, 1) := by decide +kernel
theorem dX4_profile_21 : decode cX4_profile 21 = .ok (.aload_n 0, 1) := by decide +kernel
theorem dX4_profile_22 : decode cX4_profile 22 = .ok (.getfield 11, 3) := by decide +kernel
theorem dX4_profile_25 : decode cX4_profile 25 = .ok (.aload_n 0, 1) := by decide +kernel
theorem dX4_profile_26 : decode cX4_profile 26 = .ok (.getfield 39, 3) := by decide +kernel
theorem dX4_profile_29 : decode cX4_profile 29 = .ok (.new 9, 3) := by decide +kernel
theorem dX4_profile_32 : decode cX4_profile 32 = .ok (.dup, 1) := by decide +kernel
theorem dX4_profile_33 : decode cX4_profile 33 = .ok (.iload_n 1, 1) := by decide +kernel
theorem dX4_profile_34 : decode cX4_profile 34 = .ok (.invokespecial 47, 3) := by decide +kernel
theorem dX4_profile_37 : decode cX4_profile 37 = .ok (.aastore, 1) := by decide +kernel
theorem dX4_profile_38 : decode cX4_profile 38 = .ok (.aload_n 0, 1) := by decide +kernel
theorem dX4_profile_39 : decode cX4_profile 39 = .ok (.dup, 1) := by decide +kernel
theorem dX4_profile_40 : decode cX4_profile 40 = .ok (.getfield 39, 3) := by decide +kernel
theorem dX4_profile_43 : decode cX4_profile 43 = .ok (.iconst 1, 1) := by decide +kernel
theorem dX4_profile_44 : decode cX4_profile 44 = .ok (.iadd, 1) := by decide +kernel
theorem dX4_profile_45 : decode cX4_profile 45 = .ok (.putfield 39, 3) := by decide +kernel
theorem dX4_profile_48 : decode cX4_profile 48 = .ok (.aload_n 0, 1) := by decide +kernel
theorem dX4_profile_49 : decode cX4_profile 49 = .ok (.getfield 39, 3) := by decide +kernel
theorem dX4_profile_52 : decode cX4_profile 52 = .ok (.iconst 1, 1) := by decide +kernel
theorem dX4_profile_53 : decode cX4_profile 53 = .ok (.isub, 1) := by decide +kernel
theorem dX4_profile_54 : decode cX4_profile 54 = .ok (.ireturn, 1) := by decide +kernel
theorem dX4_shape_0 : decode cX4_shape 0 = .ok (.aload_n 0, 1) := by decide +kernel
theorem dX4_shape_1 : decode cX4_shape 1 = .ok (.iload_n 1, 1) := by decide +kernel
theorem dX4_shape_2 : decode cX4_shape 2 = .ok (.invokevirtual 50, 3) := by decide +kernel
theorem dX4_shape_5 : decode cX4_shape 5 = .ok (.astore 5, 2) := by decide +kernel
theorem dX4_shape_7 : decode cX4_shape 7 = .ok (.aload 5, 2) := by decide +kernel
theorem dX4_shape_9 : decode cX4_shape 9 = .ok (.ifnull 10, 3) := by decide +kernel
theorem dX4_shape_12 : decode cX4_shape 12 = .ok (.iload_n 3, 1) := by decide +kernel
theorem dX4_shape_13 : decode cX4_shape 13 = .ok (.invokestatic 54, 3) := by decide +kernel
theorem dX4_shape_16 : decode cX4_shape 16 = .ok (.ifCond .ne 5, 3) := by decide +kernel
theorem dX4_shape_19 : decode cX4_shape 19 = .ok (.iconst 0, 1) := by decide +kernel
theorem dX4_shape_20 : decode cX4_shape 20 = .ok (.ireturn, 1) := by decide +kernel
theorem dX4_shape_21 : decode cX4_shape 21 = .ok (.iload_n 2, 1) := by decide +kernel
theorem dX4_shape_22 : decode cX4_shape 22 = .ok (.invokestatic 58, 3) := by decide +kernel
theorem dX4_shape_25 : decode cX4_shape 25 = .ok (.ifCond .eq 13, 3) := by decide +kernel
theorem dX4_shape_28 : decode cX4_shape 28 = .ok (.aload 5, 2) := by decide +kernel
theorem dX4_shape_30 : decode cX4_shape 30 = .ok (.iload_n 2, 1) := by decide +kernel
theorem dX4_shape_31 : decode cX4_shape 31 = .ok (.iload_n 3, 1) := by decide +kernel
theorem dX4_shape_32 : decode cX4_shape 32 = .ok (.iload 4, 2) := by decide +kernel
theorem dX4_shape_34 : decode cX4_shape 34 = .ok (.invokevirtual 61, 3) := by decide +kernel
theorem dX4_shape_37 : decode cX4_shape 37 = .ok (.ireturn, 1) := by decide +kernel
theorem dX4_shape_38 : decode cX4_shape 38 = .ok (.iload_n 2, 1) := by decide +kernel
theorem dX4_shape_39 : decode cX4_shape 39 = .ok (.tableswitch 52 5 7 #[25, 34, 43], 25) := by decide +kernel
theorem dX4_shape_64 : decode cX4_shape 64 = .ok (.aload 5, 2) := by decide +kernel
theorem dX4_shape_66 : decode cX4_shape 66 = .ok (.iload_n 3, 1) := by decide +kernel
theorem dX4_shape_67 : decode cX4_shape 67 = .ok (.iload 4, 2) := by decide +kernel
theorem dX4_shape_69 : decode cX4_shape 69 = .ok (.invokevirtual 64, 3) := by decide +kernel
theorem dX4_shape_72 : decode cX4_shape 72 = .ok (.ireturn, 1) := by decide +kernel
theorem dX4_shape_73 : decode cX4_shape 73 = .ok (.aload 5, 2) := by decide +kernel
theorem dX4_shape_75 : decode cX4_shape 75 = .ok (.iload_n 3, 1) := by decide +kernel
theorem dX4_shape_76 : decode cX4_shape 76 = .ok (.iload 4, 2) := by decide +kernel
theorem dX4_shape_78 : decode cX4_shape 78 = .ok (.invokevirtual 68, 3) := by decide +kernel
theorem dX4_shape_81 : decode cX4_shape 81 = .ok (.ireturn, 1) := by decide +kernel
theorem dX4_shape_82 : decode cX4_shape 82 = .ok (.aload 5, 2) := by decide +kernel
theorem dX4_shape_84 : decode cX4_shape 84 = .ok (.iload_n 3, 1) := by decide +kernel
theorem dX4_shape_85 : decode cX4_shape 85 = .ok (.iload 4, 2) := by decide +kernel
theorem dX4_shape_87 : decode cX4_shape 87 = .ok (.invokevirtual 71, 3) := by decide +kernel
theorem dX4_shape_90 : decode cX4_shape 90 = .ok (.ireturn, 1) := by decide +kernel
theorem dX4_shape_91 : decode cX4_shape 91 = .ok (.iconst 0, 1) := by decide +kernel
theorem dX4_shape_92 : decode cX4_shape 92 = .ok (.ireturn, 1) := by decide +kernel
theorem dX4_base_0 : decode cX4_base 0 = .ok (.aload_n 0, 1) := by decide +kernel
theorem dX4_base_1 : decode cX4_base 1 = .ok (.iload_n 1, 1) := by decide +kernel
theorem dX4_base_2 : decode cX4_base 2 = .ok (.invokevirtual 50, 3) := by decide +kernel
theorem dX4_base_5 : decode cX4_base 5 = .ok (.astore 4, 2) := by decide +kernel
theorem dX4_base_7 : decode cX4_base 7 = .ok (.aload 4, 2) := by decide +kernel
theorem dX4_base_9 : decode cX4_base 9 = .ok (.ifnull 23, 3) := by decide +kernel
theorem dX4_base_12 : decode cX4_base 12 = .ok (.iload_n 2, 1) := by decide +kernel
theorem dX4_base_13 : decode cX4_base 13 = .ok (.invokestatic 58, 3) := by decide +kernel
theorem dX4_base_16 : decode cX4_base 16 = .ok (.ifCond .eq 16, 3) := by decide +kernel
theorem dX4_base_19 : decode cX4_base 19 = .ok (.iload_n 3, 1) := by decide +kernel
theorem dX4_base_20 : decode cX4_base 20 = .ok (.sipush (-20000), 3) := by decide +kernel
theorem dX4_base_23 : decode cX4_base 23 = .ok (.sipush 20000, 3) := by decide +kernel
theorem dX4_base_26 : decode cX4_base 26 = .ok (.invokestatic 43, 3) := by decide +kernel
theorem dX4_base_29 : decode cX4_base 29 = .ok (.ifCond .ne 5, 3) := by decide +kernel
theorem dX4_base_32 : decode cX4_base 32 = .ok (.iconst 0, 1) := by decide +kernel
theorem dX4_base_33 : decode cX4_base 33 = .ok (.ireturn, 1) := by decide +kernel
theorem dX4_base_34 : decode cX4_base 34 = .ok (.aload 4, 2) := by decide +kernel
theorem dX4_base_36 : decode cX4_base 36 = .ok (.getfield 74, 3) := by decide +kernel
theorem dX4_base_39 : decode cX4_base 39 = .ok (.iload_n 2, 1) := by decide +kernel
theorem dX4_base_40 : decode cX4_base 40 = .ok (.iload_n 3, 1) := by decide +kernel
theorem dX4_base_41 : decode cX4_base 41 = .ok (.iastore, 1) := by decide +kernel
theorem dX4_base_42 : decode cX4_base 42 = .ok (.iconst 1, 1) := by decide +kernel
theorem dX4_base_43 : decode cX4_base 43 = .ok (.ireturn, 1) := by decide +kernel
theorem dX4_buy_0 : decode cX4_buy 0 = .ok (.iload_n 1, 1) := by decide +kernel
theorem dX4_buy_1 : decode cX4_buy 1 = .ok (.iconst 0, 1) := by decide +kernel
theorem dX4_buy_2 : decode cX4_buy 2 = .ok (.ldc 77, 2) := by decide +kernel
theorem dX4_buy_4 : decode cX4_buy 4 = .ok (.invokestatic 43, 3) := by decide +kernel
theorem dX4_buy_7 : decode cX4_buy 7 = .ok (.ifCond .eq 13, 3) := by decide +kernel
theorem dX4_buy_10 : decode cX4_buy 10 = .ok (.iload_n 2, 1) := by decide +kernel
theorem dX4_buy_11 : decode cX4_buy 11 = .ok (.iconst 0, 1) := by decide +kernel
theorem dX4_buy_12 : decode cX4_buy 12 = .ok (.ldc 77, 2) := by decide +kernel
theorem dX4_buy_14 : decode cX4_buy 14 = .ok (.invokestatic 43, 3) := by decide +kernel
theorem dX4_buy_17 : decode cX4_buy 17 = .ok (.ifCond .ne 5, 3) := by decide +kernel
theorem dX4_buy_20 : decode cX4_buy 20 = .ok (.iconst 0, 1) := by decide +kernel
theorem dX4_buy_21 : decode cX4_buy 21 = .ok (.ireturn, 1) := by decide +kernel
theorem dX4_buy_22 : decode cX4_buy 22 = .ok (.aload_n 0, 1) := by decide +kernel
theorem dX4_buy_23 : decode cX4_buy 23 = .ok (.getfield 78, 3) := by decide +kernel
theorem dX4_buy_26 : decode cX4_buy 26 = .ok (.iload_n 1, 1) := by decide +kernel
theorem dX4_buy_27 : decode cX4_buy 27 = .ok (.iadd, 1) := by decide +kernel
theorem dX4_buy_28 : decode cX4_buy 28 = .ok (.ldc 81, 2) := by decide +kernel
theorem dX4_buy_30 : decode cX4_buy 30 = .ok (.if_icmp .gt 14, 3) := by decide +kernel
theorem dX4_buy_33 : decode cX4_buy 33 = .ok (.aload_n 0, 1) := by decide +kernel
theorem dX4_buy_34 : decode cX4_buy 34 = .ok (.getfield 82, 3) := by decide +kernel
theorem dX4_buy_37 : decode cX4_buy 37 = .ok (.iload_n 2, 1) := by decide +kernel
theorem dX4_buy_38 : decode cX4_buy 38 = .ok (.iadd, 1) := by decide +kernel
theorem dX4_buy_39 : decode cX4_buy 39 = .ok (.ldc 81, 2) := by decide +kernel
theorem dX4_buy_41 : decode cX4_buy 41 = .ok (.if_icmp .le 5, 3) := by decide +kernel
theorem dX4_buy_44 : decode cX4_buy 44 = .ok (.iconst 0, 1) := by decide +kernel
theorem dX4_buy_45 : decode cX4_buy 45 = .ok (.ireturn, 1) := by decide +kernel
theorem dX4_buy_46 : decode cX4_buy 46 = .ok (.aload_n 0, 1) := by decide +kernel
theorem dX4_buy_47 : decode cX4_buy 47 = .ok (.dup, 1) := by decide +kernel
theorem dX4_buy_48 : decode cX4_buy 48 = .ok (.getfield 78, 3) := by decide +kernel
theorem dX4_buy_51 : decode cX4_buy 51 = .ok (.iload_n 1, 1) := by decide +kernel
theorem dX4_buy_52 : decode cX4_buy 52 = .ok (.iadd, 1) := by decide +kernel
theorem dX4_buy_53 : decode cX4_buy 53 = .ok (.putfield 78, 3) := by decide +kernel
theorem dX4_buy_56 : decode cX4_buy 56 = .ok (.aload_n 0, 1) := by decide +kernel
theorem dX4_buy_57 : decode cX4_buy 57 = .ok (.dup, 1) := by decide +kernel
theorem dX4_buy_58 : decode cX4_buy 58 = .ok (.getfield 82, 3) := by decide +kernel
theorem dX4_buy_61 : decode cX4_buy 61 = .ok (.iload_n 2, 1) := by decide +kernel
theorem dX4_buy_62 : decode cX4_buy 62 = .ok (.iadd, 1) := by decide +kernel
theorem dX4_buy_63 : decode cX4_buy 63 = .ok (.putfield 82, 3) := by decide +kernel
theorem dX4_buy_66 : decode cX4_buy 66 = .ok (.iconst 1, 1) := by decide +kernel
theorem dX4_buy_67 : decode cX4_buy 67 = .ok (.ireturn, 1) := by decide +kernel
theorem dX4_cast_0 : decode cX4_cast 0 = .ok (.aload_n 0, 1) := by decide +kernel
theorem dX4_cast_1 : decode cX4_cast 1 = .ok (.iload_n 1, 1) := by decide +kernel
theorem dX4_cast_2 : decode cX4_cast 2 = .ok (.invokevirtual 50, 3) := by decide +kernel
theorem dX4_cast_5 : decode cX4_cast 5 = .ok (.astore_n 2, 1) := by decide +kernel
theorem dX4_cast_6 : decode cX4_cast 6 = .ok (.aload_n 2, 1) := by decide +kernel
theorem dX4_cast_7 : decode cX4_cast 7 = .ok (.ifnull 23, 3) := by decide +kernel
theorem dX4_cast_10 : decode cX4_cast 10 = .ok (.aload_n 0, 1) := by decide +kernel
theorem dX4_cast_11 : decode cX4_cast 11 = .ok (.getfield 85, 3) := by decide +kernel
theorem dX4_cast_14 : decode cX4_cast 14 = .ok (.bipush 24, 2) := by decide +kernel
theorem dX4_cast_16 : decode cX4_cast 16 = .ok (.if_icmp .ge 14, 3) := by decide +kernel
theorem dX4_cast_19 : decode cX4_cast 19 = .ok (.aload_n 0, 1) := by decide +kernel
theorem dX4_cast_20 : decode cX4_cast 20 = .ok (.aload_n 2, 1) := by decide +kernel
theorem dX4_cast_21 : decode cX4_cast 21 = .ok (.invokevirtual 88, 3) := by decide +kernel
theorem dX4_cast_24 : decode cX4_cast 24 = .ok (.invokevirtual 92, 3) := by decide +kernel
theorem dX4_cast_27 : decode cX4_cast 27 = .ok (.ifCond .ne 5, 3) := by decide +kernel
theorem dX4_cast_30 : decode cX4_cast 30 = .ok (.iconst (-1), 1) := by decide +kernel
theorem dX4_cast_31 : decode cX4_cast 31 = .ok (.ireturn, 1) := by decide +kernel
theorem dX4_cast_32 : decode cX4_cast 32 = .ok (.aload_n 0, 1) := by decide +kernel
theorem dX4_cast_33 : decode cX4_cast 33 = .ok (.getfield 17, 3) := by decide +kernel
theorem dX4_cast_36 : decode cX4_cast 36 = .ok (.aload_n 0, 1) := by decide +kernel
theorem dX4_cast_37 : decode cX4_cast 37 = .ok (.getfield 85, 3) := by decide +kernel
theorem dX4_cast_40 : decode cX4_cast 40 = .ok (.new 15, 3) := by decide +kernel
theorem dX4_cast_43 : decode cX4_cast 43 = .ok (.dup, 1) := by decide +kernel
theorem dX4_cast_44 : decode cX4_cast 44 = .ok (.iload_n 1, 1) := by decide +kernel
theorem dX4_cast_45 : decode cX4_cast 45 = .ok (.aload_n 2, 1) := by decide +kernel
theorem dX4_cast_46 : decode cX4_cast 46 = .ok (.invokespecial 95, 3) := by decide +kernel
theorem dX4_cast_49 : decode cX4_cast 49 = .ok (.aastore, 1) := by decide +kernel
theorem dX4_cast_50 : decode cX4_cast 50 = .ok (.aload_n 0, 1) := by decide +kernel
theorem dX4_cast_51 : decode cX4_cast 51 = .ok (.dup, 1) := by decide +kernel
theorem dX4_cast_52 : decode cX4_cast 52 = .ok (.getfield 85, 3) := by decide +kernel
theorem dX4_cast_55 : decode cX4_cast 55 = .ok (.iconst 1, 1) := by decide +kernel
theorem dX4_cast_56 : decode cX4_cast 56 = .ok (.iadd, 1) := by decide +kernel
theorem dX4_cast_57 : decode cX4_cast 57 = .ok (.putfield 85, 3) := by decide +kernel
theorem dX4_cast_60 : decode cX4_cast 60 = .ok (.aload_n 0, 1) := by decide +kernel
theorem dX4_cast_61 : decode cX4_cast 61 = .ok (.getfield 31, 3) := by decide +kernel
theorem dX4_cast_64 : decode cX4_cast 64 = .ok (.invokevirtual 98, 3) := by decide +kernel
theorem dX4_cast_67 : decode cX4_cast 67 = .ok (.aload_n 0, 1) := by decide +kernel
theorem dX4_cast_68 : decode cX4_cast 68 = .ok (.getfield 85, 3) := by decide +kernel
theorem dX4_cast_71 : decode cX4_cast 71 = .ok (.iconst 1, 1) := by decide +kernel
theorem dX4_cast_72 : decode cX4_cast 72 = .ok (.isub, 1) := by decide +kernel
theorem dX4_cast_73 : decode cX4_cast 73 = .ok (.ireturn, 1) := by decide +kernel
theorem dX4_cut_0 : decode cX4_cut 0 = .ok (.aload_n 0, 1) := by decide +kernel
theorem dX4_cut_1 : decode cX4_cut 1 = .ok (.iload_n 1, 1) := by decide +kernel
theorem dX4_cut_2 : decode cX4_cut 2 = .ok (.invokevirtual 101, 3) := by decide +kernel
theorem dX4_cut_5 : decode cX4_cut 5 = .ok (.astore_n 3, 1) := by decide +kernel
theorem dX4_cut_6 : decode cX4_cut 6 = .ok (.aload_n 3, 1) := by decide +kernel
theorem dX4_cut_7 : decode cX4_cut 7 = .ok (.ifnull 26, 3) := by decide +kernel
theorem dX4_cut_10 : decode cX4_cut 10 = .ok (.iload_n 2, 1) := by decide +kernel
theorem dX4_cut_11 : decode cX4_cut 11 = .ok (.invokestatic 54, 3) := by decide +kernel
theorem dX4_cut_14 : decode cX4_cut 14 = .ok (.ifCond .eq 19, 3) := by decide +kernel
theorem dX4_cut_17 : decode cX4_cut 17 = .ok (.aload_n 3, 1) := by decide +kernel
theorem dX4_cut_18 : decode cX4_cut 18 = .ok (.invokevirtual 105, 3) := by decide +kernel
theorem dX4_cut_21 : decode cX4_cut 21 = .ok (.ifCond .eq 12, 3) := by decide +kernel
theorem dX4_cut_24 : decode cX4_cut 24 = .ok (.aload_n 3, 1) := by decide +kernel
theorem dX4_cut_25 : decode cX4_cut 25 = .ok (.iload_n 2, 1) := by decide +kernel
theorem dX4_cut_26 : decode cX4_cut 26 = .ok (.invokevirtual 109, 3) := by decide +kernel
theorem dX4_cut_29 : decode cX4_cut 29 = .ok (.iconst 1, 1) := by decide +kernel
theorem dX4_cut_30 : decode cX4_cut 30 = .ok (.if_icmp .ge 5, 3) := by decide +kernel
theorem dX4_cut_33 : decode cX4_cut 33 = .ok (.iconst (-1), 1) := by decide +kernel
theorem dX4_cut_34 : decode cX4_cut 34 = .ok (.ireturn, 1) := by decide +kernel
theorem dX4_cut_35 : decode cX4_cut 35 = .ok (.aload_n 0, 1) := by decide +kernel
theorem dX4_cut_36 : decode cX4_cut 36 = .ok (.aload_n 3, 1) := by decide +kernel
theorem dX4_cut_37 : decode cX4_cut 37 = .ok (.iload_n 2, 1) := by decide +kernel
theorem dX4_cut_38 : decode cX4_cut 38 = .ok (.iconst 1, 1) := by decide +kernel
theorem dX4_cut_39 : decode cX4_cut 39 = .ok (.invokevirtual 113, 3) := by decide +kernel
theorem dX4_cut_42 : decode cX4_cut 42 = .ok (.aload_n 3, 1) := by decide +kernel
theorem dX4_cut_43 : decode cX4_cut 43 = .ok (.getfield 117, 3) := by decide +kernel
theorem dX4_cut_46 : decode cX4_cut 46 = .ok (.iload_n 2, 1) := by decide +kernel
theorem dX4_cut_47 : decode cX4_cut 47 = .ok (.iaload, 1) := by decide +kernel
theorem dX4_cut_48 : decode cX4_cut 48 = .ok (.ireturn, 1) := by decide +kernel
theorem dX4_old_0 : decode cX4_old 0 = .ok (.aload_n 0, 1) := by decide +kernel
theorem dX4_old_1 : decode cX4_old 1 = .ok (.iload_n 1, 1) := by decide +kernel
theorem dX4_old_2 : decode cX4_old 2 = .ok (.invokevirtual 101, 3) := by decide +kernel
theorem dX4_old_5 : decode cX4_old 5 = .ok (.astore_n 2, 1) := by decide +kernel
theorem dX4_old_6 : decode cX4_old 6 = .ok (.aload_n 2, 1) := by decide +kernel
theorem dX4_old_7 : decode cX4_old 7 = .ok (.ifnonnull 5, 3) := by decide +kernel
theorem dX4_old_10 : decode cX4_old 10 = .ok (.iconst 0, 1) := by decide +kernel
theorem dX4_old_11 : decode cX4_old 11 = .ok (.ireturn, 1) := by decide +kernel
theorem dX4_old_12 : decode cX4_old 12 = .ok (.aload_n 2, 1) := by decide +kernel
theorem dX4_old_13 : decode cX4_old 13 = .ok (.iconst 1, 1) := by decide +kernel
theorem dX4_old_14 : decode cX4_old 14 = .ok (.putfield 120, 3) := by decide +kernel
theorem dX4_old_17 : decode cX4_old 17 = .ok (.iconst 1, 1) := by decide +kernel
theorem dX4_old_18 : decode cX4_old 18 = .ok (.ireturn, 1) := by decide +kernel
theorem dX4_crack_0 : decode cX4_crack 0 = .ok (.aload_n 0, 1) := by decide +kernel
theorem dX4_crack_1 : decode cX4_crack 1 = .ok (.iload_n 1, 1) := by decide +kernel
theorem dX4_crack_2 : decode cX4_crack 2 = .ok (.invokevirtual 101, 3) := by decide +kernel
theorem dX4_crack_5 : decode cX4_crack 5 = .ok (.astore_n 2, 1) := by decide +kernel
theorem dX4_crack_6 : decode cX4_crack 6 = .ok (.aload_n 2, 1) := by decide +kernel
theorem dX4_crack_7 : decode cX4_crack 7 = .ok (.ifnull 10, 3) := by decide +kernel
theorem dX4_crack_10 : decode cX4_crack 10 = .ok (.aload_n 2, 1) := by decide +kernel
theorem dX4_crack_11 : decode cX4_crack 11 = .ok (.getfield 124, 3) := by decide +kernel
theorem dX4_crack_14 : decode cX4_crack 14 = .ok (.ifCond .eq 5, 3) := by decide +kernel
theorem dX4_crack_17 : decode cX4_crack 17 = .ok (.iconst 0, 1) := by decide +kernel
theorem dX4_crack_18 : decode cX4_crack 18 = .ok (.ireturn, 1) := by decide +kernel
theorem dX4_crack_19 : decode cX4_crack 19 = .ok (.aload_n 2, 1) := by decide +kernel
theorem dX4_crack_20 : decode cX4_crack 20 = .ok (.iconst 1, 1) := by decide +kernel
theorem dX4_crack_21 : decode cX4_crack 21 = .ok (.putfield 124, 3) := by decide +kernel
theorem dX4_crack_24 : decode cX4_crack 24 = .ok (.aload_n 2, 1) := by decide +kernel
theorem dX4_crack_25 : decode cX4_crack 25 = .ok (.iconst (-1), 1) := by decide +kernel
theorem dX4_crack_26 : decode cX4_crack 26 = .ok (.putfield 127, 3) := by decide +kernel
theorem dX4_crack_29 : decode cX4_crack 29 = .ok (.aload_n 0, 1) := by decide +kernel
theorem dX4_crack_30 : decode cX4_crack 30 = .ok (.dup, 1) := by decide +kernel
theorem dX4_crack_31 : decode cX4_crack 31 = .ok (.getfield 130, 3) := by decide +kernel
theorem dX4_crack_34 : decode cX4_crack 34 = .ok (.aload_n 2, 1) := by decide +kernel
theorem dX4_crack_35 : decode cX4_crack 35 = .ok (.invokevirtual 133, 3) := by decide +kernel
theorem dX4_crack_38 : decode cX4_crack 38 = .ok (.iadd, 1) := by decide +kernel
theorem dX4_crack_39 : decode cX4_crack 39 = .ok (.putfield 130, 3) := by decide +kernel
theorem dX4_crack_42 : decode cX4_crack 42 = .ok (.aload_n 0, 1) := by decide +kernel
theorem dX4_crack_43 : decode cX4_crack 43 = .ok (.getfield 31, 3) := by decide +kernel
theorem dX4_crack_46 : decode cX4_crack 46 = .ok (.invokevirtual 98, 3) := by decide +kernel
theorem dX4_crack_49 : decode cX4_crack 49 = .ok (.iconst 1, 1) := by decide +kernel
theorem dX4_crack_50 : decode cX4_crack 50 = .ok (.ireturn, 1) := by decide +kernel
theorem dX4_bellOf_0 : decode cX4_bellOf 0 = .ok (.aload_n 0, 1) := by decide +kernel
theorem dX4_bellOf_1 : decode cX4_bellOf 1 = .ok (.iload_n 1, 1) := by decide +kernel
theorem dX4_bellOf_2 : decode cX4_bellOf 2 = .ok (.invokevirtual 101, 3) := by decide +kernel
theorem dX4_bellOf_5 : decode cX4_bellOf 5 = .ok (.astore_n 3, 1) := by decide +kernel
theorem dX4_bellOf_6 : decode cX4_bellOf 6 = .ok (.aload_n 3, 1) := by decide +kernel
theorem dX4_bellOf_7 : decode cX4_bellOf 7 = .ok (.ifnonnull 6, 3) := by decide +kernel
theorem dX4_bellOf_10 : decode cX4_bellOf 10 = .ok (.ldc 136, 2) := by decide +kernel
theorem dX4_bellOf_12 : decode cX4_bellOf 12 = .ok (.ireturn, 1) := by decide +kernel
theorem dX4_bellOf_13 : decode cX4_bellOf 13 = .ok (.iload_n 2, 1) := by decide +kernel
theorem dX4_bellOf_14 : decode cX4_bellOf 14 = .ok (.invokestatic 58, 3) := by decide +kernel
theorem dX4_bellOf_17 : decode cX4_bellOf 17 = .ok (.ifCond .eq 9, 3) := by decide +kernel
theorem dX4_bellOf_20 : decode cX4_bellOf 20 = .ok (.aload_n 3, 1) := by decide +kernel
theorem dX4_bellOf_21 : decode cX4_bellOf 21 = .ok (.iload_n 2, 1) := by decide +kernel
theorem dX4_bellOf_22 : decode cX4_bellOf 22 = .ok (.invokevirtual 137, 3) := by decide +kernel
theorem dX4_bellOf_25 : decode cX4_bellOf 25 = .ok (.ireturn, 1) := by decide +kernel
theorem dX4_bellOf_26 : decode cX4_bellOf 26 = .ok (.iload_n 2, 1) := by decide +kernel
theorem dX4_bellOf_27 : decode cX4_bellOf 27 = .ok (.bipush 10, 2) := by decide +kernel
theorem dX4_bellOf_29 : decode cX4_bellOf 29 = .ok (.bipush 17, 2) := by decide +kernel
theorem dX4_bellOf_31 : decode cX4_bellOf 31 = .ok (.invokestatic 43, 3) := by decide +kernel
theorem dX4_bellOf_34 : decode cX4_bellOf 34 = .ok (.ifCond .eq 13, 3) := by decide +kernel
theorem dX4_bellOf_37 : decode cX4_bellOf 37 = .ok (.aload_n 3, 1) := by decide +kernel
theorem dX4_bellOf_38 : decode cX4_bellOf 38 = .ok (.getfield 117, 3) := by decide +kernel
theorem dX4_bellOf_41 : decode cX4_bellOf 41 = .ok (.iload_n 2, 1) := by decide +kernel
theorem dX4_bellOf_42 : decode cX4_bellOf 42 = .ok (.bipush 10, 2) := by decide +kernel
theorem dX4_bellOf_44 : decode cX4_bellOf 44 = .ok (.isub, 1) := by decide +kernel
theorem dX4_bellOf_45 : decode cX4_bellOf 45 = .ok (.iaload, 1) := by decide +kernel
theorem dX4_bellOf_46 : decode cX4_bellOf 46 = .ok (.ireturn, 1) := by decide +kernel
theorem dX4_bellOf_47 : decode cX4_bellOf 47 = .ok (.iload_n 2, 1) := by decide +kernel
theorem dX4_bellOf_48 : decode cX4_bellOf 48 = .ok (.tableswitch 130 5 18 #[72, 77, 90, 103, 108, 130, 130, 130, 130, 130, 130, 130, 130, 125], 72) := by decide +kernel
theorem dX4_bellOf_120 : decode cX4_bellOf 120 = .ok (.aload_n 3, 1) := by decide +kernel
theorem dX4_bellOf_121 : decode cX4_bellOf 121 = .ok (.invokevirtual 133, 3) := by decide +kernel
theorem dX4_bellOf_124 : decode cX4_bellOf 124 = .ok (.ireturn, 1) := by decide +kernel
theorem dX4_bellOf_125 : decode cX4_bellOf 125 = .ok (.aload_n 3, 1) := by decide +kernel
theorem dX4_bellOf_126 : decode cX4_bellOf 126 = .ok (.getfield 120, 3) := by decide +kernel
theorem dX4_bellOf_129 : decode cX4_bellOf 129 = .ok (.ifCond .eq 7, 3) := by decide +kernel
theorem dX4_bellOf_132 : decode cX4_bellOf 132 = .ok (.iconst 1, 1) := by decide +kernel
theorem dX4_bellOf_133 : decode cX4_bellOf 133 = .ok (.goto 4, 3) := by decide +kernel
theorem dX4_bellOf_136 : decode cX4_bellOf 136 = .ok (.iconst 0, 1) := by decide +kernel
theorem dX4_bellOf_137 : decode cX4_bellOf 137 = .ok (.ireturn, 1) := by decide +kernel
theorem dX4_bellOf_138 : decode cX4_bellOf 138 = .ok (.aload_n 3, 1) := by decide +kernel
theorem dX4_bellOf_139 : decode cX4_bellOf 139 = .ok (.getfield 124, 3) := by decide +kernel
theorem dX4_bellOf_142 : decode cX4_bellOf 142 = .ok (.ifCond .eq 7, 3) := by decide +kernel
theorem dX4_bellOf_145 : decode cX4_bellOf 145 = .ok (.iconst 1, 1) := by decide +kernel
theorem dX4_bellOf_146 : decode cX4_bellOf 146 = .ok (.goto 4, 3) := by decide +kernel
theorem dX4_bellOf_149 : decode cX4_bellOf 149 = .ok (.iconst 0, 1) := by decide +kernel
theorem dX4_bellOf_150 : decode cX4_bellOf 150 = .ok (.ireturn, 1) := by decide +kernel
theorem dX4_bellOf_151 : decode cX4_bellOf 151 = .ok (.aload_n 3, 1) := by decide +kernel
theorem dX4_bellOf_152 : decode cX4_bellOf 152 = .ok (.getfield 127, 3) := by decide +kernel
theorem dX4_bellOf_155 : decode cX4_bellOf 155 = .ok (.ireturn, 1) := by decide +kernel
theorem dX4_bellOf_156 : decode cX4_bellOf 156 = .ok (.aload_n 3, 1) := by decide +kernel
theorem dX4_bellOf_157 : decode cX4_bellOf 157 = .ok (.aload_n 3, 1) := by decide +kernel
theorem dX4_bellOf_158 : decode cX4_bellOf 158 = .ok (.getfield 127, 3) := by decide +kernel
theorem dX4_bellOf_161 : decode cX4_bellOf 161 = .ok (.aload_n 0, 1) := by decide +kernel
theorem dX4_bellOf_162 : decode cX4_bellOf 162 = .ok (.aload_n 3, 1) := by decide +kernel
theorem dX4_bellOf_163 : decode cX4_bellOf 163 = .ok (.getfield 127, 3) := by decide +kernel
theorem dX4_bellOf_166 : decode cX4_bellOf 166 = .ok (.invokevirtual 140, 3) := by decide +kernel
theorem dX4_bellOf_169 : decode cX4_bellOf 169 = .ok (.invokestatic 143, 3) := by decide +kernel
theorem dX4_bellOf_172 : decode cX4_bellOf 172 = .ok (.ireturn, 1) := by decide +kernel
theorem dX4_bellOf_173 : decode cX4_bellOf 173 = .ok (.aload_n 3, 1) := by decide +kernel
theorem dX4_bellOf_174 : decode cX4_bellOf 174 = .ok (.getfield 147, 3) := by decide +kernel
theorem dX4_bellOf_177 : decode cX4_bellOf 177 = .ok (.ireturn, 1) := by decide +kernel
theorem dX4_bellOf_178 : decode cX4_bellOf 178 = .ok (.ldc 136, 2) := by decide +kernel
theorem dX4_bellOf_180 : decode cX4_bellOf 180 = .ok (.ireturn, 1) := by decide +kernel
theorem dX4_span_0 : decode cX4_span 0 = .ok (.iload_n 1, 1) := by decide +kernel
theorem dX4_span_1 : decode cX4_span 1 = .ok (.invokestatic 58, 3) := by decide +kernel
theorem dX4_span_4 : decode cX4_span 4 = .ok (.ifCond .eq 22, 3) := by decide +kernel
theorem dX4_span_7 : decode cX4_span 7 = .ok (.iload_n 2, 1) := by decide +kernel
theorem dX4_span_8 : decode cX4_span 8 = .ok (.iload_n 3, 1) := by decide +kernel
theorem dX4_span_9 : decode cX4_span 9 = .ok (.if_icmp .gt 17, 3) := by decide +kernel
theorem dX4_span_12 : decode cX4_span 12 = .ok (.iload_n 2, 1) := by decide +kernel
theorem dX4_span_13 : decode cX4_span 13 = .ok (.sipush (-30000), 3) := by decide +kernel
theorem dX4_span_16 : decode cX4_span 16 = .ok (.if_icmp .lt 10, 3) := by decide +kernel
theorem dX4_span_19 : decode cX4_span 19 = .ok (.iload_n 3, 1) := by decide +kernel
theorem dX4_span_20 : decode cX4_span 20 = .ok (.sipush 30000, 3) := by decide +kernel
theorem dX4_span_23 : decode cX4_span 23 = .ok (.if_icmp .le 5, 3) := by decide +kernel
theorem dX4_span_26 : decode cX4_span 26 = .ok (.iconst 0, 1) := by decide +kernel
theorem dX4_span_27 : decode cX4_span 27 = .ok (.ireturn, 1) := by decide +kernel
theorem dX4_span_28 : decode cX4_span 28 = .ok (.aload_n 0, 1) := by decide +kernel
theorem dX4_span_29 : decode cX4_span 29 = .ok (.getfield 24, 3) := by decide +kernel
theorem dX4_span_32 : decode cX4_span 32 = .ok (.iload_n 1, 1) := by decide +kernel
theorem dX4_span_33 : decode cX4_span 33 = .ok (.iload_n 2, 1) := by decide +kernel
theorem dX4_span_34 : decode cX4_span 34 = .ok (.iload_n 3, 1) := by decide +kernel
theorem dX4_span_35 : decode cX4_span 35 = .ok (.invokevirtual 150, 3) := by decide +kernel
theorem dX4_span_38 : decode cX4_span 38 = .ok (.iconst 1, 1) := by decide +kernel
theorem dX4_span_39 : decode cX4_span 39 = .ok (.ireturn, 1) := by decide +kernel
theorem dX4_tuning_0 : decode cX4_tuning 0 = .ok (.aload_n 0, 1) := by decide +kernel
theorem dX4_tuning_1 : decode cX4_tuning 1 = .ok (.aload_n 0, 1) := by decide +kernel
theorem dX4_tuning_2 : decode cX4_tuning 2 = .ok (.iload_n 1, 1) := by decide +kernel
theorem dX4_tuning_3 : decode cX4_tuning 3 = .ok (.invokevirtual 101, 3) := by decide +kernel
theorem dX4_tuning_6 : decode cX4_tuning 6 = .ok (.invokevirtual 154, 3) := by decide +kernel
theorem dX4_tuning_9 : decode cX4_tuning 9 = .ok (.ireturn, 1) := by decide +kernel
theorem dX4_tune_0 : decode cX4_tune 0 = .ok (.aload_n 0, 1) := by decide +kernel
theorem dX4_tune_1 : decode cX4_tune 1 = .ok (.iload_n 1, 1) := by decide +kernel
theorem dX4_tune_2 : decode cX4_tune 2 = .ok (.invokevirtual 101, 3) := by decide +kernel
theorem dX4_tune_5 : decode cX4_tune 5 = .ok (.astore_n 2, 1) := by decide +kernel
theorem dX4_tune_6 : decode cX4_tune 6 = .ok (.aload_n 0, 1) := by decide +kernel
theorem dX4_tune_7 : decode cX4_tune 7 = .ok (.aload_n 2, 1) := by decide +kernel
theorem dX4_tune_8 : decode cX4_tune 8 = .ok (.invokevirtual 154, 3) := by decide +kernel
theorem dX4_tune_11 : decode cX4_tune 11 = .ok (.istore_n 3, 1) := by decide +kernel
theorem dX4_tune_12 : decode cX4_tune 12 = .ok (.aload_n 2, 1) := by decide +kernel
theorem dX4_tune_13 : decode cX4_tune 13 = .ok (.ifnull 8, 3) := by decide +kernel
theorem dX4_tune_16 : decode cX4_tune 16 = .ok (.iload_n 3, 1) := by decide +kernel
theorem dX4_tune_17 : decode cX4_tune 17 = .ok (.iconst 1, 1) := by decide +kernel
theorem dX4_tune_18 : decode cX4_tune 18 = .ok (.if_icmp .ge 5, 3) := by decide +kernel
theorem dX4_tune_21 : decode cX4_tune 21 = .ok (.iload_n 3, 1) := by decide +kernel
theorem dX4_tune_22 : decode cX4_tune 22 = .ok (.ireturn, 1) := by decide +kernel
theorem dX4_tune_23 : decode cX4_tune 23 = .ok (.iconst 0, 1) := by decide +kernel
theorem dX4_tune_24 : decode cX4_tune 24 = .ok (.istore 4, 2) := by decide +kernel
theorem dX4_tune_26 : decode cX4_tune 26 = .ok (.iload 4, 2) := by decide +kernel
theorem dX4_tune_28 : decode cX4_tune 28 = .ok (.bipush 8, 2) := by decide +kernel
theorem dX4_tune_30 : decode cX4_tune 30 = .ok (.if_icmp .ge 23, 3) := by decide +kernel
theorem dX4_tune_33 : decode cX4_tune 33 = .ok (.aload_n 0, 1) := by decide +kernel
theorem dX4_tune_34 : decode cX4_tune 34 = .ok (.aload_n 2, 1) := by decide +kernel
theorem dX4_tune_35 : decode cX4_tune 35 = .ok (.iload 4, 2) := by decide +kernel
theorem dX4_tune_37 : decode cX4_tune 37 = .ok (.aload_n 2, 1) := by decide +kernel
theorem dX4_tune_38 : decode cX4_tune 38 = .ok (.getfield 158, 3) := by decide +kernel
theorem dX4_tune_41 : decode cX4_tune 41 = .ok (.iload 4, 2) := by decide +kernel
theorem dX4_tune_43 : decode cX4_tune 43 = .ok (.iaload, 1) := by decide +kernel
theorem dX4_tune_44 : decode cX4_tune 44 = .ok (.invokevirtual 113, 3) := by decide +kernel
theorem dX4_tune_47 : decode cX4_tune 47 = .ok (.iinc 4 1, 3) := by decide +kernel
theorem dX4_tune_50 : decode cX4_tune 50 = .ok (.goto (-24), 3) := by decide +kernel
theorem dX4_tune_53 : decode cX4_tune 53 = .ok (.iload_n 3, 1) := by decide +kernel
theorem dX4_tune_54 : decode cX4_tune 54 = .ok (.ireturn, 1) := by decide +kernel
theorem dX4_tuningAt_0 : decode cX4_tuningAt 0 = .ok (.aload_n 0, 1) := by decide +kernel
theorem dX4_tuningAt_1 : decode cX4_tuningAt 1 = .ok (.iload_n 1, 1) := by decide +kernel
theorem dX4_tuningAt_2 : decode cX4_tuningAt 2 = .ok (.invokevirtual 101, 3) := by decide +kernel
theorem dX4_tuningAt_5 : decode cX4_tuningAt 5 = .ok (.astore_n 3, 1) := by decide +kernel
theorem dX4_tuningAt_6 : decode cX4_tuningAt 6 = .ok (.aload_n 3, 1) := by decide +kernel
theorem dX4_tuningAt_7 : decode cX4_tuningAt 7 = .ok (.ifnull 19, 3) := by decide +kernel
theorem dX4_tuningAt_10 : decode cX4_tuningAt 10 = .ok (.iload_n 2, 1) := by decide +kernel
theorem dX4_tuningAt_11 : decode cX4_tuningAt 11 = .ok (.invokestatic 54, 3) := by decide +kernel
theorem dX4_tuningAt_14 : decode cX4_tuningAt 14 = .ok (.ifCond .eq 12, 3) := by decide +kernel
theorem dX4_tuningAt_17 : decode cX4_tuningAt 17 = .ok (.aload_n 0, 1) := by decide +kernel
theorem dX4_tuningAt_18 : decode cX4_tuningAt 18 = .ok (.aload_n 3, 1) := by decide +kernel
theorem dX4_tuningAt_19 : decode cX4_tuningAt 19 = .ok (.invokevirtual 154, 3) := by decide +kernel
theorem dX4_tuningAt_22 : decode cX4_tuningAt 22 = .ok (.iconst (-1), 1) := by decide +kernel
theorem dX4_tuningAt_23 : decode cX4_tuningAt 23 = .ok (.if_icmp .ne 5, 3) := by decide +kernel
theorem dX4_tuningAt_26 : decode cX4_tuningAt 26 = .ok (.iconst (-1), 1) := by decide +kernel
theorem dX4_tuningAt_27 : decode cX4_tuningAt 27 = .ok (.ireturn, 1) := by decide +kernel
theorem dX4_tuningAt_28 : decode cX4_tuningAt 28 = .ok (.aload_n 3, 1) := by decide +kernel
theorem dX4_tuningAt_29 : decode cX4_tuningAt 29 = .ok (.getfield 158, 3) := by decide +kernel
theorem dX4_tuningAt_32 : decode cX4_tuningAt 32 = .ok (.iload_n 2, 1) := by decide +kernel
theorem dX4_tuningAt_33 : decode cX4_tuningAt 33 = .ok (.iaload, 1) := by decide +kernel
theorem dX4_tuningAt_34 : decode cX4_tuningAt 34 = .ok (.ireturn, 1) := by decide +kernel
theorem dX4_note_0 : decode cX4_note 0 = .ok (.aload_n 0, 1) := by decide +kernel
theorem dX4_note_1 : decode cX4_note 1 = .ok (.getfield 31, 3) := by decide +kernel
theorem dX4_note_4 : decode cX4_note 4 = .ok (.getfield 161, 3) := by decide +kernel
theorem dX4_note_7 : decode cX4_note 7 = .ok (.bipush 8, 2) := by decide +kernel
theorem dX4_note_9 : decode cX4_note 9 = .ok (.if_icmp .ge 16, 3) := by decide +kernel
theorem dX4_note_12 : decode cX4_note 12 = .ok (.iload_n 1, 1) := by decide +kernel
theorem dX4_note_13 : decode cX4_note 13 = .ok (.sipush (-5000), 3) := by decide +kernel
theorem dX4_note_16 : decode cX4_note 16 = .ok (.sipush 5000, 3) := by decide +kernel
theorem dX4_note_19 : decode cX4_note 19 = .ok (.invokestatic 43, 3) := by decide +kernel
theorem dX4_note_22 : decode cX4_note 22 = .ok (.ifCond .ne 5, 3) := by decide +kernel
theorem dX4_note_25 : decode cX4_note 25 = .ok (.iconst (-1), 1) := by decide +kernel
theorem dX4_note_26 : decode cX4_note 26 = .ok (.ireturn, 1) := by decide +kernel
theorem dX4_note_27 : decode cX4_note 27 = .ok (.aload_n 0, 1) := by decide +kernel
theorem dX4_note_28 : decode cX4_note 28 = .ok (.getfield 31, 3) := by decide +kernel
theorem dX4_note_31 : decode cX4_note 31 = .ok (.iload_n 1, 1) := by decide +kernel
theorem dX4_note_32 : decode cX4_note 32 = .ok (.invokevirtual 164, 3) := by decide +kernel
theorem dX4_note_35 : decode cX4_note 35 = .ok (.aload_n 0, 1) := by decide +kernel
theorem dX4_note_36 : decode cX4_note 36 = .ok (.getfield 31, 3) := by decide +kernel
theorem dX4_note_39 : decode cX4_note 39 = .ok (.getfield 161, 3) := by decide +kernel
theorem dX4_note_42 : decode cX4_note 42 = .ok (.ireturn, 1) := by decide +kernel
theorem dX4_ring_0 : decode cX4_ring 0 = .ok (.iload_n 1, 1) := by decide +kernel
theorem dX4_ring_1 : decode cX4_ring 1 = .ok (.iconst 0, 1) := by decide +kernel
theorem dX4_ring_2 : decode cX4_ring 2 = .ok (.sipush 200, 3) := by decide +kernel
theorem dX4_ring_5 : decode cX4_ring 5 = .ok (.invokestatic 43, 3) := by decide +kernel
theorem dX4_ring_8 : decode cX4_ring 8 = .ok (.ifCond .ne 5, 3) := by decide +kernel
theorem dX4_ring_11 : decode cX4_ring 11 = .ok (.iconst 0, 1) := by decide +kernel
theorem dX4_ring_12 : decode cX4_ring 12 = .ok (.ireturn, 1) := by decide +kernel
theorem dX4_ring_13 : decode cX4_ring 13 = .ok (.aload_n 0, 1) := by decide +kernel
theorem dX4_ring_14 : decode cX4_ring 14 = .ok (.getfield 31, 3) := by decide +kernel
theorem dX4_ring_17 : decode cX4_ring 17 = .ok (.iload_n 1, 1) := by decide +kernel
theorem dX4_ring_18 : decode cX4_ring 18 = .ok (.invokevirtual 167, 3) := by decide +kernel
theorem dX4_ring_21 : decode cX4_ring 21 = .ok (.iconst 1, 1) := by decide +kernel
theorem dX4_ring_22 : decode cX4_ring 22 = .ok (.ireturn, 1) := by decide +kernel
theorem dX4_ringWeight_0 : decode cX4_ringWeight 0 = .ok (.aload_n 0, 1) := by decide +kernel
theorem dX4_ringWeight_1 : decode cX4_ringWeight 1 = .ok (.getfield 31, 3) := by decide +kernel
theorem dX4_ringWeight_4 : decode cX4_ringWeight 4 = .ok (.aload_n 0, 1) := by decide +kernel
theorem dX4_ringWeight_5 : decode cX4_ringWeight 5 = .ok (.getfield 17, 3) := by decide +kernel
theorem dX4_ringWeight_8 : decode cX4_ringWeight 8 = .ok (.aload_n 0, 1) := by decide +kernel
theorem dX4_ringWeight_9 : decode cX4_ringWeight 9 = .ok (.getfield 85, 3) := by decide +kernel
theorem dX4_ringWeight_12 : decode cX4_ringWeight 12 = .ok (.invokevirtual 170, 3) := by decide +kernel
theorem dX4_ringWeight_15 : decode cX4_ringWeight 15 = .ok (.aload_n 0, 1) := by decide +kernel
theorem dX4_ringWeight_16 : decode cX4_ringWeight 16 = .ok (.getfield 31, 3) := by decide +kernel
theorem dX4_ringWeight_19 : decode cX4_ringWeight 19 = .ok (.invokevirtual 174, 3) := by decide +kernel
theorem dX4_ringWeight_22 : decode cX4_ringWeight 22 = .ok (.ireturn, 1) := by decide +kernel
theorem dX4_ringBell_0 : decode cX4_ringBell 0 = .ok (.iload_n 1, 1) := by decide +kernel
theorem dX4_ringBell_1 : decode cX4_ringBell 1 = .ok (.iconst 0, 1) := by decide +kernel
theorem dX4_ringBell_2 : decode cX4_ringBell 2 = .ok (.aload_n 0, 1) := by decide +kernel
theorem dX4_ringBell_3 : decode cX4_ringBell 3 = .ok (.getfield 31, 3) := by decide +kernel
theorem dX4_ringBell_6 : decode cX4_ringBell 6 = .ok (.getfield 161, 3) := by decide +kernel
theorem dX4_ringBell_9 : decode cX4_ringBell 9 = .ok (.iconst 1, 1) := by decide +kernel
theorem dX4_ringBell_10 : decode cX4_ringBell 10 = .ok (.isub, 1) := by decide +kernel
theorem dX4_ringBell_11 : decode cX4_ringBell 11 = .ok (.invokestatic 43, 3) := by decide +kernel
theorem dX4_ringBell_14 : decode cX4_ringBell 14 = .ok (.ifCond .ne 5, 3) := by decide +kernel
theorem dX4_ringBell_17 : decode cX4_ringBell 17 = .ok (.iconst (-1), 1) := by decide +kernel
theorem dX4_ringBell_18 : decode cX4_ringBell 18 = .ok (.ireturn, 1) := by decide +kernel
theorem dX4_ringBell_19 : decode cX4_ringBell 19 = .ok (.aload_n 0, 1) := by decide +kernel
theorem dX4_ringBell_20 : decode cX4_ringBell 20 = .ok (.getfield 31, 3) := by decide +kernel
theorem dX4_ringBell_23 : decode cX4_ringBell 23 = .ok (.aload_n 0, 1) := by decide +kernel
theorem dX4_ringBell_24 : decode cX4_ringBell 24 = .ok (.getfield 17, 3) := by decide +kernel
theorem dX4_ringBell_27 : decode cX4_ringBell 27 = .ok (.aload_n 0, 1) := by decide +kernel
theorem dX4_ringBell_28 : decode cX4_ringBell 28 = .ok (.getfield 85, 3) := by decide +kernel
theorem dX4_ringBell_31 : decode cX4_ringBell 31 = .ok (.invokevirtual 170, 3) := by decide +kernel
theorem dX4_ringBell_34 : decode cX4_ringBell 34 = .ok (.aload_n 0, 1) := by decide +kernel
theorem dX4_ringBell_35 : decode cX4_ringBell 35 = .ok (.getfield 31, 3) := by decide +kernel
theorem dX4_ringBell_38 : decode cX4_ringBell 38 = .ok (.iload_n 1, 1) := by decide +kernel
theorem dX4_ringBell_39 : decode cX4_ringBell 39 = .ok (.invokevirtual 177, 3) := by decide +kernel
theorem dX4_ringBell_42 : decode cX4_ringBell 42 = .ok (.ireturn, 1) := by decide +kernel
theorem dX4_tower_0 : decode cX4_tower 0 = .ok (.iload_n 3, 1) := by decide +kernel
theorem dX4_tower_1 : decode cX4_tower 1 = .ok (.iconst 0, 1) := by decide +kernel
theorem dX4_tower_2 : decode cX4_tower 2 = .ok (.ldc 77, 2) := by decide +kernel
theorem dX4_tower_4 : decode cX4_tower 4 = .ok (.invokestatic 43, 3) := by decide +kernel
theorem dX4_tower_7 : decode cX4_tower 7 = .ok (.ifCond .eq 15, 3) := by decide +kernel
theorem dX4_tower_10 : decode cX4_tower 10 = .ok (.iload_n 1, 1) := by decide +kernel
theorem dX4_tower_11 : decode cX4_tower 11 = .ok (.iconst (-1), 1) := by decide +kernel
theorem dX4_tower_12 : decode cX4_tower 12 = .ok (.if_icmp .eq 12, 3) := by decide +kernel
theorem dX4_tower_15 : decode cX4_tower 15 = .ok (.iload_n 1, 1) := by decide +kernel
theorem dX4_tower_16 : decode cX4_tower 16 = .ok (.invokestatic 180, 3) := by decide +kernel
theorem dX4_tower_19 : decode cX4_tower 19 = .ok (.ifCond .ne 5, 3) := by decide +kernel
theorem dX4_tower_22 : decode cX4_tower 22 = .ok (.iconst 0, 1) := by decide +kernel
theorem dX4_tower_23 : decode cX4_tower 23 = .ok (.ireturn, 1) := by decide +kernel
theorem dX4_tower_24 : decode cX4_tower 24 = .ok (.iload_n 1, 1) := by decide +kernel
theorem dX4_tower_25 : decode cX4_tower 25 = .ok (.iconst (-1), 1) := by decide +kernel
theorem dX4_tower_26 : decode cX4_tower 26 = .ok (.if_icmp .eq 16, 3) := by decide +kernel
theorem dX4_tower_29 : decode cX4_tower 29 = .ok (.iload_n 2, 1) := by decide +kernel
theorem dX4_tower_30 : decode cX4_tower 30 = .ok (.iconst 0, 1) := by decide +kernel
theorem dX4_tower_31 : decode cX4_tower 31 = .ok (.sipush 300, 3) := by decide +kernel
theorem dX4_tower_34 : decode cX4_tower 34 = .ok (.invokestatic 43, 3) := by decide +kernel
theorem dX4_tower_37 : decode cX4_tower 37 = .ok (.ifCond .ne 5, 3) := by decide +kernel
theorem dX4_tower_40 : decode cX4_tower 40 = .ok (.iconst 0, 1) := by decide +kernel
theorem dX4_tower_41 : decode cX4_tower 41 = .ok (.ireturn, 1) := by decide +kernel
theorem dX4_tower_42 : decode cX4_tower 42 = .ok (.aload_n 0, 1) := by decide +kernel
theorem dX4_tower_43 : decode cX4_tower 43 = .ok (.iload_n 1, 1) := by decide +kernel
theorem dX4_tower_44 : decode cX4_tower 44 = .ok (.iload_n 2, 1) := by decide +kernel
theorem dX4_tower_45 : decode cX4_tower 45 = .ok (.invokevirtual 183, 3) := by decide +kernel
theorem dX4_tower_48 : decode cX4_tower 48 = .ok (.iload_n 3, 1) := by decide +kernel
theorem dX4_tower_49 : decode cX4_tower 49 = .ok (.if_icmp .le 5, 3) := by decide +kernel
theorem dX4_tower_52 : decode cX4_tower 52 = .ok (.iconst 0, 1) := by decide +kernel
theorem dX4_tower_53 : decode cX4_tower 53 = .ok (.ireturn, 1) := by decide +kernel
theorem dX4_tower_54 : decode cX4_tower 54 = .ok (.iload_n 1, 1) := by decide +kernel
theorem dX4_tower_55 : decode cX4_tower 55 = .ok (.iconst (-1), 1) := by decide +kernel
theorem dX4_tower_56 : decode cX4_tower 56 = .ok (.if_icmp .eq 10, 3) := by decide +kernel
theorem dX4_tower_59 : decode cX4_tower 59 = .ok (.aload_n 0, 1) := by decide +kernel
theorem dX4_tower_60 : decode cX4_tower 60 = .ok (.getfield 35, 3) := by decide +kernel
theorem dX4_tower_63 : decode cX4_tower 63 = .ok (.iload_n 1, 1) := by decide +kernel
theorem dX4_tower_64 : decode cX4_tower 64 = .ok (.iload_n 2, 1) := by decide +kernel
theorem dX4_tower_65 : decode cX4_tower 65 = .ok (.iastore, 1) := by decide +kernel
theorem dX4_tower_66 : decode cX4_tower 66 = .ok (.aload_n 0, 1) := by decide +kernel
theorem dX4_tower_67 : decode cX4_tower 67 = .ok (.iload_n 3, 1) := by decide +kernel
theorem dX4_tower_68 : decode cX4_tower 68 = .ok (.putfield 187, 3) := by decide +kernel
theorem dX4_tower_71 : decode cX4_tower 71 = .ok (.iconst 1, 1) := by decide +kernel
theorem dX4_tower_72 : decode cX4_tower 72 = .ok (.ireturn, 1) := by decide +kernel
theorem dX4_hang_0 : decode cX4_hang 0 = .ok (.aload_n 0, 1) := by decide +kernel
theorem dX4_hang_1 : decode cX4_hang 1 = .ok (.iload_n 1, 1) := by decide +kernel
theorem dX4_hang_2 : decode cX4_hang 2 = .ok (.invokevirtual 101, 3) := by decide +kernel
theorem dX4_hang_5 : decode cX4_hang 5 = .ok (.astore_n 3, 1) := by decide +kernel
theorem dX4_hang_6 : decode cX4_hang 6 = .ok (.aload_n 3, 1) := by decide +kernel
theorem dX4_hang_7 : decode cX4_hang 7 = .ok (.ifnull 22, 3) := by decide +kernel
theorem dX4_hang_10 : decode cX4_hang 10 = .ok (.aload_n 3, 1) := by decide +kernel
theorem dX4_hang_11 : decode cX4_hang 11 = .ok (.getfield 124, 3) := by decide +kernel
theorem dX4_hang_14 : decode cX4_hang 14 = .ok (.ifCond .ne 15, 3) := by decide +kernel
theorem dX4_hang_17 : decode cX4_hang 17 = .ok (.iload_n 2, 1) := by decide +kernel
theorem dX4_hang_18 : decode cX4_hang 18 = .ok (.iconst (-1), 1) := by decide +kernel
theorem dX4_hang_19 : decode cX4_hang 19 = .ok (.if_icmp .eq 12, 3) := by decide +kernel
theorem dX4_hang_22 : decode cX4_hang 22 = .ok (.iload_n 2, 1) := by decide +kernel
theorem dX4_hang_23 : decode cX4_hang 23 = .ok (.invokestatic 180, 3) := by decide +kernel
theorem dX4_hang_26 : decode cX4_hang 26 = .ok (.ifCond .ne 5, 3) := by decide +kernel
theorem dX4_hang_29 : decode cX4_hang 29 = .ok (.iconst 0, 1) := by decide +kernel
theorem dX4_hang_30 : decode cX4_hang 30 = .ok (.ireturn, 1) := by decide +kernel
theorem dX4_hang_31 : decode cX4_hang 31 = .ok (.aload_n 0, 1) := by decide +kernel
theorem dX4_hang_32 : decode cX4_hang 32 = .ok (.invokevirtual 190, 3) := by decide +kernel
theorem dX4_hang_35 : decode cX4_hang 35 = .ok (.aload_n 3, 1) := by decide +kernel
theorem dX4_hang_36 : decode cX4_hang 36 = .ok (.aload_n 3, 1) := by decide +kernel
theorem dX4_hang_37 : decode cX4_hang 37 = .ok (.getfield 127, 3) := by decide +kernel
theorem dX4_hang_40 : decode cX4_hang 40 = .ok (.aload_n 0, 1) := by decide +kernel
theorem dX4_hang_41 : decode cX4_hang 41 = .ok (.aload_n 3, 1) := by decide +kernel
theorem dX4_hang_42 : decode cX4_hang 42 = .ok (.getfield 127, 3) := by decide +kernel
theorem dX4_hang_45 : decode cX4_hang 45 = .ok (.invokevirtual 140, 3) := by decide +kernel
theorem dX4_hang_48 : decode cX4_hang 48 = .ok (.invokestatic 143, 3) := by decide +kernel
theorem dX4_hang_51 : decode cX4_hang 51 = .ok (.isub, 1) := by decide +kernel
theorem dX4_hang_52 : decode cX4_hang 52 = .ok (.istore 4, 2) := by decide +kernel
theorem dX4_hang_54 : decode cX4_hang 54 = .ok (.iload 4, 2) := by decide +kernel
theorem dX4_hang_56 : decode cX4_hang 56 = .ok (.aload_n 3, 1) := by decide +kernel
theorem dX4_hang_57 : decode cX4_hang 57 = .ok (.iload_n 2, 1) := by decide +kernel
theorem dX4_hang_58 : decode cX4_hang 58 = .ok (.aload_n 0, 1) := by decide +kernel
theorem dX4_hang_59 : decode cX4_hang 59 = .ok (.iload_n 2, 1) := by decide +kernel
theorem dX4_hang_60 : decode cX4_hang 60 = .ok (.invokevirtual 140, 3) := by decide +kernel
theorem dX4_hang_63 : decode cX4_hang 63 = .ok (.invokestatic 143, 3) := by decide +kernel
theorem dX4_hang_66 : decode cX4_hang 66 = .ok (.iadd, 1) := by decide +kernel
theorem dX4_hang_67 : decode cX4_hang 67 = .ok (.aload_n 0, 1) := by decide +kernel
theorem dX4_hang_68 : decode cX4_hang 68 = .ok (.getfield 187, 3) := by decide +kernel
theorem dX4_hang_71 : decode cX4_hang 71 = .ok (.if_icmp .le 5, 3) := by decide +kernel
theorem dX4_hang_74 : decode cX4_hang 74 = .ok (.iconst 0, 1) := by decide +kernel
theorem dX4_hang_75 : decode cX4_hang 75 = .ok (.ireturn, 1) := by decide +kernel
theorem dX4_hang_76 : decode cX4_hang 76 = .ok (.aload_n 3, 1) := by decide +kernel
theorem dX4_hang_77 : decode cX4_hang 77 = .ok (.iload_n 2, 1) := by decide +kernel
theorem dX4_hang_78 : decode cX4_hang 78 = .ok (.putfield 127, 3) := by decide +kernel
theorem dX4_hang_81 : decode cX4_hang 81 = .ok (.iconst 1, 1) := by decide +kernel
theorem dX4_hang_82 : decode cX4_hang 82 = .ok (.ireturn, 1) := by decide +kernel
theorem dX4_about_0 : decode cX4_about 0 = .ok (.iload_n 1, 1) := by decide +kernel
theorem dX4_about_1 : decode cX4_about 1 = .ok (.bipush 10, 2) := by decide +kernel
theorem dX4_about_3 : decode cX4_about 3 = .ok (.bipush 14, 2) := by decide +kernel
theorem dX4_about_5 : decode cX4_about 5 = .ok (.invokestatic 43, 3) := by decide +kernel
theorem dX4_about_8 : decode cX4_about 8 = .ok (.ifCond .eq 13, 3) := by decide +kernel
theorem dX4_about_11 : decode cX4_about 11 = .ok (.aload_n 0, 1) := by decide +kernel
theorem dX4_about_12 : decode cX4_about 12 = .ok (.getfield 35, 3) := by decide +kernel
theorem dX4_about_15 : decode cX4_about 15 = .ok (.iload_n 1, 1) := by decide +kernel
theorem dX4_about_16 : decode cX4_about 16 = .ok (.bipush 10, 2) := by decide +kernel
theorem dX4_about_18 : decode cX4_about 18 = .ok (.isub, 1) := by decide +kernel
theorem dX4_about_19 : decode cX4_about 19 = .ok (.iaload, 1) := by decide +kernel
theorem dX4_about_20 : decode cX4_about 20 = .ok (.ireturn, 1) := by decide +kernel
theorem dX4_about_21 : decode cX4_about 21 = .ok (.iload_n 1, 1) := by decide +kernel
theorem dX4_about_22 : decode cX4_about 22 = .ok (.tableswitch 110 0 9 #[54, 59, 64, 69, 74, 79, 84, 92, 100, 105], 54) := by decide +kernel
theorem dX4_about_76 : decode cX4_about 76 = .ok (.aload_n 0, 1) := by decide +kernel
theorem dX4_about_77 : decode cX4_about 77 = .ok (.getfield 39, 3) := by decide +kernel
theorem dX4_about_80 : decode cX4_about 80 = .ok (.ireturn, 1) := by decide +kernel
theorem dX4_about_81 : decode cX4_about 81 = .ok (.aload_n 0, 1) := by decide +kernel
theorem dX4_about_82 : decode cX4_about 82 = .ok (.getfield 85, 3) := by decide +kernel
theorem dX4_about_85 : decode cX4_about 85 = .ok (.ireturn, 1) := by decide +kernel
theorem dX4_about_86 : decode cX4_about 86 = .ok (.aload_n 0, 1) := by decide +kernel
theorem dX4_about_87 : decode cX4_about 87 = .ok (.getfield 78, 3) := by decide +kernel
theorem dX4_about_90 : decode cX4_about 90 = .ok (.ireturn, 1) := by decide +kernel
theorem dX4_about_91 : decode cX4_about 91 = .ok (.aload_n 0, 1) := by decide +kernel
theorem dX4_about_92 : decode cX4_about 92 = .ok (.getfield 82, 3) := by decide +kernel
theorem dX4_about_95 : decode cX4_about 95 = .ok (.ireturn, 1) := by decide +kernel
theorem dX4_about_96 : decode cX4_about 96 = .ok (.aload_n 0, 1) := by decide +kernel
theorem dX4_about_97 : decode cX4_about 97 = .ok (.getfield 130, 3) := by decide +kernel
theorem dX4_about_100 : decode cX4_about 100 = .ok (.ireturn, 1) := by decide +kernel
theorem dX4_about_101 : decode cX4_about 101 = .ok (.aload_n 0, 1) := by decide +kernel
theorem dX4_about_102 : decode cX4_about 102 = .ok (.invokevirtual 193, 3) := by decide +kernel
theorem dX4_about_105 : decode cX4_about 105 = .ok (.ireturn, 1) := by decide +kernel
theorem dX4_about_106 : decode cX4_about 106 = .ok (.aload_n 0, 1) := by decide +kernel
theorem dX4_about_107 : decode cX4_about 107 = .ok (.getfield 31, 3) := by decide +kernel
theorem dX4_about_110 : decode cX4_about 110 = .ok (.getfield 161, 3) := by decide +kernel
theorem dX4_about_113 : decode cX4_about 113 = .ok (.ireturn, 1) := by decide +kernel
theorem dX4_about_114 : decode cX4_about 114 = .ok (.aload_n 0, 1) := by decide +kernel
theorem dX4_about_115 : decode cX4_about 115 = .ok (.getfield 31, 3) := by decide +kernel
theorem dX4_about_118 : decode cX4_about 118 = .ok (.getfield 196, 3) := by decide +kernel
theorem dX4_about_121 : decode cX4_about 121 = .ok (.ireturn, 1) := by decide +kernel
theorem dX4_about_122 : decode cX4_about 122 = .ok (.aload_n 0, 1) := by decide +kernel
theorem dX4_about_123 : decode cX4_about 123 = .ok (.invokevirtual 190, 3) := by decide +kernel
theorem dX4_about_126 : decode cX4_about 126 = .ok (.ireturn, 1) := by decide +kernel
theorem dX4_about_127 : decode cX4_about 127 = .ok (.aload_n 0, 1) := by decide +kernel
theorem dX4_about_128 : decode cX4_about 128 = .ok (.getfield 187, 3) := by decide +kernel
theorem dX4_about_131 : decode cX4_about 131 = .ok (.ireturn, 1) := by decide +kernel
theorem dX4_about_132 : decode cX4_about 132 = .ok (.iconst (-1), 1) := by decide +kernel
theorem dX4_about_133 : decode cX4_about 133 = .ok (.ireturn, 1) := by decide +kernel
theorem dX4_within_0 : decode cX4_within 0 = .ok (.iload_n 0, 1) := by decide +kernel
theorem dX4_within_1 : decode cX4_within 1 = .ok (.iload_n 1, 1) := by decide +kernel
theorem dX4_within_2 : decode cX4_within 2 = .ok (.if_icmp .lt 12, 3) := by decide +kernel
theorem dX4_within_5 : decode cX4_within 5 = .ok (.iload_n 0, 1) := by decide +kernel
theorem dX4_within_6 : decode cX4_within 6 = .ok (.iload_n 2, 1) := by decide +kernel
theorem dX4_within_7 : decode cX4_within 7 = .ok (.if_icmp .gt 7, 3) := by decide +kernel
theorem dX4_within_10 : decode cX4_within 10 = .ok (.iconst 1, 1) := by decide +kernel
theorem dX4_within_11 : decode cX4_within 11 = .ok (.goto 4, 3) := by decide +kernel
theorem dX4_within_14 : decode cX4_within 14 = .ok (.iconst 0, 1) := by decide +kernel
theorem dX4_within_15 : decode cX4_within 15 = .ok (.ireturn, 1) := by decide +kernel
theorem dX4_isHeight_0 : decode cX4_isHeight 0 = .ok (.iload_n 0, 1) := by decide +kernel
theorem dX4_isHeight_1 : decode cX4_isHeight 1 = .ok (.iconst 0, 1) := by decide +kernel
theorem dX4_isHeight_2 : decode cX4_isHeight 2 = .ok (.bipush 7, 2) := by decide +kernel
theorem dX4_isHeight_4 : decode cX4_isHeight 4 = .ok (.invokestatic 43, 3) := by decide +kernel
theorem dX4_isHeight_7 : decode cX4_isHeight 7 = .ok (.ireturn, 1) := by decide +kernel
theorem dX4_isPart_0 : decode cX4_isPart 0 = .ok (.iload_n 0, 1) := by decide +kernel
theorem dX4_isPart_1 : decode cX4_isPart 1 = .ok (.iconst 0, 1) := by decide +kernel
theorem dX4_isPart_2 : decode cX4_isPart 2 = .ok (.iconst 4, 1) := by decide +kernel
theorem dX4_isPart_3 : decode cX4_isPart 3 = .ok (.invokestatic 43, 3) := by decide +kernel
theorem dX4_isPart_6 : decode cX4_isPart 6 = .ok (.ireturn, 1) := by decide +kernel
theorem dX4_isWay_0 : decode cX4_isWay 0 = .ok (.iload_n 0, 1) := by decide +kernel
theorem dX4_isWay_1 : decode cX4_isWay 1 = .ok (.iconst 0, 1) := by decide +kernel
theorem dX4_isWay_2 : decode cX4_isWay 2 = .ok (.iconst 4, 1) := by decide +kernel
theorem dX4_isWay_3 : decode cX4_isWay 3 = .ok (.invokestatic 43, 3) := by decide +kernel
theorem dX4_isWay_6 : decode cX4_isWay 6 = .ok (.ireturn, 1) := by decide +kernel
theorem dX4_profileAt_0 : decode cX4_profileAt 0 = .ok (.iload_n 1, 1) := by decide +kernel
theorem dX4_profileAt_1 : decode cX4_profileAt 1 = .ok (.iconst 0, 1) := by decide +kernel
theorem dX4_profileAt_2 : decode cX4_profileAt 2 = .ok (.aload_n 0, 1) := by decide +kernel
theorem dX4_profileAt_3 : decode cX4_profileAt 3 = .ok (.getfield 39, 3) := by decide +kernel
theorem dX4_profileAt_6 : decode cX4_profileAt 6 = .ok (.iconst 1, 1) := by decide +kernel
theorem dX4_profileAt_7 : decode cX4_profileAt 7 = .ok (.isub, 1) := by decide +kernel
theorem dX4_profileAt_8 : decode cX4_profileAt 8 = .ok (.invokestatic 43, 3) := by decide +kernel
theorem dX4_profileAt_11 : decode cX4_profileAt 11 = .ok (.ifCond .eq 12, 3) := by decide +kernel
theorem dX4_profileAt_14 : decode cX4_profileAt 14 = .ok (.aload_n 0, 1) := by decide +kernel
theorem dX4_profileAt_15 : decode cX4_profileAt 15 = .ok (.getfield 11, 3) := by decide +kernel
theorem dX4_profileAt_18 : decode cX4_profileAt 18 = .ok (.iload_n 1, 1) := by decide +kernel
theorem dX4_profileAt_19 : decode cX4_profileAt 19 = .ok (.aaload, 1) := by decide +kernel
theorem dX4_profileAt_20 : decode cX4_profileAt 20 = .ok (.goto 4, 3) := by decide +kernel
theorem dX4_profileAt_23 : decode cX4_profileAt 23 = .ok (.aconst_null, 1) := by decide +kernel
theorem dX4_profileAt_24 : decode cX4_profileAt 24 = .ok (.areturn, 1) := by decide +kernel
theorem dX4_bellAt_0 : decode cX4_bellAt 0 = .ok (.iload_n 1, 1) := by decide +kernel
theorem dX4_bellAt_1 : decode cX4_bellAt 1 = .ok (.iconst 0, 1) := by decide +kernel
theorem dX4_bellAt_2 : decode cX4_bellAt 2 = .ok (.aload_n 0, 1) := by decide +kernel
theorem dX4_bellAt_3 : decode cX4_bellAt 3 = .ok (.getfield 85, 3) := by decide +kernel
theorem dX4_bellAt_6 : decode cX4_bellAt 6 = .ok (.iconst 1, 1) := by decide +kernel
theorem dX4_bellAt_7 : decode cX4_bellAt 7 = .ok (.isub, 1) := by decide +kernel
theorem dX4_bellAt_8 : decode cX4_bellAt 8 = .ok (.invokestatic 43, 3) := by decide +kernel
theorem dX4_bellAt_11 : decode cX4_bellAt 11 = .ok (.ifCond .eq 12, 3) := by decide +kernel
theorem dX4_bellAt_14 : decode cX4_bellAt 14 = .ok (.aload_n 0, 1) := by decide +kernel
theorem dX4_bellAt_15 : decode cX4_bellAt 15 = .ok (.getfield 17, 3) := by decide +kernel
theorem dX4_bellAt_18 : decode cX4_bellAt 18 = .ok (.iload_n 1, 1) := by decide +kernel
theorem dX4_bellAt_19 : decode cX4_bellAt 19 = .ok (.aaload, 1) := by decide +kernel
theorem dX4_bellAt_20 : decode cX4_bellAt 20 = .ok (.goto 4, 3) := by decide +kernel
theorem dX4_bellAt_23 : decode cX4_bellAt 23 = .ok (.aconst_null, 1) := by decide +kernel
theorem dX4_bellAt_24 : decode cX4_bellAt 24 = .ok (.areturn, 1) := by decide +kernel
theorem dX4_charge_0 : decode cX4_charge 0 = .ok (.aload_n 0, 1) := by decide +kernel
theorem dX4_charge_1 : decode cX4_charge 1 = .ok (.getfield 130, 3) := by decide +kernel
theorem dX4_charge_4 : decode cX4_charge 4 = .ok (.iload_n 1, 1) := by decide +kernel
theorem dX4_charge_5 : decode cX4_charge 5 = .ok (.invokestatic 199, 3) := by decide +kernel
theorem dX4_charge_8 : decode cX4_charge 8 = .ok (.istore_n 2, 1) := by decide +kernel
theorem dX4_charge_9 : decode cX4_charge 9 = .ok (.iload_n 1, 1) := by decide +kernel
theorem dX4_charge_10 : decode cX4_charge 10 = .ok (.iload_n 2, 1) := by decide +kernel
theorem dX4_charge_11 : decode cX4_charge 11 = .ok (.isub, 1) := by decide +kernel
theorem dX4_charge_12 : decode cX4_charge 12 = .ok (.istore_n 3, 1) := by decide +kernel
theorem dX4_charge_13 : decode cX4_charge 13 = .ok (.bipush 77, 2) := by decide +kernel
theorem dX4_charge_15 : decode cX4_charge 15 = .ok (.iload_n 3, 1) := by decide +kernel
theorem dX4_charge_16 : decode cX4_charge 16 = .ok (.imul, 1) := by decide +kernel
theorem dX4_charge_17 : decode cX4_charge 17 = .ok (.bipush 99, 2) := by decide +kernel
theorem dX4_charge_19 : decode cX4_charge 19 = .ok (.iadd, 1) := by decide +kernel
theorem dX4_charge_20 : decode cX4_charge 20 = .ok (.bipush 100, 2) := by decide +kernel
theorem dX4_charge_22 : decode cX4_charge 22 = .ok (.idiv, 1) := by decide +kernel
theorem dX4_charge_23 : decode cX4_charge 23 = .ok (.istore 4, 2) := by decide +kernel
theorem dX4_charge_25 : decode cX4_charge 25 = .ok (.iload_n 3, 1) := by decide +kernel
theorem dX4_charge_26 : decode cX4_charge 26 = .ok (.iload 4, 2) := by decide +kernel
theorem dX4_charge_28 : decode cX4_charge 28 = .ok (.isub, 1) := by decide +kernel
theorem dX4_charge_29 : decode cX4_charge 29 = .ok (.istore 5, 2) := by decide +kernel
theorem dX4_charge_31 : decode cX4_charge 31 = .ok (.iload 4, 2) := by decide +kernel
theorem dX4_charge_33 : decode cX4_charge 33 = .ok (.aload_n 0, 1) := by decide +kernel
theorem dX4_charge_34 : decode cX4_charge 34 = .ok (.getfield 78, 3) := by decide +kernel
theorem dX4_charge_37 : decode cX4_charge 37 = .ok (.if_icmp .gt 12, 3) := by decide +kernel
theorem dX4_charge_40 : decode cX4_charge 40 = .ok (.iload 5, 2) := by decide +kernel
theorem dX4_charge_42 : decode cX4_charge 42 = .ok (.aload_n 0, 1) := by decide +kernel
theorem dX4_charge_43 : decode cX4_charge 43 = .ok (.getfield 82, 3) := by decide +kernel
theorem dX4_charge_46 : decode cX4_charge 46 = .ok (.if_icmp .le 5, 3) := by decide +kernel
theorem dX4_charge_49 : decode cX4_charge 49 = .ok (.iconst 0, 1) := by decide +kernel
theorem dX4_charge_50 : decode cX4_charge 50 = .ok (.ireturn, 1) := by decide +kernel
theorem dX4_charge_51 : decode cX4_charge 51 = .ok (.aload_n 0, 1) := by decide +kernel
theorem dX4_charge_52 : decode cX4_charge 52 = .ok (.dup, 1) := by decide +kernel
theorem dX4_charge_53 : decode cX4_charge 53 = .ok (.getfield 130, 3) := by decide +kernel
theorem dX4_charge_56 : decode cX4_charge 56 = .ok (.iload_n 2, 1) := by decide +kernel
theorem dX4_charge_57 : decode cX4_charge 57 = .ok (.isub, 1) := by decide +kernel
theorem dX4_charge_58 : decode cX4_charge 58 = .ok (.putfield 130, 3) := by decide +kernel
theorem dX4_charge_61 : decode cX4_charge 61 = .ok (.aload_n 0, 1) := by decide +kernel
theorem dX4_charge_62 : decode cX4_charge 62 = .ok (.dup, 1) := by decide +kernel
theorem dX4_charge_63 : decode cX4_charge 63 = .ok (.getfield 78, 3) := by decide +kernel
theorem dX4_charge_66 : decode cX4_charge 66 = .ok (.iload 4, 2) := by decide +kernel
theorem dX4_charge_68 : decode cX4_charge 68 = .ok (.isub, 1) := by decide +kernel
theorem dX4_charge_69 : decode cX4_charge 69 = .ok (.putfield 78, 3) := by decide +kernel
theorem dX4_charge_72 : decode cX4_charge 72 = .ok (.aload_n 0, 1) := by decide +kernel
theorem dX4_charge_73 : decode cX4_charge 73 = .ok (.dup, 1) := by decide +kernel
theorem dX4_charge_74 : decode cX4_charge 74 = .ok (.getfield 82, 3) := by decide +kernel
theorem dX4_charge_77 : decode cX4_charge 77 = .ok (.iload 5, 2) := by decide +kernel
theorem dX4_charge_79 : decode cX4_charge 79 = .ok (.isub, 1) := by decide +kernel
theorem dX4_charge_80 : decode cX4_charge 80 = .ok (.putfield 82, 3) := by decide +kernel
theorem dX4_charge_83 : decode cX4_charge 83 = .ok (.iconst 1, 1) := by decide +kernel
theorem dX4_charge_84 : decode cX4_charge 84 = .ok (.ireturn, 1) := by decide +kernel
theorem dX4_trim_0 : decode cX4_trim 0 = .ok (.aload_n 0, 1) := by decide +kernel
theorem dX4_trim_1 : decode cX4_trim 1 = .ok (.dup, 1) := by decide +kernel
theorem dX4_trim_2 : decode cX4_trim 2 = .ok (.getfield 130, 3) := by decide +kernel
theorem dX4_trim_5 : decode cX4_trim 5 = .ok (.aload_n 1, 1) := by decide +kernel
theorem dX4_trim_6 : decode cX4_trim 6 = .ok (.iload_n 2, 1) := by decide +kernel
theorem dX4_trim_7 : decode cX4_trim 7 = .ok (.iload_n 3, 1) := by decide +kernel
theorem dX4_trim_8 : decode cX4_trim 8 = .ok (.invokevirtual 204, 3) := by decide +kernel
theorem dX4_trim_11 : decode cX4_trim 11 = .ok (.iadd, 1) := by decide +kernel
theorem dX4_trim_12 : decode cX4_trim 12 = .ok (.putfield 130, 3) := by decide +kernel
theorem dX4_trim_15 : decode cX4_trim 15 = .ok (.aload_n 0, 1) := by decide +kernel
theorem dX4_trim_16 : decode cX4_trim 16 = .ok (.getfield 31, 3) := by decide +kernel
theorem dX4_trim_19 : decode cX4_trim 19 = .ok (.invokevirtual 98, 3) := by decide +kernel
theorem dX4_trim_22 : decode cX4_trim 22 = .ok (.return_, 1) := by decide +kernel
theorem dX4_plannedCuts_0 : decode cX4_plannedCuts 0 = .ok (.aload_n 1, 1) := by decide +kernel
theorem dX4_plannedCuts_1 : decode cX4_plannedCuts 1 = .ok (.ifnull 10, 3) := by decide +kernel
theorem dX4_plannedCuts_4 : decode cX4_plannedCuts 4 = .ok (.aload_n 1, 1) := by decide +kernel
theorem dX4_plannedCuts_5 : decode cX4_plannedCuts 5 = .ok (.invokevirtual 105, 3) := by decide +kernel
theorem dX4_plannedCuts_8 : decode cX4_plannedCuts 8 = .ok (.ifCond .ne 5, 3) := by decide +kernel
theorem dX4_plannedCuts_11 : decode cX4_plannedCuts 11 = .ok (.iconst (-1), 1) := by decide +kernel
theorem dX4_plannedCuts_12 : decode cX4_plannedCuts 12 = .ok (.ireturn, 1) := by decide +kernel
theorem dX4_plannedCuts_13 : decode cX4_plannedCuts 13 = .ok (.aload_n 0, 1) := by decide +kernel
theorem dX4_plannedCuts_14 : decode cX4_plannedCuts 14 = .ok (.getfield 24, 3) := by decide +kernel
theorem dX4_plannedCuts_17 : decode cX4_plannedCuts 17 = .ok (.aload_n 1, 1) := by decide +kernel
theorem dX4_plannedCuts_18 : decode cX4_plannedCuts 18 = .ok (.invokevirtual 207, 3) := by decide +kernel
theorem dX4_plannedCuts_21 : decode cX4_plannedCuts 21 = .ok (.aload_n 1, 1) := by decide +kernel
theorem dX4_plannedCuts_22 : decode cX4_plannedCuts 22 = .ok (.getfield 210, 3) := by decide +kernel
theorem dX4_plannedCuts_25 : decode cX4_plannedCuts 25 = .ok (.ireturn, 1) := by decide +kernel
theorem dX4_soundMetal_0 : decode cX4_soundMetal 0 = .ok (.iconst 0, 1) := by decide +kernel
theorem dX4_soundMetal_1 : decode cX4_soundMetal 1 = .ok (.istore_n 1, 1) := by decide +kernel
theorem dX4_soundMetal_2 : decode cX4_soundMetal 2 = .ok (.iconst 0, 1) := by decide +kernel
theorem dX4_soundMetal_3 : decode cX4_soundMetal 3 = .ok (.istore_n 2, 1) := by decide +kernel
theorem dX4_soundMetal_4 : decode cX4_soundMetal 4 = .ok (.iload_n 2, 1) := by decide +kernel
theorem dX4_soundMetal_5 : decode cX4_soundMetal 5 = .ok (.aload_n 0, 1) := by decide +kernel
theorem dX4_soundMetal_6 : decode cX4_soundMetal 6 = .ok (.getfield 85, 3) := by decide +kernel
theorem dX4_soundMetal_9 : decode cX4_soundMetal 9 = .ok (.if_icmp .ge 34, 3) := by decide +kernel
theorem dX4_soundMetal_12 : decode cX4_soundMetal 12 = .ok (.aload_n 0, 1) := by decide +kernel
theorem dX4_soundMetal_13 : decode cX4_soundMetal 13 = .ok (.getfield 17, 3) := by decide +kernel
theorem dX4_soundMetal_16 : decode cX4_soundMetal 16 = .ok (.iload_n 2, 1) := by decide +kernel
theorem dX4_soundMetal_17 : decode cX4_soundMetal 17 = .ok (.aaload, 1) := by decide +kernel
theorem dX4_soundMetal_18 : decode cX4_soundMetal 18 = .ok (.astore_n 3, 1) := by decide +kernel
theorem dX4_soundMetal_19 : decode cX4_soundMetal 19 = .ok (.aload_n 3, 1) := by decide +kernel
theorem dX4_soundMetal_20 : decode cX4_soundMetal 20 = .ok (.ifnull 17, 3) := by decide +kernel
theorem dX4_soundMetal_23 : decode cX4_soundMetal 23 = .ok (.aload_n 3, 1) := by decide +kernel
theorem dX4_soundMetal_24 : decode cX4_soundMetal 24 = .ok (.getfield 124, 3) := by decide +kernel
theorem dX4_soundMetal_27 : decode cX4_soundMetal 27 = .ok (.ifCond .ne 10, 3) := by decide +kernel
theorem dX4_soundMetal_30 : decode cX4_soundMetal 30 = .ok (.iload_n 1, 1) := by decide +kernel
theorem dX4_soundMetal_31 : decode cX4_soundMetal 31 = .ok (.aload_n 3, 1) := by decide +kernel
theorem dX4_soundMetal_32 : decode cX4_soundMetal 32 = .ok (.invokevirtual 133, 3) := by decide +kernel
theorem dX4_soundMetal_35 : decode cX4_soundMetal 35 = .ok (.iadd, 1) := by decide +kernel
theorem dX4_soundMetal_36 : decode cX4_soundMetal 36 = .ok (.istore_n 1, 1) := by decide +kernel
theorem dX4_soundMetal_37 : decode cX4_soundMetal 37 = .ok (.iinc 2 1, 3) := by decide +kernel
theorem dX4_soundMetal_40 : decode cX4_soundMetal 40 = .ok (.goto (-36), 3) := by decide +kernel
theorem dX4_soundMetal_43 : decode cX4_soundMetal 43 = .ok (.iload_n 1, 1) := by decide +kernel
theorem dX4_soundMetal_44 : decode cX4_soundMetal 44 = .ok (.ireturn, 1) := by decide +kernel
theorem dX4_shareOf_0 : decode cX4_shareOf 0 = .ok (.iload_n 1, 1) := by decide +kernel
theorem dX4_shareOf_1 : decode cX4_shareOf 1 = .ok (.invokestatic 180, 3) := by decide +kernel
theorem dX4_shareOf_4 : decode cX4_shareOf 4 = .ok (.ifCond .eq 12, 3) := by decide +kernel
theorem dX4_shareOf_7 : decode cX4_shareOf 7 = .ok (.aload_n 0, 1) := by decide +kernel
theorem dX4_shareOf_8 : decode cX4_shareOf 8 = .ok (.getfield 35, 3) := by decide +kernel
theorem dX4_shareOf_11 : decode cX4_shareOf 11 = .ok (.iload_n 1, 1) := by decide +kernel
theorem dX4_shareOf_12 : decode cX4_shareOf 12 = .ok (.iaload, 1) := by decide +kernel
theorem dX4_shareOf_13 : decode cX4_shareOf 13 = .ok (.goto 4, 3) := by decide +kernel
theorem dX4_shareOf_16 : decode cX4_shareOf 16 = .ok (.iconst 0, 1) := by decide +kernel
theorem dX4_shareOf_17 : decode cX4_shareOf 17 = .ok (.ireturn, 1) := by decide +kernel
theorem dX4_pullBy_0 : decode cX4_pullBy 0 = .ok (.iload_n 1, 1) := by decide +kernel
theorem dX4_pullBy_1 : decode cX4_pullBy 1 = .ok (.iconst (-1), 1) := by decide +kernel
theorem dX4_pullBy_2 : decode cX4_pullBy 2 = .ok (.if_icmp .ne 7, 3) := by decide +kernel
theorem dX4_pullBy_5 : decode cX4_pullBy 5 = .ok (.iconst 0, 1) := by decide +kernel
theorem dX4_pullBy_6 : decode cX4_pullBy 6 = .ok (.goto 12, 3) := by decide +kernel
theorem dX4_pullBy_9 : decode cX4_pullBy 9 = .ok (.aload_n 0, 1) := by decide +kernel
theorem dX4_pullBy_10 : decode cX4_pullBy 10 = .ok (.invokevirtual 133, 3) := by decide +kernel
theorem dX4_pullBy_13 : decode cX4_pullBy 13 = .ok (.iload_n 2, 1) := by decide +kernel
theorem dX4_pullBy_14 : decode cX4_pullBy 14 = .ok (.imul, 1) := by decide +kernel
theorem dX4_pullBy_15 : decode cX4_pullBy 15 = .ok (.bipush 100, 2) := by decide +kernel
theorem dX4_pullBy_17 : decode cX4_pullBy 17 = .ok (.idiv, 1) := by decide +kernel
theorem dX4_pullBy_18 : decode cX4_pullBy 18 = .ok (.ireturn, 1) := by decide +kernel
theorem dX4_pullsTogether_0 : decode cX4_pullsTogether 0 = .ok (.aload_n 0, 1) := by decide +kernel
theorem dX4_pullsTogether_1 : decode cX4_pullsTogether 1 = .ok (.iconst (-1), 1) := by decide +kernel
theorem dX4_pullsTogether_2 : decode cX4_pullsTogether 2 = .ok (.iconst 0, 1) := by decide +kernel
theorem dX4_pullsTogether_3 : decode cX4_pullsTogether 3 = .ok (.invokevirtual 183, 3) := by decide +kernel
theorem dX4_pullsTogether_6 : decode cX4_pullsTogether 6 = .ok (.ireturn, 1) := by decide +kernel
theorem dX4_pullsIf_0 : decode cX4_pullsIf 0 = .ok (.iconst 0, 1) := by decide +kernel
theorem dX4_pullsIf_1 : decode cX4_pullsIf 1 = .ok (.istore_n 3, 1) := by decide +kernel
theorem dX4_pullsIf_2 : decode cX4_pullsIf 2 = .ok (.iconst 0, 1) := by decide +kernel
theorem dX4_pullsIf_3 : decode cX4_pullsIf 3 = .ok (.istore 4, 2) := by decide +kernel
theorem dX4_pullsIf_5 : decode cX4_pullsIf 5 = .ok (.iload 4, 2) := by decide +kernel
theorem dX4_pullsIf_7 : decode cX4_pullsIf 7 = .ok (.aload_n 0, 1) := by decide +kernel
theorem dX4_pullsIf_8 : decode cX4_pullsIf 8 = .ok (.getfield 85, 3) := by decide +kernel
theorem dX4_pullsIf_11 : decode cX4_pullsIf 11 = .ok (.if_icmp .ge 58, 3) := by decide +kernel
theorem dX4_pullsIf_14 : decode cX4_pullsIf 14 = .ok (.aload_n 0, 1) := by decide +kernel
theorem dX4_pullsIf_15 : decode cX4_pullsIf 15 = .ok (.getfield 17, 3) := by decide +kernel
theorem dX4_pullsIf_18 : decode cX4_pullsIf 18 = .ok (.iload 4, 2) := by decide +kernel
theorem dX4_pullsIf_20 : decode cX4_pullsIf 20 = .ok (.aaload, 1) := by decide +kernel
theorem dX4_pullsIf_21 : decode cX4_pullsIf 21 = .ok (.astore 5, 2) := by decide +kernel
theorem dX4_pullsIf_23 : decode cX4_pullsIf 23 = .ok (.aload 5, 2) := by decide +kernel
theorem dX4_pullsIf_25 : decode cX4_pullsIf 25 = .ok (.ifnull 38, 3) := by decide +kernel
theorem dX4_pullsIf_28 : decode cX4_pullsIf 28 = .ok (.iload_n 3, 1) := by decide +kernel
theorem dX4_pullsIf_29 : decode cX4_pullsIf 29 = .ok (.aload 5, 2) := by decide +kernel
theorem dX4_pullsIf_31 : decode cX4_pullsIf 31 = .ok (.aload 5, 2) := by decide +kernel
theorem dX4_pullsIf_33 : decode cX4_pullsIf 33 = .ok (.getfield 127, 3) := by decide +kernel
theorem dX4_pullsIf_36 : decode cX4_pullsIf 36 = .ok (.aload 5, 2) := by decide +kernel
theorem dX4_pullsIf_38 : decode cX4_pullsIf 38 = .ok (.getfield 127, 3) := by decide +kernel
theorem dX4_pullsIf_41 : decode cX4_pullsIf 41 = .ok (.iload_n 1, 1) := by decide +kernel
theorem dX4_pullsIf_42 : decode cX4_pullsIf 42 = .ok (.if_icmp .ne 7, 3) := by decide +kernel
theorem dX4_pullsIf_45 : decode cX4_pullsIf 45 = .ok (.iload_n 2, 1) := by decide +kernel
theorem dX4_pullsIf_46 : decode cX4_pullsIf 46 = .ok (.goto 12, 3) := by decide +kernel
theorem dX4_pullsIf_49 : decode cX4_pullsIf 49 = .ok (.aload_n 0, 1) := by decide +kernel
theorem dX4_pullsIf_50 : decode cX4_pullsIf 50 = .ok (.aload 5, 2) := by decide +kernel
theorem dX4_pullsIf_52 : decode cX4_pullsIf 52 = .ok (.getfield 127, 3) := by decide +kernel
theorem dX4_pullsIf_55 : decode cX4_pullsIf 55 = .ok (.invokevirtual 140, 3) := by decide +kernel
theorem dX4_pullsIf_58 : decode cX4_pullsIf 58 = .ok (.invokestatic 143, 3) := by decide +kernel
theorem dX4_pullsIf_61 : decode cX4_pullsIf 61 = .ok (.iadd, 1) := by decide +kernel
theorem dX4_pullsIf_62 : decode cX4_pullsIf 62 = .ok (.istore_n 3, 1) := by decide +kernel
theorem dX4_pullsIf_63 : decode cX4_pullsIf 63 = .ok (.iinc 4 1, 3) := by decide +kernel
theorem dX4_pullsIf_66 : decode cX4_pullsIf 66 = .ok (.goto (-61), 3) := by decide +kernel
theorem dX4_pullsIf_69 : decode cX4_pullsIf 69 = .ok (.iload_n 3, 1) := by decide +kernel
theorem dX4_pullsIf_70 : decode cX4_pullsIf 70 = .ok (.ireturn, 1) := by decide +kernel
end
section
theorem dX5_init_0 : decode cX5_init 0 = .ok (.aload_n 0, 1) := by decide +kernel
theorem dX5_init_1 : decode cX5_init 1 = .ok (.invokespecial 1, 3) := by decide +kernel
theorem dX5_init_4 : decode cX5_init 4 = .ok (.aload_n 0, 1) := by decide +kernel
theorem dX5_init_5 : decode cX5_init 5 = .ok (.iconst 4, 1) := by decide +kernel
theorem dX5_init_6 : decode cX5_init 6 = .ok (.newarray .int, 2) := by decide +kernel
theorem dX5_init_8 : decode cX5_init 8 = .ok (.putfield 7, 3) := by decide +kernel
theorem dX5_init_11 : decode cX5_init 11 = .ok (.aload_n 0, 1) := by decide +kernel
theorem dX5_init_12 : decode cX5_init 12 = .ok (.bipush 32, 2) := by decide +kernel
theorem dX5_init_14 : decode cX5_init 14 = .ok (.newarray .int, 2) := by decide +kernel
theorem dX5_init_16 : decode cX5_init 16 = .ok (.putfield 13, 3) := by decide +kernel
theorem dX5_init_19 : decode cX5_init 19 = .ok (.aload_n 0, 1) := by decide +kernel
theorem dX5_init_20 : decode cX5_init 20 = .ok (.bipush 32, 2) := by decide +kernel
theorem dX5_init_22 : decode cX5_init 22 = .ok (.newarray .int, 2) := by decide +kernel
theorem dX5_init_24 : decode cX5_init 24 = .ok (.putfield 16, 3) := by decide +kernel
theorem dX5_init_27 : decode cX5_init 27 = .ok (.aload_n 0, 1) := by decide +kernel
theorem dX5_init_28 : decode cX5_init 28 = .ok (.bipush 32, 2) := by decide +kernel
theorem dX5_init_30 : decode cX5_init 30 = .ok (.newarray .int, 2) := by decide +kernel
theorem dX5_init_32 : decode cX5_init 32 = .ok (.putfield 19, 3) := by decide +kernel
theorem dX5_init_35 : decode cX5_init 35 = .ok (.aload_n 0, 1) := by decide +kernel
theorem dX5_init_36 : decode cX5_init 36 = .ok (.bipush 20, 2) := by decide +kernel
theorem dX5_init_38 : decode cX5_init 38 = .ok (.newarray .int, 2) := by decide +kernel
theorem dX5_init_40 : decode cX5_init 40 = .ok (.putfield 22, 3) := by decide +kernel
theorem dX5_init_43 : decode cX5_init 43 = .ok (.aload_n 0, 1) := by decide +kernel
theorem dX5_init_44 : decode cX5_init 44 = .ok (.sipush 160, 3) := by decide +kernel
theorem dX5_init_47 : decode cX5_init 47 = .ok (.newarray .int, 2) := by decide +kernel
theorem dX5_init_49 : decode cX5_init 49 = .ok (.putfield 25, 3) := by decide +kernel
theorem dX5_init_52 : decode cX5_init 52 = .ok (.aload_n 0, 1) := by decide +kernel
theorem dX5_init_53 : decode cX5_init 53 = .ok (.bipush 24, 2) := by decide +kernel
theorem dX5_init_55 : decode cX5_init 55 = .ok (.newarray .int, 2) := by decide +kernel
theorem dX5_init_57 : decode cX5_init 57 = .ok (.putfield 28, 3) := by decide +kernel
theorem dX5_init_60 : decode cX5_init 60 = .ok (.aload_n 0, 1) := by decide +kernel
theorem dX5_init_61 : decode cX5_init 61 = .ok (.bipush 24, 2) := by decide +kernel
theorem dX5_init_63 : decode cX5_init 63 = .ok (.newarray .int, 2) := by decide +kernel
theorem dX5_init_65 : decode cX5_init 65 = .ok (.putfield 31, 3) := by decide +kernel
theorem dX5_init_68 : decode cX5_init 68 = .ok (.aload_n 0, 1) := by decide +kernel
theorem dX5_init_69 : decode cX5_init 69 = .ok (.sipush 192, 3) := by decide +kernel
theorem dX5_init_72 : decode cX5_init 72 = .ok (.newarray .int, 2) := by decide +kernel
theorem dX5_init_74 : decode cX5_init 74 = .ok (.putfield 34, 3) := by decide +kernel
theorem dX5_init_77 : decode cX5_init 77 = .ok (.aload_n 0, 1) := by decide +kernel
theorem dX5_init_78 : decode cX5_init 78 = .ok (.sipush 192, 3) := by decide +kernel
theorem dX5_init_81 : decode cX5_init 81 = .ok (.newarray .int, 2) := by decide +kernel
theorem dX5_init_83 : decode cX5_init 83 = .ok (.putfield 37, 3) := by decide +kernel
theorem dX5_init_86 : decode cX5_init 86 = .ok (.aload_n 0, 1) := by decide +kernel
theorem dX5_init_87 : decode cX5_init 87 = .ok (.sipush 192, 3) := by decide +kernel
theorem dX5_init_90 : decode cX5_init 90 = .ok (.newarray .int, 2) := by decide +kernel
theorem dX5_init_92 : decode cX5_init 92 = .ok (.putfield 40, 3) := by decide +kernel
theorem dX5_init_95 : decode cX5_init 95 = .ok (.aload_n 0, 1) := by decide +kernel
theorem dX5_init_96 : decode cX5_init 96 = .ok (.bipush 120, 2) := by decide +kernel
theorem dX5_init_98 : decode cX5_init 98 = .ok (.newarray .int, 2) := by decide +kernel
theorem dX5_init_100 : decode cX5_init 100 = .ok (.putfield 43, 3) := by decide +kernel
theorem dX5_init_103 : decode cX5_init 103 = .ok (.aload_n 0, 1) := by decide +kernel
theorem dX5_init_104 : decode cX5_init 104 = .ok (.sipush 960, 3) := by decide +kernel
theorem dX5_init_107 : decode cX5_init 107 = .ok (.newarray .int, 2) := by decide +kernel
theorem dX5_init_109 : decode cX5_init 109 = .ok (.putfield 46, 3) := by decide +kernel
theorem dX5_init_112 : decode cX5_init 112 = .ok (.aload_n 0, 1) := by decide +kernel
theorem dX5_init_113 : decode cX5_init 113 = .ok (.bipush 24, 2) := by decide +kernel
theorem dX5_init_115 : decode cX5_init 115 = .ok (.newarray .boolean, 2) := by decide +kernel
theorem dX5_init_117 : decode cX5_init 117 = .ok (.putfield 49, 3) := by decide +kernel
theorem dX5_init_120 : decode cX5_init 120 = .ok (.aload_n 0, 1) := by decide +kernel
theorem dX5_init_121 : decode cX5_init 121 = .ok (.bipush 24, 2) := by decide +kernel
theorem dX5_init_123 : decode cX5_init 123 = .ok (.newarray .boolean, 2) := by decide +kernel
theorem dX5_init_125 : decode cX5_init 125 = .ok (.putfield 53, 3) := by decide +kernel
theorem dX5_init_128 : decode cX5_init 128 = .ok (.aload_n 0, 1) := by decide +kernel
theorem dX5_init_129 : decode cX5_init 129 = .ok (.bipush 24, 2) := by decide +kernel
theorem dX5_init_131 : decode cX5_init 131 = .ok (.newarray .int, 2) := by decide +kernel
theorem dX5_init_133 : decode cX5_init 133 = .ok (.putfield 56, 3) := by decide +kernel
theorem dX5_init_136 : decode cX5_init 136 = .ok (.aload_n 0, 1) := by decide +kernel
theorem dX5_init_137 : decode cX5_init 137 = .ok (.iconst 5, 1) := by decide +kernel
theorem dX5_init_138 : decode cX5_init 138 = .ok (.newarray .int, 2) := by decide +kernel
theorem dX5_init_140 : decode cX5_init 140 = .ok (.dup, 1) := by decide +kernel
theorem dX5_init_141 : decode cX5_init 141 = .ok (.iconst 0, 1) := by decide +kernel
theorem dX5_init_142 : decode cX5_init 142 = .ok (.sipush (-30000), 3) := by decide +kernel
theorem dX5_init_145 : decode cX5_init 145 = .ok (.iastore, 1) := by decide +kernel
theorem dX5_init_146 : decode cX5_init 146 = .ok (.dup, 1) := by decide +kernel
theorem dX5_init_147 : decode cX5_init 147 = .ok (.iconst 1, 1) := by decide +kernel
theorem dX5_init_148 : decode cX5_init 148 = .ok (.sipush (-30000), 3) := by decide +kernel
theorem dX5_init_151 : decode cX5_init 151 = .ok (.iastore, 1) := by decide +kernel
theorem dX5_init_152 : decode cX5_init 152 = .ok (.dup, 1) := by decide +kernel
theorem dX5_init_153 : decode cX5_init 153 = .ok (.iconst 2, 1) := by decide +kernel
theorem dX5_init_154 : decode cX5_init 154 = .ok (.sipush (-30000), 3) := by decide +kernel
theorem dX5_init_157 : decode cX5_init 157 = .ok (.iastore, 1) := by decide +kernel
theorem dX5_init_158 : decode cX5_init 158 = .ok (.dup, 1) := by decide +kernel
theorem dX5_init_159 : decode cX5_init 159 = .ok (.iconst 3, 1) := by decide +kernel
theorem dX5_init_160 : decode cX5_init 160 = .ok (.sipush (-30000), 3) := by decide +kernel
theorem dX5_init_163 : decode cX5_init 163 = .ok (.iastore, 1) := by decide +kernel
theorem dX5_init_164 : decode cX5_init 164 = .ok (.dup, 1) := by decide +kernel
theorem dX5_init_165 : decode cX5_init 165 = .ok (.iconst 4, 1) := by decide +kernel
theorem dX5_init_166 : decode cX5_init 166 = .ok (.sipush (-30000), 3) := by decide +kernel
theorem dX5_init_169 : decode cX5_init 169 = .ok (.iastore, 1) := by decide +kernel
theorem dX5_init_170 : decode cX5_init 170 = .ok (.putfield 59, 3) := by decide +kernel
theorem dX5_init_173 : decode cX5_init 173 = .ok (.aload_n 0, 1) := by decide +kernel
theorem dX5_init_174 : decode cX5_init 174 = .ok (.iconst 5, 1) := by decide +kernel
theorem dX5_init_175 : decode cX5_init 175 = .ok (.newarray .int, 2) := by decide +kernel
theorem dX5_init_177 : decode cX5_init 177 = .ok (.dup, 1) := by decide +kernel
theorem dX5_init_178 : decode cX5_init 178 = .ok (.iconst 0, 1) := by decide +kernel
theorem dX5_init_179 : decode cX5_init 179 = .ok (.sipush 30000, 3) := by decide +kernel
theorem dX5_init_182 : decode cX5_init 182 = .ok (.iastore, 1) := by decide +kernel
theorem dX5_init_183 : decode cX5_init 183 = .ok (.dup, 1) := by decide +kernel
theorem dX5_init_184 : decode cX5_init 184 = .ok (.iconst 1, 1) := by decide +kernel
theorem dX5_init_185 : decode cX5_init 185 = .ok (.sipush 30000, 3) := by decide +kernel
theorem dX5_init_188 : decode cX5_init 188 = .ok (.iastore, 1) := by decide +kernel
theorem dX5_init_189 : decode cX5_init 189 = .ok (.dup, 1) := by decide +kernel
theorem dX5_init_190 : decode cX5_init 190 = .ok (.iconst 2, 1) := by decide +kernel
theorem dX5_init_191 : decode cX5_init 191 = .ok (.sipush 30000, 3) := by decide +kernel
theorem dX5_init_194 : decode cX5_init 194 = .ok (.iastore, 1) := by decide +kernel
theorem dX5_init_195 : decode cX5_init 195 = .ok (.dup, 1) := by decide +kernel
theorem dX5_init_196 : decode cX5_init 196 = .ok (.iconst 3, 1) := by decide +kernel
theorem dX5_init_197 : decode cX5_init 197 = .ok (.sipush 30000, 3) := by decide +kernel
theorem dX5_init_200 : decode cX5_init 200 = .ok (.iastore, 1) := by decide +kernel
theorem dX5_init_201 : decode cX5_init 201 = .ok (.dup, 1) := by decide +kernel
theorem dX5_init_202 : decode cX5_init 202 = .ok (.iconst 4, 1) := by decide +kernel
theorem dX5_init_203 : decode cX5_init 203 = .ok (.sipush 30000, 3) := by decide +kernel
theorem dX5_init_206 : decode cX5_init 206 = .ok (.iastore, 1) := by decide +kernel
theorem dX5_init_207 : decode cX5_init 207 = .ok (.putfield 62, 3) := by decide +kernel
theorem dX5_init_210 : decode cX5_init 210 = .ok (.aload_n 0, 1) := by decide +kernel
theorem dX5_init_211 : decode cX5_init 211 = .ok (.bipush 8, 2) := by decide +kernel
theorem dX5_init_213 : decode cX5_init 213 = .ok (.newarray .int, 2) := by decide +kernel
theorem dX5_init_215 : decode cX5_init 215 = .ok (.putfield 65, 3) := by decide +kernel
theorem dX5_init_218 : decode cX5_init 218 = .ok (.aload_n 0, 1) := by decide +kernel
theorem dX5_init_219 : decode cX5_init 219 = .ok (.iconst 5, 1) := by decide +kernel
theorem dX5_init_220 : decode cX5_init 220 = .ok (.newarray .int, 2) := by decide +kernel
theorem dX5_init_222 : decode cX5_init 222 = .ok (.putfield 68, 3) := by decide +kernel
theorem dX5_init_225 : decode cX5_init 225 = .ok (.aload_n 0, 1) := by decide +kernel
theorem dX5_init_226 : decode cX5_init 226 = .ok (.bipush 8, 2) := by decide +kernel
theorem dX5_init_228 : decode cX5_init 228 = .ok (.newarray .int, 2) := by decide +kernel
theorem dX5_init_230 : decode cX5_init 230 = .ok (.putfield 71, 3) := by decide +kernel
theorem dX5_init_233 : decode cX5_init 233 = .ok (.aload_n 0, 1) := by decide +kernel
theorem dX5_init_234 : decode cX5_init 234 = .ok (.bipush 8, 2) := by decide +kernel
theorem dX5_init_236 : decode cX5_init 236 = .ok (.newarray .int, 2) := by decide +kernel
theorem dX5_init_238 : decode cX5_init 238 = .ok (.putfield 74, 3) := by decide +kernel
theorem dX5_init_241 : decode cX5_init 241 = .ok (.aload_n 0, 1) := by decide +kernel
theorem dX5_init_242 : decode cX5_init 242 = .ok (.bipush 24, 2) := by decide +kernel
theorem dX5_init_244 : decode cX5_init 244 = .ok (.newarray .int, 2) := by decide +kernel
theorem dX5_init_246 : decode cX5_init 246 = .ok (.putfield 77, 3) := by decide +kernel
theorem dX5_init_249 : decode cX5_init 249 = .ok (.aload_n 0, 1) := by decide +kernel
theorem dX5_init_250 : decode cX5_init 250 = .ok (.bipush 24, 2) := by decide +kernel
theorem dX5_init_252 : decode cX5_init 252 = .ok (.newarray .int, 2) := by decide +kernel
theorem dX5_init_254 : decode cX5_init 254 = .ok (.putfield 80, 3) := by decide +kernel
theorem dX5_init_257 : decode cX5_init 257 = .ok (.aload_n 0, 1) := by decide +kernel
theorem dX5_init_258 : decode cX5_init 258 = .ok (.sipush 256, 3) := by decide +kernel
theorem dX5_init_261 : decode cX5_init 261 = .ok (.newarray .int, 2) := by decide +kernel
theorem dX5_init_263 : decode cX5_init 263 = .ok (.putfield 83, 3) := by decide +kernel
theorem dX5_init_266 : decode cX5_init 266 = .ok (.return_, 1) := by decide +kernel
theorem dX5_in_0 : decode cX5_in 0 = .ok (.iload_n 0, 1) := by decide +kernel
theorem dX5_in_1 : decode cX5_in 1 = .ok (.iload_n 1, 1) := by decide +kernel
theorem dX5_in_2 : decode cX5_in 2 = .ok (.if_icmp .lt 12, 3) := by decide +kernel
theorem dX5_in_5 : decode cX5_in 5 = .ok (.iload_n 0, 1) := by decide +kernel
theorem dX5_in_6 : decode cX5_in 6 = .ok (.iload_n 2, 1) := by decide +kernel
theorem dX5_in_7 : decode cX5_in 7 = .ok (.if_icmp .gt 7, 3) := by decide +kernel
theorem dX5_in_10 : decode cX5_in 10 = .ok (.iconst 1, 1) := by decide +kernel
theorem dX5_in_11 : decode cX5_in 11 = .ok (.goto 4, 3) := by decide +kernel
theorem dX5_in_14 : decode cX5_in 14 = .ok (.iconst 0, 1) := by decide +kernel
theorem dX5_in_15 : decode cX5_in 15 = .ok (.ireturn, 1) := by decide +kernel
theorem dX5_isBell_0 : decode cX5_isBell 0 = .ok (.iload_n 1, 1) := by decide +kernel
theorem dX5_isBell_1 : decode cX5_isBell 1 = .ok (.iconst 0, 1) := by decide +kernel
theorem dX5_isBell_2 : decode cX5_isBell 2 = .ok (.aload_n 0, 1) := by decide +kernel
theorem dX5_isBell_3 : decode cX5_isBell 3 = .ok (.getfield 86, 3) := by decide +kernel
theorem dX5_isBell_6 : decode cX5_isBell 6 = .ok (.iconst 1, 1) := by decide +kernel
theorem dX5_isBell_7 : decode cX5_isBell 7 = .ok (.isub, 1) := by decide +kernel
theorem dX5_isBell_8 : decode cX5_isBell 8 = .ok (.invokestatic 90, 3) := by decide +kernel
theorem dX5_isBell_11 : decode cX5_isBell 11 = .ok (.ireturn, 1) := by decide +kernel
theorem dX5_profile_0 : decode cX5_profile 0 = .ok (.iload_n 1, 1) := by decide +kernel
theorem dX5_profile_1 : decode cX5_profile 1 = .ok (.iconst 0, 1) := by decide +kernel
theorem dX5_profile_2 : decode cX5_profile 2 = .ok (.sipush 5000, 3) := by decide +kernel
theorem dX5_profile_5 : decode cX5_profile 5 = .ok (.invokestatic 90, 3) := by decide +kernel
theorem dX5_profile_8 : decode cX5_profile 8 = .ok (.ifCond .eq 11, 3) := by decide +kernel
theorem dX5_profile_11 : decode cX5_profile 11 = .ok (.aload_n 0, 1) := by decide +kernel
theorem dX5_profile_12 : decode cX5_profile 12 = .ok (.getfield 94, 3) := by decide +kernel
theorem dX5_profile_15 : decode cX5_profile 15 = .ok (.iconst 4, 1) := by decide +kernel
theorem dX5_profile_16 : decode cX5_profile 16 = .ok (.if_icmp .ne 5, 3) := by decide +kernel
theorem dX5_profile_19 : decode cX5_profile 19 = .ok (.iconst (-1), 1) := by decide +kernel
theorem dX5_profile_20 : decode cX5_profile 20 = .ok (.ireturn, 1) := by decide +kernel
theorem dX5_profile_21 : decode cX5_profile 21 = .ok (.aload_n 0, 1) := by decide +kernel
theorem dX5_profile_22 : decode cX5_profile 22 = .ok (.getfield 7, 3) := by decide +kernel
theorem dX5_profile_25 : decode cX5_profile 25 = .ok (.aload_n 0, 1) := by decide +kernel
theorem dX5_profile_26 : decode cX5_profile 26 = .ok (.getfield 94, 3) := by decide +kernel
theorem dX5_profile_29 : decode cX5_profile 29 = .ok (.iload_n 1, 1) := by decide +kernel
theorem dX5_profile_30 : decode cX5_profile 30 = .ok (.iastore, 1) := by decide +kernel
theorem dX5_profile_31 : decode cX5_profile 31 = .ok (.iconst 0, 1) := by decide +kernel
theorem dX5_profile_32 : decode cX5_profile 32 = .ok (.istore_n 2, 1) := by decide +kernel
theorem dX5_profile_33 : decode cX5_profile 33 = .ok (.iload_n 2, 1) := by decide +kernel
theorem dX5_profile_34 : decode cX5_profile 34 = .ok (.bipush 8, 2) := by decide +kernel
theorem dX5_profile_36 : decode cX5_profile 36 = .ok (.if_icmp .ge 24, 3) := by decide +kernel
theorem dX5_profile_39 : decode cX5_profile 39 = .ok (.aload_n 0, 1) := by decide +kernel
theorem dX5_profile_40 : decode cX5_profile 40 = .ok (.getfield 19, 3) := by decide +kernel
theorem dX5_profile_43 : decode cX5_profile 43 = .ok (.bipush 8, 2) := by decide +kernel
theorem dX5_profile_45 : decode cX5_profile 45 = .ok (.aload_n 0, 1) := by decide +kernel
theorem dX5_profile_46 : decode cX5_profile 46 = .ok (.getfield 94, 3) := by decide +kernel
theorem dX5_profile_49 : decode cX5_profile 49 = .ok (.imul, 1) := by decide +kernel
theorem dX5_profile_50 : decode cX5_profile 50 = .ok (.iload_n 2, 1) := by decide +kernel
theorem dX5_profile_51 : decode cX5_profile 51 = .ok (.iadd, 1) := by decide +kernel
theorem dX5_profile_52 : decode cX5_profile 52 = .ok (.iconst 1, 1) := by decide +kernel
theorem dX5_profile_53 : decode cX5_profile 53 = .ok (.iastore, 1) := by decide +kernel
theorem dX5_profile_54 : decode cX5_profile 54 = .ok (.iinc 2 1, 3) := by decide +kernel
theorem dX5_profile_57 : decode cX5_profile 57 = .ok (.goto (-24), 3) := by decide +kernel
theorem dX5_profile_60 : decode cX5_profile 60 = .ok (.aload_n 0, 1) := by decide +kernel
theorem dX5_profile_61 : decode cX5_profile 61 = .ok (.dup, 1) := by decide +kernel
theorem dX5_profile_62 : decode cX5_profile 62 = .ok (.getfield 94, 3) := by decide +kernel
theorem dX5_profile_65 : decode cX5_profile 65 = .ok (.iconst 1, 1) := by decide +kernel
theorem dX5_profile_66 : decode cX5_profile 66 = .ok (.iadd, 1) := by decide +kernel
theorem dX5_profile_67 : decode cX5_profile 67 = .ok (.putfield 94, 3) := by decide +kernel
theorem dX5_profile_70 : decode cX5_profile 70 = .ok (.aload_n 0, 1) := by decide +kernel
theorem dX5_profile_71 : decode cX5_profile 71 = .ok (.getfield 94, 3) := by decide +kernel
theorem dX5_profile_74 : decode cX5_profile 74 = .ok (.iconst 1, 1) := by decide +kernel
theorem dX5_profile_75 : decode cX5_profile 75 = .ok (.isub, 1) := by decide +kernel
theorem dX5_profile_76 : decode cX5_profile 76 = .ok (.ireturn, 1) := by decide +kernel
theorem dX5_shape_0 : decode cX5_shape 0 = .ok (.iload_n 1, 1) := by decide +kernel
theorem dX5_shape_1 : decode cX5_shape 1 = .ok (.iconst 0, 1) := by decide +kernel
theorem dX5_shape_2 : decode cX5_shape 2 = .ok (.aload_n 0, 1) := by decide +kernel
theorem dX5_shape_3 : decode cX5_shape 3 = .ok (.getfield 94, 3) := by decide +kernel
theorem dX5_shape_6 : decode cX5_shape 6 = .ok (.iconst 1, 1) := by decide +kernel
theorem dX5_shape_7 : decode cX5_shape 7 = .ok (.isub, 1) := by decide +kernel
theorem dX5_shape_8 : decode cX5_shape 8 = .ok (.invokestatic 90, 3) := by decide +kernel
theorem dX5_shape_11 : decode cX5_shape 11 = .ok (.ifCond .eq 23, 3) := by decide +kernel
theorem dX5_shape_14 : decode cX5_shape 14 = .ok (.iload_n 2, 1) := by decide +kernel
theorem dX5_shape_15 : decode cX5_shape 15 = .ok (.iconst 0, 1) := by decide +kernel
theorem dX5_shape_16 : decode cX5_shape 16 = .ok (.bipush 7, 2) := by decide +kernel
theorem dX5_shape_18 : decode cX5_shape 18 = .ok (.invokestatic 90, 3) := by decide +kernel
theorem dX5_shape_21 : decode cX5_shape 21 = .ok (.ifCond .eq 13, 3) := by decide +kernel
theorem dX5_shape_24 : decode cX5_shape 24 = .ok (.iload_n 3, 1) := by decide +kernel
theorem dX5_shape_25 : decode cX5_shape 25 = .ok (.iconst 0, 1) := by decide +kernel
theorem dX5_shape_26 : decode cX5_shape 26 = .ok (.bipush 7, 2) := by decide +kernel
theorem dX5_shape_28 : decode cX5_shape 28 = .ok (.invokestatic 90, 3) := by decide +kernel
theorem dX5_shape_31 : decode cX5_shape 31 = .ok (.ifCond .ne 5, 3) := by decide +kernel
theorem dX5_shape_34 : decode cX5_shape 34 = .ok (.iconst 0, 1) := by decide +kernel
theorem dX5_shape_35 : decode cX5_shape 35 = .ok (.ireturn, 1) := by decide +kernel
theorem dX5_shape_36 : decode cX5_shape 36 = .ok (.bipush 8, 2) := by decide +kernel
theorem dX5_shape_38 : decode cX5_shape 38 = .ok (.iload_n 1, 1) := by decide +kernel
theorem dX5_shape_39 : decode cX5_shape 39 = .ok (.imul, 1) := by decide +kernel
theorem dX5_shape_40 : decode cX5_shape 40 = .ok (.iload_n 3, 1) := by decide +kernel
theorem dX5_shape_41 : decode cX5_shape 41 = .ok (.iadd, 1) := by decide +kernel
theorem dX5_shape_42 : decode cX5_shape 42 = .ok (.istore 5, 2) := by decide +kernel
theorem dX5_shape_44 : decode cX5_shape 44 = .ok (.iload_n 2, 1) := by decide +kernel
theorem dX5_shape_45 : decode cX5_shape 45 = .ok (.iconst 5, 1) := by decide +kernel
theorem dX5_shape_46 : decode cX5_shape 46 = .ok (.if_icmp .ge 15, 3) := by decide +kernel
theorem dX5_shape_49 : decode cX5_shape 49 = .ok (.iload 4, 2) := by decide +kernel
theorem dX5_shape_51 : decode cX5_shape 51 = .ok (.bipush (-50), 2) := by decide +kernel
theorem dX5_shape_53 : decode cX5_shape 53 = .ok (.bipush 50, 2) := by decide +kernel
theorem dX5_shape_55 : decode cX5_shape 55 = .ok (.invokestatic 90, 3) := by decide +kernel
theorem dX5_shape_58 : decode cX5_shape 58 = .ok (.goto 55, 3) := by decide +kernel
theorem dX5_shape_61 : decode cX5_shape 61 = .ok (.iload_n 2, 1) := by decide +kernel
theorem dX5_shape_62 : decode cX5_shape 62 = .ok (.iconst 5, 1) := by decide +kernel
theorem dX5_shape_63 : decode cX5_shape 63 = .ok (.if_icmp .ne 14, 3) := by decide +kernel
theorem dX5_shape_66 : decode cX5_shape 66 = .ok (.iload 4, 2) := by decide +kernel
theorem dX5_shape_68 : decode cX5_shape 68 = .ok (.iconst 1, 1) := by decide +kernel
theorem dX5_shape_69 : decode cX5_shape 69 = .ok (.bipush 50, 2) := by decide +kernel
theorem dX5_shape_71 : decode cX5_shape 71 = .ok (.invokestatic 90, 3) := by decide +kernel
theorem dX5_shape_74 : decode cX5_shape 74 = .ok (.goto 39, 3) := by decide +kernel
theorem dX5_shape_77 : decode cX5_shape 77 = .ok (.iload_n 2, 1) := by decide +kernel
theorem dX5_shape_78 : decode cX5_shape 78 = .ok (.bipush 6, 2) := by decide +kernel
theorem dX5_shape_80 : decode cX5_shape 80 = .ok (.if_icmp .ne 19, 3) := by decide +kernel
theorem dX5_shape_83 : decode cX5_shape 83 = .ok (.iload 4, 2) := by decide +kernel
theorem dX5_shape_85 : decode cX5_shape 85 = .ok (.iconst 0, 1) := by decide +kernel
theorem dX5_shape_86 : decode cX5_shape 86 = .ok (.aload_n 0, 1) := by decide +kernel
theorem dX5_shape_87 : decode cX5_shape 87 = .ok (.getfield 13, 3) := by decide +kernel
theorem dX5_shape_90 : decode cX5_shape 90 = .ok (.iload 5, 2) := by decide +kernel
theorem dX5_shape_92 : decode cX5_shape 92 = .ok (.iaload, 1) := by decide +kernel
theorem dX5_shape_93 : decode cX5_shape 93 = .ok (.invokestatic 90, 3) := by decide +kernel
theorem dX5_shape_96 : decode cX5_shape 96 = .ok (.goto 17, 3) := by decide +kernel
theorem dX5_shape_99 : decode cX5_shape 99 = .ok (.iload 4, 2) := by decide +kernel
theorem dX5_shape_101 : decode cX5_shape 101 = .ok (.aload_n 0, 1) := by decide +kernel
theorem dX5_shape_102 : decode cX5_shape 102 = .ok (.getfield 16, 3) := by decide +kernel
theorem dX5_shape_105 : decode cX5_shape 105 = .ok (.iload 5, 2) := by decide +kernel
theorem dX5_shape_107 : decode cX5_shape 107 = .ok (.iaload, 1) := by decide +kernel
theorem dX5_shape_108 : decode cX5_shape 108 = .ok (.bipush 99, 2) := by decide +kernel
theorem dX5_shape_110 : decode cX5_shape 110 = .ok (.invokestatic 90, 3) := by decide +kernel
theorem dX5_shape_113 : decode cX5_shape 113 = .ok (.istore 6, 2) := by decide +kernel
theorem dX5_shape_115 : decode cX5_shape 115 = .ok (.iload 6, 2) := by decide +kernel
theorem dX5_shape_117 : decode cX5_shape 117 = .ok (.ifCond .ne 5, 3) := by decide +kernel
theorem dX5_shape_120 : decode cX5_shape 120 = .ok (.iconst 0, 1) := by decide +kernel
theorem dX5_shape_121 : decode cX5_shape 121 = .ok (.ireturn, 1) := by decide +kernel
theorem dX5_shape_122 : decode cX5_shape 122 = .ok (.iload_n 2, 1) := by decide +kernel
theorem dX5_shape_123 : decode cX5_shape 123 = .ok (.iconst 5, 1) := by decide +kernel
theorem dX5_shape_124 : decode cX5_shape 124 = .ok (.if_icmp .ge 24, 3) := by decide +kernel
theorem dX5_shape_127 : decode cX5_shape 127 = .ok (.aload_n 0, 1) := by decide +kernel
theorem dX5_shape_128 : decode cX5_shape 128 = .ok (.getfield 25, 3) := by decide +kernel
theorem dX5_shape_131 : decode cX5_shape 131 = .ok (.bipush 40, 2) := by decide +kernel
theorem dX5_shape_133 : decode cX5_shape 133 = .ok (.iload_n 1, 1) := by decide +kernel
theorem dX5_shape_134 : decode cX5_shape 134 = .ok (.imul, 1) := by decide +kernel
theorem dX5_shape_135 : decode cX5_shape 135 = .ok (.bipush 8, 2) := by decide +kernel
theorem dX5_shape_137 : decode cX5_shape 137 = .ok (.iload_n 2, 1) := by decide +kernel
theorem dX5_shape_138 : decode cX5_shape 138 = .ok (.imul, 1) := by decide +kernel
theorem dX5_shape_139 : decode cX5_shape 139 = .ok (.iadd, 1) := by decide +kernel
theorem dX5_shape_140 : decode cX5_shape 140 = .ok (.iload_n 3, 1) := by decide +kernel
theorem dX5_shape_141 : decode cX5_shape 141 = .ok (.iadd, 1) := by decide +kernel
theorem dX5_shape_142 : decode cX5_shape 142 = .ok (.iload 4, 2) := by decide +kernel
theorem dX5_shape_144 : decode cX5_shape 144 = .ok (.iastore, 1) := by decide +kernel
theorem dX5_shape_145 : decode cX5_shape 145 = .ok (.goto 47, 3) := by decide +kernel
theorem dX5_shape_148 : decode cX5_shape 148 = .ok (.iload_n 2, 1) := by decide +kernel
theorem dX5_shape_149 : decode cX5_shape 149 = .ok (.iconst 5, 1) := by decide +kernel
theorem dX5_shape_150 : decode cX5_shape 150 = .ok (.if_icmp .ne 15, 3) := by decide +kernel
theorem dX5_shape_153 : decode cX5_shape 153 = .ok (.aload_n 0, 1) := by decide +kernel
theorem dX5_shape_154 : decode cX5_shape 154 = .ok (.getfield 19, 3) := by decide +kernel
theorem dX5_shape_157 : decode cX5_shape 157 = .ok (.iload 5, 2) := by decide +kernel
theorem dX5_shape_159 : decode cX5_shape 159 = .ok (.iload 4, 2) := by decide +kernel
theorem dX5_shape_161 : decode cX5_shape 161 = .ok (.iastore, 1) := by decide +kernel
theorem dX5_shape_162 : decode cX5_shape 162 = .ok (.goto 30, 3) := by decide +kernel
theorem dX5_shape_165 : decode cX5_shape 165 = .ok (.iload_n 2, 1) := by decide +kernel
theorem dX5_shape_166 : decode cX5_shape 166 = .ok (.bipush 6, 2) := by decide +kernel
theorem dX5_shape_168 : decode cX5_shape 168 = .ok (.if_icmp .ne 15, 3) := by decide +kernel
theorem dX5_shape_171 : decode cX5_shape 171 = .ok (.aload_n 0, 1) := by decide +kernel
theorem dX5_shape_172 : decode cX5_shape 172 = .ok (.getfield 16, 3) := by decide +kernel
theorem dX5_shape_175 : decode cX5_shape 175 = .ok (.iload 5, 2) := by decide +kernel
theorem dX5_shape_177 : decode cX5_shape 177 = .ok (.iload 4, 2) := by decide +kernel
theorem dX5_shape_179 : decode cX5_shape 179 = .ok (.iastore, 1) := by decide +kernel
theorem dX5_shape_180 : decode cX5_shape 180 = .ok (.goto 12, 3) := by decide +kernel
theorem dX5_shape_183 : decode cX5_shape 183 = .ok (.aload_n 0, 1) := by decide +kernel
theorem dX5_shape_184 : decode cX5_shape 184 = .ok (.getfield 13, 3) := by decide +kernel
theorem dX5_shape_187 : decode cX5_shape 187 = .ok (.iload 5, 2) := by decide +kernel
theorem dX5_shape_189 : decode cX5_shape 189 = .ok (.iload 4, 2) := by decide +kernel
theorem dX5_shape_191 : decode cX5_shape 191 = .ok (.iastore, 1) := by decide +kernel
theorem dX5_shape_192 : decode cX5_shape 192 = .ok (.iconst 1, 1) := by decide +kernel
theorem dX5_shape_193 : decode cX5_shape 193 = .ok (.ireturn, 1) := by decide +kernel
theorem dX5_base_0 : decode cX5_base 0 = .ok (.iload_n 1, 1) := by decide +kernel
theorem dX5_base_1 : decode cX5_base 1 = .ok (.iconst 0, 1) := by decide +kernel
theorem dX5_base_2 : decode cX5_base 2 = .ok (.aload_n 0, 1) := by decide +kernel
theorem dX5_base_3 : decode cX5_base 3 = .ok (.getfield 94, 3) := by decide +kernel
theorem dX5_base_6 : decode cX5_base 6 = .ok (.iconst 1, 1) := by decide +kernel
theorem dX5_base_7 : decode cX5_base 7 = .ok (.isub, 1) := by decide +kernel
theorem dX5_base_8 : decode cX5_base 8 = .ok (.invokestatic 90, 3) := by decide +kernel
theorem dX5_base_11 : decode cX5_base 11 = .ok (.ifCond .eq 25, 3) := by decide +kernel
theorem dX5_base_14 : decode cX5_base 14 = .ok (.iload_n 2, 1) := by decide +kernel
theorem dX5_base_15 : decode cX5_base 15 = .ok (.iconst 0, 1) := by decide +kernel
theorem dX5_base_16 : decode cX5_base 16 = .ok (.iconst 4, 1) := by decide +kernel
theorem dX5_base_17 : decode cX5_base 17 = .ok (.invokestatic 90, 3) := by decide +kernel
theorem dX5_base_20 : decode cX5_base 20 = .ok (.ifCond .eq 16, 3) := by decide +kernel
theorem dX5_base_23 : decode cX5_base 23 = .ok (.iload_n 3, 1) := by decide +kernel
theorem dX5_base_24 : decode cX5_base 24 = .ok (.sipush (-20000), 3) := by decide +kernel
theorem dX5_base_27 : decode cX5_base 27 = .ok (.sipush 20000, 3) := by decide +kernel
theorem dX5_base_30 : decode cX5_base 30 = .ok (.invokestatic 90, 3) := by decide +kernel
theorem dX5_base_33 : decode cX5_base 33 = .ok (.ifCond .ne 5, 3) := by decide +kernel
theorem dX5_base_36 : decode cX5_base 36 = .ok (.iconst 0, 1) := by decide +kernel
theorem dX5_base_37 : decode cX5_base 37 = .ok (.ireturn, 1) := by decide +kernel
theorem dX5_base_38 : decode cX5_base 38 = .ok (.aload_n 0, 1) := by decide +kernel
theorem dX5_base_39 : decode cX5_base 39 = .ok (.getfield 22, 3) := by decide +kernel
theorem dX5_base_42 : decode cX5_base 42 = .ok (.iconst 5, 1) := by decide +kernel
theorem dX5_base_43 : decode cX5_base 43 = .ok (.iload_n 1, 1) := by decide +kernel
theorem dX5_base_44 : decode cX5_base 44 = .ok (.imul, 1) := by decide +kernel
theorem dX5_base_45 : decode cX5_base 45 = .ok (.iload_n 2, 1) := by decide +kernel
theorem dX5_base_46 : decode cX5_base 46 = .ok (.iadd, 1) := by decide +kernel
theorem dX5_base_47 : decode cX5_base 47 = .ok (.iload_n 3, 1) := by decide +kernel
theorem dX5_base_48 : decode cX5_base 48 = .ok (.iastore, 1) := by decide +kernel
theorem dX5_base_49 : decode cX5_base 49 = .ok (.iconst 1, 1) := by decide +kernel
theorem dX5_base_50 : decode cX5_base 50 = .ok (.ireturn, 1) := by decide +kernel
theorem dX5_buy_0 : decode cX5_buy 0 = .ok (.iload_n 1, 1) := by decide +kernel
theorem dX5_buy_1 : decode cX5_buy 1 = .ok (.iconst 0, 1) := by decide +kernel
theorem dX5_buy_2 : decode cX5_buy 2 = .ok (.ldc 97, 2) := by decide +kernel
theorem dX5_buy_4 : decode cX5_buy 4 = .ok (.invokestatic 90, 3) := by decide +kernel
theorem dX5_buy_7 : decode cX5_buy 7 = .ok (.ifCond .eq 35, 3) := by decide +kernel
theorem dX5_buy_10 : decode cX5_buy 10 = .ok (.iload_n 2, 1) := by decide +kernel
theorem dX5_buy_11 : decode cX5_buy 11 = .ok (.iconst 0, 1) := by decide +kernel
theorem dX5_buy_12 : decode cX5_buy 12 = .ok (.ldc 97, 2) := by decide +kernel
theorem dX5_buy_14 : decode cX5_buy 14 = .ok (.invokestatic 90, 3) := by decide +kernel
theorem dX5_buy_17 : decode cX5_buy 17 = .ok (.ifCond .eq 25, 3) := by decide +kernel
theorem dX5_buy_20 : decode cX5_buy 20 = .ok (.aload_n 0, 1) := by decide +kernel
theorem dX5_buy_21 : decode cX5_buy 21 = .ok (.getfield 98, 3) := by decide +kernel
theorem dX5_buy_24 : decode cX5_buy 24 = .ok (.iload_n 1, 1) := by decide +kernel
theorem dX5_buy_25 : decode cX5_buy 25 = .ok (.iadd, 1) := by decide +kernel
theorem dX5_buy_26 : decode cX5_buy 26 = .ok (.ldc 101, 2) := by decide +kernel
theorem dX5_buy_28 : decode cX5_buy 28 = .ok (.if_icmp .gt 14, 3) := by decide +kernel
theorem dX5_buy_31 : decode cX5_buy 31 = .ok (.aload_n 0, 1) := by decide +kernel
theorem dX5_buy_32 : decode cX5_buy 32 = .ok (.getfield 102, 3) := by decide +kernel
theorem dX5_buy_35 : decode cX5_buy 35 = .ok (.iload_n 2, 1) := by decide +kernel
theorem dX5_buy_36 : decode cX5_buy 36 = .ok (.iadd, 1) := by decide +kernel
theorem dX5_buy_37 : decode cX5_buy 37 = .ok (.ldc 101, 2) := by decide +kernel
theorem dX5_buy_39 : decode cX5_buy 39 = .ok (.if_icmp .le 5, 3) := by decide +kernel
theorem dX5_buy_42 : decode cX5_buy 42 = .ok (.iconst 0, 1) := by decide +kernel
theorem dX5_buy_43 : decode cX5_buy 43 = .ok (.ireturn, 1) := by decide +kernel
theorem dX5_buy_44 : decode cX5_buy 44 = .ok (.aload_n 0, 1) := by decide +kernel
theorem dX5_buy_45 : decode cX5_buy 45 = .ok (.dup, 1) := by decide +kernel
theorem dX5_buy_46 : decode cX5_buy 46 = .ok (.getfield 98, 3) := by decide +kernel
theorem dX5_buy_49 : decode cX5_buy 49 = .ok (.iload_n 1, 1) := by decide +kernel
theorem dX5_buy_50 : decode cX5_buy 50 = .ok (.iadd, 1) := by decide +kernel
theorem dX5_buy_51 : decode cX5_buy 51 = .ok (.putfield 98, 3) := by decide +kernel
theorem dX5_buy_54 : decode cX5_buy 54 = .ok (.aload_n 0, 1) := by decide +kernel
theorem dX5_buy_55 : decode cX5_buy 55 = .ok (.dup, 1) := by decide +kernel
theorem dX5_buy_56 : decode cX5_buy 56 = .ok (.getfield 102, 3) := by decide +kernel
theorem dX5_buy_59 : decode cX5_buy 59 = .ok (.iload_n 2, 1) := by decide +kernel
theorem dX5_buy_60 : decode cX5_buy 60 = .ok (.iadd, 1) := by decide +kernel
theorem dX5_buy_61 : decode cX5_buy 61 = .ok (.putfield 102, 3) := by decide +kernel
theorem dX5_buy_64 : decode cX5_buy 64 = .ok (.iconst 1, 1) := by decide +kernel
theorem dX5_buy_65 : decode cX5_buy 65 = .ok (.ireturn, 1) := by decide +kernel
theorem dX5_weightOf_0 : decode cX5_weightOf 0 = .ok (.aload_n 0, 1) := by decide +kernel
theorem dX5_weightOf_1 : decode cX5_weightOf 1 = .ok (.getfield 31, 3) := by decide +kernel
theorem dX5_weightOf_4 : decode cX5_weightOf 4 = .ok (.iload_n 1, 1) := by decide +kernel
theorem dX5_weightOf_5 : decode cX5_weightOf 5 = .ok (.iaload, 1) := by decide +kernel
theorem dX5_weightOf_6 : decode cX5_weightOf 6 = .ok (.istore_n 2, 1) := by decide +kernel
theorem dX5_weightOf_7 : decode cX5_weightOf 7 = .ok (.bipush 8, 2) := by decide +kernel
theorem dX5_weightOf_9 : decode cX5_weightOf 9 = .ok (.iload_n 1, 1) := by decide +kernel
theorem dX5_weightOf_10 : decode cX5_weightOf 10 = .ok (.imul, 1) := by decide +kernel
theorem dX5_weightOf_11 : decode cX5_weightOf 11 = .ok (.istore_n 3, 1) := by decide +kernel
theorem dX5_weightOf_12 : decode cX5_weightOf 12 = .ok (.iload_n 3, 1) := by decide +kernel
theorem dX5_weightOf_13 : decode cX5_weightOf 13 = .ok (.bipush 8, 2) := by decide +kernel
theorem dX5_weightOf_15 : decode cX5_weightOf 15 = .ok (.iload_n 1, 1) := by decide +kernel
theorem dX5_weightOf_16 : decode cX5_weightOf 16 = .ok (.imul, 1) := by decide +kernel
theorem dX5_weightOf_17 : decode cX5_weightOf 17 = .ok (.bipush 8, 2) := by decide +kernel
theorem dX5_weightOf_19 : decode cX5_weightOf 19 = .ok (.iadd, 1) := by decide +kernel
theorem dX5_weightOf_20 : decode cX5_weightOf 20 = .ok (.if_icmp .ge 25, 3) := by decide +kernel
theorem dX5_weightOf_23 : decode cX5_weightOf 23 = .ok (.iload_n 2, 1) := by decide +kernel
theorem dX5_weightOf_24 : decode cX5_weightOf 24 = .ok (.aload_n 0, 1) := by decide +kernel
theorem dX5_weightOf_25 : decode cX5_weightOf 25 = .ok (.getfield 40, 3) := by decide +kernel
theorem dX5_weightOf_28 : decode cX5_weightOf 28 = .ok (.iload_n 3, 1) := by decide +kernel
theorem dX5_weightOf_29 : decode cX5_weightOf 29 = .ok (.iaload, 1) := by decide +kernel
theorem dX5_weightOf_30 : decode cX5_weightOf 30 = .ok (.aload_n 0, 1) := by decide +kernel
theorem dX5_weightOf_31 : decode cX5_weightOf 31 = .ok (.getfield 34, 3) := by decide +kernel
theorem dX5_weightOf_34 : decode cX5_weightOf 34 = .ok (.iload_n 3, 1) := by decide +kernel
theorem dX5_weightOf_35 : decode cX5_weightOf 35 = .ok (.iaload, 1) := by decide +kernel
theorem dX5_weightOf_36 : decode cX5_weightOf 36 = .ok (.imul, 1) := by decide +kernel
theorem dX5_weightOf_37 : decode cX5_weightOf 37 = .ok (.iadd, 1) := by decide +kernel
theorem dX5_weightOf_38 : decode cX5_weightOf 38 = .ok (.istore_n 2, 1) := by decide +kernel
theorem dX5_weightOf_39 : decode cX5_weightOf 39 = .ok (.iinc 3 1, 3) := by decide +kernel
theorem dX5_weightOf_42 : decode cX5_weightOf 42 = .ok (.goto (-30), 3) := by decide +kernel
theorem dX5_weightOf_45 : decode cX5_weightOf 45 = .ok (.iload_n 2, 1) := by decide +kernel
theorem dX5_weightOf_46 : decode cX5_weightOf 46 = .ok (.ireturn, 1) := by decide +kernel
theorem dX5_partOf_0 : decode cX5_partOf 0 = .ok (.aload_n 0, 1) := by decide +kernel
theorem dX5_partOf_1 : decode cX5_partOf 1 = .ok (.getfield 43, 3) := by decide +kernel
theorem dX5_partOf_4 : decode cX5_partOf 4 = .ok (.iconst 5, 1) := by decide +kernel
theorem dX5_partOf_5 : decode cX5_partOf 5 = .ok (.iload_n 1, 1) := by decide +kernel
theorem dX5_partOf_6 : decode cX5_partOf 6 = .ok (.imul, 1) := by decide +kernel
theorem dX5_partOf_7 : decode cX5_partOf 7 = .ok (.iload_n 2, 1) := by decide +kernel
theorem dX5_partOf_8 : decode cX5_partOf 8 = .ok (.iadd, 1) := by decide +kernel
theorem dX5_partOf_9 : decode cX5_partOf 9 = .ok (.iaload, 1) := by decide +kernel
theorem dX5_partOf_10 : decode cX5_partOf 10 = .ok (.istore_n 3, 1) := by decide +kernel
theorem dX5_partOf_11 : decode cX5_partOf 11 = .ok (.iconst 0, 1) := by decide +kernel
theorem dX5_partOf_12 : decode cX5_partOf 12 = .ok (.istore 4, 2) := by decide +kernel
theorem dX5_partOf_14 : decode cX5_partOf 14 = .ok (.iload 4, 2) := by decide +kernel
theorem dX5_partOf_16 : decode cX5_partOf 16 = .ok (.bipush 8, 2) := by decide +kernel
theorem dX5_partOf_18 : decode cX5_partOf 18 = .ok (.if_icmp .ge 42, 3) := by decide +kernel
theorem dX5_partOf_21 : decode cX5_partOf 21 = .ok (.iload_n 3, 1) := by decide +kernel
theorem dX5_partOf_22 : decode cX5_partOf 22 = .ok (.aload_n 0, 1) := by decide +kernel
theorem dX5_partOf_23 : decode cX5_partOf 23 = .ok (.getfield 46, 3) := by decide +kernel
theorem dX5_partOf_26 : decode cX5_partOf 26 = .ok (.bipush 40, 2) := by decide +kernel
theorem dX5_partOf_28 : decode cX5_partOf 28 = .ok (.iload_n 1, 1) := by decide +kernel
theorem dX5_partOf_29 : decode cX5_partOf 29 = .ok (.imul, 1) := by decide +kernel
theorem dX5_partOf_30 : decode cX5_partOf 30 = .ok (.bipush 8, 2) := by decide +kernel
theorem dX5_partOf_32 : decode cX5_partOf 32 = .ok (.iload_n 2, 1) := by decide +kernel
theorem dX5_partOf_33 : decode cX5_partOf 33 = .ok (.imul, 1) := by decide +kernel
theorem dX5_partOf_34 : decode cX5_partOf 34 = .ok (.iadd, 1) := by decide +kernel
theorem dX5_partOf_35 : decode cX5_partOf 35 = .ok (.iload 4, 2) := by decide +kernel
theorem dX5_partOf_37 : decode cX5_partOf 37 = .ok (.iadd, 1) := by decide +kernel
theorem dX5_partOf_38 : decode cX5_partOf 38 = .ok (.iaload, 1) := by decide +kernel
theorem dX5_partOf_39 : decode cX5_partOf 39 = .ok (.aload_n 0, 1) := by decide +kernel
theorem dX5_partOf_40 : decode cX5_partOf 40 = .ok (.getfield 34, 3) := by decide +kernel
theorem dX5_partOf_43 : decode cX5_partOf 43 = .ok (.bipush 8, 2) := by decide +kernel
theorem dX5_partOf_45 : decode cX5_partOf 45 = .ok (.iload_n 1, 1) := by decide +kernel
theorem dX5_partOf_46 : decode cX5_partOf 46 = .ok (.imul, 1) := by decide +kernel
theorem dX5_partOf_47 : decode cX5_partOf 47 = .ok (.iload 4, 2) := by decide +kernel
theorem dX5_partOf_49 : decode cX5_partOf 49 = .ok (.iadd, 1) := by decide +kernel
theorem dX5_partOf_50 : decode cX5_partOf 50 = .ok (.iaload, 1) := by decide +kernel
theorem dX5_partOf_51 : decode cX5_partOf 51 = .ok (.imul, 1) := by decide +kernel
theorem dX5_partOf_52 : decode cX5_partOf 52 = .ok (.iadd, 1) := by decide +kernel
theorem dX5_partOf_53 : decode cX5_partOf 53 = .ok (.istore_n 3, 1) := by decide +kernel
theorem dX5_partOf_54 : decode cX5_partOf 54 = .ok (.iinc 4 1, 3) := by decide +kernel
theorem dX5_partOf_57 : decode cX5_partOf 57 = .ok (.goto (-43), 3) := by decide +kernel
theorem dX5_partOf_60 : decode cX5_partOf 60 = .ok (.iload_n 3, 1) := by decide +kernel
theorem dX5_partOf_61 : decode cX5_partOf 61 = .ok (.ireturn, 1) := by decide +kernel
theorem dX5_cast_0 : decode cX5_cast 0 = .ok (.iload_n 1, 1) := by decide +kernel
theorem dX5_cast_1 : decode cX5_cast 1 = .ok (.iconst 0, 1) := by decide +kernel
theorem dX5_cast_2 : decode cX5_cast 2 = .ok (.aload_n 0, 1) := by decide +kernel
theorem dX5_cast_3 : decode cX5_cast 3 = .ok (.getfield 94, 3) := by decide +kernel
theorem dX5_cast_6 : decode cX5_cast 6 = .ok (.iconst 1, 1) := by decide +kernel
theorem dX5_cast_7 : decode cX5_cast 7 = .ok (.isub, 1) := by decide +kernel
theorem dX5_cast_8 : decode cX5_cast 8 = .ok (.invokestatic 90, 3) := by decide +kernel
theorem dX5_cast_11 : decode cX5_cast 11 = .ok (.ifCond .eq 12, 3) := by decide +kernel
theorem dX5_cast_14 : decode cX5_cast 14 = .ok (.aload_n 0, 1) := by decide +kernel
theorem dX5_cast_15 : decode cX5_cast 15 = .ok (.getfield 86, 3) := by decide +kernel
theorem dX5_cast_18 : decode cX5_cast 18 = .ok (.bipush 24, 2) := by decide +kernel
theorem dX5_cast_20 : decode cX5_cast 20 = .ok (.if_icmp .ne 5, 3) := by decide +kernel
theorem dX5_cast_23 : decode cX5_cast 23 = .ok (.iconst (-1), 1) := by decide +kernel
theorem dX5_cast_24 : decode cX5_cast 24 = .ok (.ireturn, 1) := by decide +kernel
theorem dX5_cast_25 : decode cX5_cast 25 = .ok (.aload_n 0, 1) := by decide +kernel
theorem dX5_cast_26 : decode cX5_cast 26 = .ok (.getfield 7, 3) := by decide +kernel
theorem dX5_cast_29 : decode cX5_cast 29 = .ok (.iload_n 1, 1) := by decide +kernel
theorem dX5_cast_30 : decode cX5_cast 30 = .ok (.iaload, 1) := by decide +kernel
theorem dX5_cast_31 : decode cX5_cast 31 = .ok (.istore_n 2, 1) := by decide +kernel
theorem dX5_cast_32 : decode cX5_cast 32 = .ok (.bipush 8, 2) := by decide +kernel
theorem dX5_cast_34 : decode cX5_cast 34 = .ok (.iload_n 1, 1) := by decide +kernel
theorem dX5_cast_35 : decode cX5_cast 35 = .ok (.imul, 1) := by decide +kernel
theorem dX5_cast_36 : decode cX5_cast 36 = .ok (.istore_n 3, 1) := by decide +kernel
theorem dX5_cast_37 : decode cX5_cast 37 = .ok (.iload_n 3, 1) := by decide +kernel
theorem dX5_cast_38 : decode cX5_cast 38 = .ok (.bipush 8, 2) := by decide +kernel
theorem dX5_cast_40 : decode cX5_cast 40 = .ok (.iload_n 1, 1) := by decide +kernel
theorem dX5_cast_41 : decode cX5_cast 41 = .ok (.imul, 1) := by decide +kernel
theorem dX5_cast_42 : decode cX5_cast 42 = .ok (.bipush 8, 2) := by decide +kernel
theorem dX5_cast_44 : decode cX5_cast 44 = .ok (.iadd, 1) := by decide +kernel
theorem dX5_cast_45 : decode cX5_cast 45 = .ok (.if_icmp .ge 25, 3) := by decide +kernel
theorem dX5_cast_48 : decode cX5_cast 48 = .ok (.iload_n 2, 1) := by decide +kernel
theorem dX5_cast_49 : decode cX5_cast 49 = .ok (.aload_n 0, 1) := by decide +kernel
theorem dX5_cast_50 : decode cX5_cast 50 = .ok (.getfield 19, 3) := by decide +kernel
theorem dX5_cast_53 : decode cX5_cast 53 = .ok (.iload_n 3, 1) := by decide +kernel
theorem dX5_cast_54 : decode cX5_cast 54 = .ok (.iaload, 1) := by decide +kernel
theorem dX5_cast_55 : decode cX5_cast 55 = .ok (.aload_n 0, 1) := by decide +kernel
theorem dX5_cast_56 : decode cX5_cast 56 = .ok (.getfield 13, 3) := by decide +kernel
theorem dX5_cast_59 : decode cX5_cast 59 = .ok (.iload_n 3, 1) := by decide +kernel
theorem dX5_cast_60 : decode cX5_cast 60 = .ok (.iaload, 1) := by decide +kernel
theorem dX5_cast_61 : decode cX5_cast 61 = .ok (.imul, 1) := by decide +kernel
theorem dX5_cast_62 : decode cX5_cast 62 = .ok (.iadd, 1) := by decide +kernel
theorem dX5_cast_63 : decode cX5_cast 63 = .ok (.istore_n 2, 1) := by decide +kernel
theorem dX5_cast_64 : decode cX5_cast 64 = .ok (.iinc 3 1, 3) := by decide +kernel
theorem dX5_cast_67 : decode cX5_cast 67 = .ok (.goto (-30), 3) := by decide +kernel
theorem dX5_cast_70 : decode cX5_cast 70 = .ok (.iload_n 2, 1) := by decide +kernel
theorem dX5_cast_71 : decode cX5_cast 71 = .ok (.aload_n 0, 1) := by decide +kernel
theorem dX5_cast_72 : decode cX5_cast 72 = .ok (.getfield 105, 3) := by decide +kernel
theorem dX5_cast_75 : decode cX5_cast 75 = .ok (.if_icmp .ge 7, 3) := by decide +kernel
theorem dX5_cast_78 : decode cX5_cast 78 = .ok (.iload_n 2, 1) := by decide +kernel
theorem dX5_cast_79 : decode cX5_cast 79 = .ok (.goto 7, 3) := by decide +kernel
theorem dX5_cast_82 : decode cX5_cast 82 = .ok (.aload_n 0, 1) := by decide +kernel
theorem dX5_cast_83 : decode cX5_cast 83 = .ok (.getfield 105, 3) := by decide +kernel
theorem dX5_cast_86 : decode cX5_cast 86 = .ok (.istore_n 3, 1) := by decide +kernel
theorem dX5_cast_87 : decode cX5_cast 87 = .ok (.iload_n 2, 1) := by decide +kernel
theorem dX5_cast_88 : decode cX5_cast 88 = .ok (.iload_n 3, 1) := by decide +kernel
theorem dX5_cast_89 : decode cX5_cast 89 = .ok (.isub, 1) := by decide +kernel
theorem dX5_cast_90 : decode cX5_cast 90 = .ok (.istore 4, 2) := by decide +kernel
theorem dX5_cast_92 : decode cX5_cast 92 = .ok (.bipush 77, 2) := by decide +kernel
theorem dX5_cast_94 : decode cX5_cast 94 = .ok (.iload 4, 2) := by decide +kernel
theorem dX5_cast_96 : decode cX5_cast 96 = .ok (.imul, 1) := by decide +kernel
theorem dX5_cast_97 : decode cX5_cast 97 = .ok (.bipush 99, 2) := by decide +kernel
theorem dX5_cast_99 : decode cX5_cast 99 = .ok (.iadd, 1) := by decide +kernel
theorem dX5_cast_100 : decode cX5_cast 100 = .ok (.bipush 100, 2) := by decide +kernel
theorem dX5_cast_102 : decode cX5_cast 102 = .ok (.idiv, 1) := by decide +kernel
theorem dX5_cast_103 : decode cX5_cast 103 = .ok (.istore 5, 2) := by decide +kernel
theorem dX5_cast_105 : decode cX5_cast 105 = .ok (.iload 5, 2) := by decide +kernel
theorem dX5_cast_107 : decode cX5_cast 107 = .ok (.aload_n 0, 1) := by decide +kernel
theorem dX5_cast_108 : decode cX5_cast 108 = .ok (.getfield 98, 3) := by decide +kernel
theorem dX5_cast_111 : decode cX5_cast 111 = .ok (.if_icmp .gt 15, 3) := by decide +kernel
theorem dX5_cast_114 : decode cX5_cast 114 = .ok (.iload 4, 2) := by decide +kernel
theorem dX5_cast_116 : decode cX5_cast 116 = .ok (.iload 5, 2) := by decide +kernel
theorem dX5_cast_118 : decode cX5_cast 118 = .ok (.isub, 1) := by decide +kernel
theorem dX5_cast_119 : decode cX5_cast 119 = .ok (.aload_n 0, 1) := by decide +kernel
theorem dX5_cast_120 : decode cX5_cast 120 = .ok (.getfield 102, 3) := by decide +kernel
theorem dX5_cast_123 : decode cX5_cast 123 = .ok (.if_icmp .le 5, 3) := by decide +kernel
theorem dX5_cast_126 : decode cX5_cast 126 = .ok (.iconst (-1), 1) := by decide +kernel
theorem dX5_cast_127 : decode cX5_cast 127 = .ok (.ireturn, 1) := by decide +kernel
theorem dX5_cast_128 : decode cX5_cast 128 = .ok (.aload_n 0, 1) := by decide +kernel
theorem dX5_cast_129 : decode cX5_cast 129 = .ok (.dup, 1) := by decide +kernel
theorem dX5_cast_130 : decode cX5_cast 130 = .ok (.getfield 105, 3) := by decide +kernel
theorem dX5_cast_133 : decode cX5_cast 133 = .ok (.iload_n 3, 1) := by decide +kernel
theorem dX5_cast_134 : decode cX5_cast 134 = .ok (.isub, 1) := by decide +kernel
theorem dX5_cast_135 : decode cX5_cast 135 = .ok (.putfield 105, 3) := by decide +kernel
theorem dX5_cast_138 : decode cX5_cast 138 = .ok (.aload_n 0, 1) := by decide +kernel
theorem dX5_cast_139 : decode cX5_cast 139 = .ok (.dup, 1) := by decide +kernel
theorem dX5_cast_140 : decode cX5_cast 140 = .ok (.getfield 98, 3) := by decide +kernel
theorem dX5_cast_143 : decode cX5_cast 143 = .ok (.iload 5, 2) := by decide +kernel
theorem dX5_cast_145 : decode cX5_cast 145 = .ok (.isub, 1) := by decide +kernel
theorem dX5_cast_146 : decode cX5_cast 146 = .ok (.putfield 98, 3) := by decide +kernel
theorem dX5_cast_149 : decode cX5_cast 149 = .ok (.aload_n 0, 1) := by decide +kernel
theorem dX5_cast_150 : decode cX5_cast 150 = .ok (.dup, 1) := by decide +kernel
theorem dX5_cast_151 : decode cX5_cast 151 = .ok (.getfield 102, 3) := by decide +kernel
theorem dX5_cast_154 : decode cX5_cast 154 = .ok (.iload 4, 2) := by decide +kernel
theorem dX5_cast_156 : decode cX5_cast 156 = .ok (.iload 5, 2) := by decide +kernel
theorem dX5_cast_158 : decode cX5_cast 158 = .ok (.isub, 1) := by decide +kernel
theorem dX5_cast_159 : decode cX5_cast 159 = .ok (.isub, 1) := by decide +kernel
theorem dX5_cast_160 : decode cX5_cast 160 = .ok (.putfield 102, 3) := by decide +kernel
theorem dX5_cast_163 : decode cX5_cast 163 = .ok (.aload_n 0, 1) := by decide +kernel
theorem dX5_cast_164 : decode cX5_cast 164 = .ok (.getfield 86, 3) := by decide +kernel
theorem dX5_cast_167 : decode cX5_cast 167 = .ok (.istore 6, 2) := by decide +kernel
theorem dX5_cast_169 : decode cX5_cast 169 = .ok (.aload_n 0, 1) := by decide +kernel
theorem dX5_cast_170 : decode cX5_cast 170 = .ok (.dup, 1) := by decide +kernel
theorem dX5_cast_171 : decode cX5_cast 171 = .ok (.getfield 86, 3) := by decide +kernel
theorem dX5_cast_174 : decode cX5_cast 174 = .ok (.iconst 1, 1) := by decide +kernel
theorem dX5_cast_175 : decode cX5_cast 175 = .ok (.iadd, 1) := by decide +kernel
theorem dX5_cast_176 : decode cX5_cast 176 = .ok (.putfield 86, 3) := by decide +kernel
theorem dX5_cast_179 : decode cX5_cast 179 = .ok (.aload_n 0, 1) := by decide +kernel
theorem dX5_cast_180 : decode cX5_cast 180 = .ok (.getfield 28, 3) := by decide +kernel
theorem dX5_cast_183 : decode cX5_cast 183 = .ok (.iload 6, 2) := by decide +kernel
theorem dX5_cast_185 : decode cX5_cast 185 = .ok (.iload_n 1, 1) := by decide +kernel
theorem dX5_cast_186 : decode cX5_cast 186 = .ok (.iastore, 1) := by decide +kernel
theorem dX5_cast_187 : decode cX5_cast 187 = .ok (.aload_n 0, 1) := by decide +kernel
theorem dX5_cast_188 : decode cX5_cast 188 = .ok (.getfield 31, 3) := by decide +kernel
theorem dX5_cast_191 : decode cX5_cast 191 = .ok (.iload 6, 2) := by decide +kernel
theorem dX5_cast_193 : decode cX5_cast 193 = .ok (.aload_n 0, 1) := by decide +kernel
theorem dX5_cast_194 : decode cX5_cast 194 = .ok (.getfield 7, 3) := by decide +kernel
theorem dX5_cast_197 : decode cX5_cast 197 = .ok (.iload_n 1, 1) := by decide +kernel
theorem dX5_cast_198 : decode cX5_cast 198 = .ok (.iaload, 1) := by decide +kernel
theorem dX5_cast_199 : decode cX5_cast 199 = .ok (.iastore, 1) := by decide +kernel
theorem dX5_cast_200 : decode cX5_cast 200 = .ok (.iconst 0, 1) := by decide +kernel
theorem dX5_cast_201 : decode cX5_cast 201 = .ok (.istore 7, 2) := by decide +kernel
theorem dX5_cast_203 : decode cX5_cast 203 = .ok (.iload 7, 2) := by decide +kernel
theorem dX5_cast_205 : decode cX5_cast 205 = .ok (.bipush 8, 2) := by decide +kernel
theorem dX5_cast_207 : decode cX5_cast 207 = .ok (.if_icmp .ge 84, 3) := by decide +kernel
theorem dX5_cast_210 : decode cX5_cast 210 = .ok (.aload_n 0, 1) := by decide +kernel
theorem dX5_cast_211 : decode cX5_cast 211 = .ok (.getfield 34, 3) := by decide +kernel
theorem dX5_cast_214 : decode cX5_cast 214 = .ok (.bipush 8, 2) := by decide +kernel
theorem dX5_cast_216 : decode cX5_cast 216 = .ok (.iload 6, 2) := by decide +kernel
theorem dX5_cast_218 : decode cX5_cast 218 = .ok (.imul, 1) := by decide +kernel
theorem dX5_cast_219 : decode cX5_cast 219 = .ok (.iload 7, 2) := by decide +kernel
theorem dX5_cast_221 : decode cX5_cast 221 = .ok (.iadd, 1) := by decide +kernel
theorem dX5_cast_222 : decode cX5_cast 222 = .ok (.aload_n 0, 1) := by decide +kernel
theorem dX5_cast_223 : decode cX5_cast 223 = .ok (.getfield 13, 3) := by decide +kernel
theorem dX5_cast_226 : decode cX5_cast 226 = .ok (.bipush 8, 2) := by decide +kernel
theorem dX5_cast_228 : decode cX5_cast 228 = .ok (.iload_n 1, 1) := by decide +kernel
theorem dX5_cast_229 : decode cX5_cast 229 = .ok (.imul, 1) := by decide +kernel
theorem dX5_cast_230 : decode cX5_cast 230 = .ok (.iload 7, 2) := by decide +kernel
theorem dX5_cast_232 : decode cX5_cast 232 = .ok (.iadd, 1) := by decide +kernel
theorem dX5_cast_233 : decode cX5_cast 233 = .ok (.iaload, 1) := by decide +kernel
theorem dX5_cast_234 : decode cX5_cast 234 = .ok (.iastore, 1) := by decide +kernel
theorem dX5_cast_235 : decode cX5_cast 235 = .ok (.aload_n 0, 1) := by decide +kernel
theorem dX5_cast_236 : decode cX5_cast 236 = .ok (.getfield 37, 3) := by decide +kernel
theorem dX5_cast_239 : decode cX5_cast 239 = .ok (.bipush 8, 2) := by decide +kernel
theorem dX5_cast_241 : decode cX5_cast 241 = .ok (.iload 6, 2) := by decide +kernel
theorem dX5_cast_243 : decode cX5_cast 243 = .ok (.imul, 1) := by decide +kernel
theorem dX5_cast_244 : decode cX5_cast 244 = .ok (.iload 7, 2) := by decide +kernel
theorem dX5_cast_246 : decode cX5_cast 246 = .ok (.iadd, 1) := by decide +kernel
theorem dX5_cast_247 : decode cX5_cast 247 = .ok (.aload_n 0, 1) := by decide +kernel
theorem dX5_cast_248 : decode cX5_cast 248 = .ok (.getfield 16, 3) := by decide +kernel
theorem dX5_cast_251 : decode cX5_cast 251 = .ok (.bipush 8, 2) := by decide +kernel
theorem dX5_cast_253 : decode cX5_cast 253 = .ok (.iload_n 1, 1) := by decide +kernel
theorem dX5_cast_254 : decode cX5_cast 254 = .ok (.imul, 1) := by decide +kernel
theorem dX5_cast_255 : decode cX5_cast 255 = .ok (.iload 7, 2) := by decide +kernel
theorem dX5_cast_257 : decode cX5_cast 257 = .ok (.iadd, 1) := by decide +kernel
theorem dX5_cast_258 : decode cX5_cast 258 = .ok (.iaload, 1) := by decide +kernel
theorem dX5_cast_259 : decode cX5_cast 259 = .ok (.iastore, 1) := by decide +kernel
theorem dX5_cast_260 : decode cX5_cast 260 = .ok (.aload_n 0, 1) := by decide +kernel
theorem dX5_cast_261 : decode cX5_cast 261 = .ok (.getfield 40, 3) := by decide +kernel
theorem dX5_cast_264 : decode cX5_cast 264 = .ok (.bipush 8, 2) := by decide +kernel
theorem dX5_cast_266 : decode cX5_cast 266 = .ok (.iload 6, 2) := by decide +kernel
theorem dX5_cast_268 : decode cX5_cast 268 = .ok (.imul, 1) := by decide +kernel
theorem dX5_cast_269 : decode cX5_cast 269 = .ok (.iload 7, 2) := by decide +kernel
theorem dX5_cast_271 : decode cX5_cast 271 = .ok (.iadd, 1) := by decide +kernel
theorem dX5_cast_272 : decode cX5_cast 272 = .ok (.aload_n 0, 1) := by decide +kernel
theorem dX5_cast_273 : decode cX5_cast 273 = .ok (.getfield 19, 3) := by decide +kernel
theorem dX5_cast_276 : decode cX5_cast 276 = .ok (.bipush 8, 2) := by decide +kernel
theorem dX5_cast_278 : decode cX5_cast 278 = .ok (.iload_n 1, 1) := by decide +kernel
theorem dX5_cast_279 : decode cX5_cast 279 = .ok (.imul, 1) := by decide +kernel
theorem dX5_cast_280 : decode cX5_cast 280 = .ok (.iload 7, 2) := by decide +kernel
theorem dX5_cast_282 : decode cX5_cast 282 = .ok (.iadd, 1) := by decide +kernel
theorem dX5_cast_283 : decode cX5_cast 283 = .ok (.iaload, 1) := by decide +kernel
theorem dX5_cast_284 : decode cX5_cast 284 = .ok (.iastore, 1) := by decide +kernel
theorem dX5_cast_285 : decode cX5_cast 285 = .ok (.iinc 7 1, 3) := by decide +kernel
theorem dX5_cast_288 : decode cX5_cast 288 = .ok (.goto (-85), 3) := by decide +kernel
theorem dX5_cast_291 : decode cX5_cast 291 = .ok (.iconst 0, 1) := by decide +kernel
theorem dX5_cast_292 : decode cX5_cast 292 = .ok (.istore 7, 2) := by decide +kernel
theorem dX5_cast_294 : decode cX5_cast 294 = .ok (.iload 7, 2) := by decide +kernel
theorem dX5_cast_296 : decode cX5_cast 296 = .ok (.iconst 5, 1) := by decide +kernel
theorem dX5_cast_297 : decode cX5_cast 297 = .ok (.if_icmp .ge 32, 3) := by decide +kernel
theorem dX5_cast_300 : decode cX5_cast 300 = .ok (.aload_n 0, 1) := by decide +kernel
theorem dX5_cast_301 : decode cX5_cast 301 = .ok (.getfield 43, 3) := by decide +kernel
theorem dX5_cast_304 : decode cX5_cast 304 = .ok (.iconst 5, 1) := by decide +kernel
theorem dX5_cast_305 : decode cX5_cast 305 = .ok (.iload 6, 2) := by decide +kernel
theorem dX5_cast_307 : decode cX5_cast 307 = .ok (.imul, 1) := by decide +kernel
theorem dX5_cast_308 : decode cX5_cast 308 = .ok (.iload 7, 2) := by decide +kernel
theorem dX5_cast_310 : decode cX5_cast 310 = .ok (.iadd, 1) := by decide +kernel
theorem dX5_cast_311 : decode cX5_cast 311 = .ok (.aload_n 0, 1) := by decide +kernel
theorem dX5_cast_312 : decode cX5_cast 312 = .ok (.getfield 22, 3) := by decide +kernel
theorem dX5_cast_315 : decode cX5_cast 315 = .ok (.iconst 5, 1) := by decide +kernel
theorem dX5_cast_316 : decode cX5_cast 316 = .ok (.iload_n 1, 1) := by decide +kernel
theorem dX5_cast_317 : decode cX5_cast 317 = .ok (.imul, 1) := by decide +kernel
theorem dX5_cast_318 : decode cX5_cast 318 = .ok (.iload 7, 2) := by decide +kernel
theorem dX5_cast_320 : decode cX5_cast 320 = .ok (.iadd, 1) := by decide +kernel
theorem dX5_cast_321 : decode cX5_cast 321 = .ok (.iaload, 1) := by decide +kernel
theorem dX5_cast_322 : decode cX5_cast 322 = .ok (.iastore, 1) := by decide +kernel
theorem dX5_cast_323 : decode cX5_cast 323 = .ok (.iinc 7 1, 3) := by decide +kernel
theorem dX5_cast_326 : decode cX5_cast 326 = .ok (.goto (-32), 3) := by decide +kernel
theorem dX5_cast_329 : decode cX5_cast 329 = .ok (.iconst 0, 1) := by decide +kernel
theorem dX5_cast_330 : decode cX5_cast 330 = .ok (.istore 7, 2) := by decide +kernel
theorem dX5_cast_332 : decode cX5_cast 332 = .ok (.iload 7, 2) := by decide +kernel
theorem dX5_cast_334 : decode cX5_cast 334 = .ok (.bipush 40, 2) := by decide +kernel
theorem dX5_cast_336 : decode cX5_cast 336 = .ok (.if_icmp .ge 34, 3) := by decide +kernel
theorem dX5_cast_339 : decode cX5_cast 339 = .ok (.aload_n 0, 1) := by decide +kernel
theorem dX5_cast_340 : decode cX5_cast 340 = .ok (.getfield 46, 3) := by decide +kernel
theorem dX5_cast_343 : decode cX5_cast 343 = .ok (.bipush 40, 2) := by decide +kernel
theorem dX5_cast_345 : decode cX5_cast 345 = .ok (.iload 6, 2) := by decide +kernel
theorem dX5_cast_347 : decode cX5_cast 347 = .ok (.imul, 1) := by decide +kernel
theorem dX5_cast_348 : decode cX5_cast 348 = .ok (.iload 7, 2) := by decide +kernel
theorem dX5_cast_350 : decode cX5_cast 350 = .ok (.iadd, 1) := by decide +kernel
theorem dX5_cast_351 : decode cX5_cast 351 = .ok (.aload_n 0, 1) := by decide +kernel
theorem dX5_cast_352 : decode cX5_cast 352 = .ok (.getfield 25, 3) := by decide +kernel
theorem dX5_cast_355 : decode cX5_cast 355 = .ok (.bipush 40, 2) := by decide +kernel
theorem dX5_cast_357 : decode cX5_cast 357 = .ok (.iload_n 1, 1) := by decide +kernel
theorem dX5_cast_358 : decode cX5_cast 358 = .ok (.imul, 1) := by decide +kernel
theorem dX5_cast_359 : decode cX5_cast 359 = .ok (.iload 7, 2) := by decide +kernel
theorem dX5_cast_361 : decode cX5_cast 361 = .ok (.iadd, 1) := by decide +kernel
theorem dX5_cast_362 : decode cX5_cast 362 = .ok (.iaload, 1) := by decide +kernel
theorem dX5_cast_363 : decode cX5_cast 363 = .ok (.iastore, 1) := by decide +kernel
theorem dX5_cast_364 : decode cX5_cast 364 = .ok (.iinc 7 1, 3) := by decide +kernel
theorem dX5_cast_367 : decode cX5_cast 367 = .ok (.goto (-35), 3) := by decide +kernel
theorem dX5_cast_370 : decode cX5_cast 370 = .ok (.aload_n 0, 1) := by decide +kernel
theorem dX5_cast_371 : decode cX5_cast 371 = .ok (.getfield 56, 3) := by decide +kernel
theorem dX5_cast_374 : decode cX5_cast 374 = .ok (.iload 6, 2) := by decide +kernel
theorem dX5_cast_376 : decode cX5_cast 376 = .ok (.iconst (-1), 1) := by decide +kernel
theorem dX5_cast_377 : decode cX5_cast 377 = .ok (.iastore, 1) := by decide +kernel
theorem dX5_cast_378 : decode cX5_cast 378 = .ok (.iload 6, 2) := by decide +kernel
theorem dX5_cast_380 : decode cX5_cast 380 = .ok (.ireturn, 1) := by decide +kernel
theorem dX5_canCut_0 : decode cX5_canCut 0 = .ok (.aload_n 0, 1) := by decide +kernel
theorem dX5_canCut_1 : decode cX5_canCut 1 = .ok (.iload_n 1, 1) := by decide +kernel
theorem dX5_canCut_2 : decode cX5_canCut 2 = .ok (.invokevirtual 108, 3) := by decide +kernel
theorem dX5_canCut_5 : decode cX5_canCut 5 = .ok (.ifCond .eq 25, 3) := by decide +kernel
theorem dX5_canCut_8 : decode cX5_canCut 8 = .ok (.aload_n 0, 1) := by decide +kernel
theorem dX5_canCut_9 : decode cX5_canCut 9 = .ok (.getfield 49, 3) := by decide +kernel
theorem dX5_canCut_12 : decode cX5_canCut 12 = .ok (.iload_n 1, 1) := by decide +kernel
theorem dX5_canCut_13 : decode cX5_canCut 13 = .ok (.baload, 1) := by decide +kernel
theorem dX5_canCut_14 : decode cX5_canCut 14 = .ok (.ifCond .ne 16, 3) := by decide +kernel
theorem dX5_canCut_17 : decode cX5_canCut 17 = .ok (.aload_n 0, 1) := by decide +kernel
theorem dX5_canCut_18 : decode cX5_canCut 18 = .ok (.getfield 53, 3) := by decide +kernel
theorem dX5_canCut_21 : decode cX5_canCut 21 = .ok (.iload_n 1, 1) := by decide +kernel
theorem dX5_canCut_22 : decode cX5_canCut 22 = .ok (.baload, 1) := by decide +kernel
theorem dX5_canCut_23 : decode cX5_canCut 23 = .ok (.ifCond .ne 7, 3) := by decide +kernel
theorem dX5_canCut_26 : decode cX5_canCut 26 = .ok (.iconst 1, 1) := by decide +kernel
theorem dX5_canCut_27 : decode cX5_canCut 27 = .ok (.goto 4, 3) := by decide +kernel
theorem dX5_canCut_30 : decode cX5_canCut 30 = .ok (.iconst 0, 1) := by decide +kernel
theorem dX5_canCut_31 : decode cX5_canCut 31 = .ok (.ireturn, 1) := by decide +kernel
theorem dX5_cut_0 : decode cX5_cut 0 = .ok (.aload_n 0, 1) := by decide +kernel
theorem dX5_cut_1 : decode cX5_cut 1 = .ok (.iload_n 1, 1) := by decide +kernel
theorem dX5_cut_2 : decode cX5_cut 2 = .ok (.invokevirtual 112, 3) := by decide +kernel
theorem dX5_cut_5 : decode cX5_cut 5 = .ok (.ifCond .eq 38, 3) := by decide +kernel
theorem dX5_cut_8 : decode cX5_cut 8 = .ok (.iload_n 2, 1) := by decide +kernel
theorem dX5_cut_9 : decode cX5_cut 9 = .ok (.iconst 0, 1) := by decide +kernel
theorem dX5_cut_10 : decode cX5_cut 10 = .ok (.bipush 7, 2) := by decide +kernel
theorem dX5_cut_12 : decode cX5_cut 12 = .ok (.invokestatic 90, 3) := by decide +kernel
theorem dX5_cut_15 : decode cX5_cut 15 = .ok (.ifCond .eq 28, 3) := by decide +kernel
theorem dX5_cut_18 : decode cX5_cut 18 = .ok (.aload_n 0, 1) := by decide +kernel
theorem dX5_cut_19 : decode cX5_cut 19 = .ok (.getfield 34, 3) := by decide +kernel
theorem dX5_cut_22 : decode cX5_cut 22 = .ok (.bipush 8, 2) := by decide +kernel
theorem dX5_cut_24 : decode cX5_cut 24 = .ok (.iload_n 1, 1) := by decide +kernel
theorem dX5_cut_25 : decode cX5_cut 25 = .ok (.imul, 1) := by decide +kernel
theorem dX5_cut_26 : decode cX5_cut 26 = .ok (.iload_n 2, 1) := by decide +kernel
theorem dX5_cut_27 : decode cX5_cut 27 = .ok (.iadd, 1) := by decide +kernel
theorem dX5_cut_28 : decode cX5_cut 28 = .ok (.iaload, 1) := by decide +kernel
theorem dX5_cut_29 : decode cX5_cut 29 = .ok (.aload_n 0, 1) := by decide +kernel
theorem dX5_cut_30 : decode cX5_cut 30 = .ok (.getfield 37, 3) := by decide +kernel
theorem dX5_cut_33 : decode cX5_cut 33 = .ok (.bipush 8, 2) := by decide +kernel
theorem dX5_cut_35 : decode cX5_cut 35 = .ok (.iload_n 1, 1) := by decide +kernel
theorem dX5_cut_36 : decode cX5_cut 36 = .ok (.imul, 1) := by decide +kernel
theorem dX5_cut_37 : decode cX5_cut 37 = .ok (.iload_n 2, 1) := by decide +kernel
theorem dX5_cut_38 : decode cX5_cut 38 = .ok (.iadd, 1) := by decide +kernel
theorem dX5_cut_39 : decode cX5_cut 39 = .ok (.iaload, 1) := by decide +kernel
theorem dX5_cut_40 : decode cX5_cut 40 = .ok (.if_icmp .ne 5, 3) := by decide +kernel
theorem dX5_cut_43 : decode cX5_cut 43 = .ok (.iconst (-1), 1) := by decide +kernel
theorem dX5_cut_44 : decode cX5_cut 44 = .ok (.ireturn, 1) := by decide +kernel
theorem dX5_cut_45 : decode cX5_cut 45 = .ok (.aload_n 0, 1) := by decide +kernel
theorem dX5_cut_46 : decode cX5_cut 46 = .ok (.getfield 34, 3) := by decide +kernel
theorem dX5_cut_49 : decode cX5_cut 49 = .ok (.bipush 8, 2) := by decide +kernel
theorem dX5_cut_51 : decode cX5_cut 51 = .ok (.iload_n 1, 1) := by decide +kernel
theorem dX5_cut_52 : decode cX5_cut 52 = .ok (.imul, 1) := by decide +kernel
theorem dX5_cut_53 : decode cX5_cut 53 = .ok (.iload_n 2, 1) := by decide +kernel
theorem dX5_cut_54 : decode cX5_cut 54 = .ok (.iadd, 1) := by decide +kernel
theorem dX5_cut_55 : decode cX5_cut 55 = .ok (.dup2, 1) := by decide +kernel
theorem dX5_cut_56 : decode cX5_cut 56 = .ok (.iaload, 1) := by decide +kernel
theorem dX5_cut_57 : decode cX5_cut 57 = .ok (.iconst 1, 1) := by decide +kernel
theorem dX5_cut_58 : decode cX5_cut 58 = .ok (.isub, 1) := by decide +kernel
theorem dX5_cut_59 : decode cX5_cut 59 = .ok (.iastore, 1) := by decide +kernel
theorem dX5_cut_60 : decode cX5_cut 60 = .ok (.aload_n 0, 1) := by decide +kernel
theorem dX5_cut_61 : decode cX5_cut 61 = .ok (.dup, 1) := by decide +kernel
theorem dX5_cut_62 : decode cX5_cut 62 = .ok (.getfield 105, 3) := by decide +kernel
theorem dX5_cut_65 : decode cX5_cut 65 = .ok (.aload_n 0, 1) := by decide +kernel
theorem dX5_cut_66 : decode cX5_cut 66 = .ok (.getfield 40, 3) := by decide +kernel
theorem dX5_cut_69 : decode cX5_cut 69 = .ok (.bipush 8, 2) := by decide +kernel
theorem dX5_cut_71 : decode cX5_cut 71 = .ok (.iload_n 1, 1) := by decide +kernel
theorem dX5_cut_72 : decode cX5_cut 72 = .ok (.imul, 1) := by decide +kernel
theorem dX5_cut_73 : decode cX5_cut 73 = .ok (.iload_n 2, 1) := by decide +kernel
theorem dX5_cut_74 : decode cX5_cut 74 = .ok (.iadd, 1) := by decide +kernel
theorem dX5_cut_75 : decode cX5_cut 75 = .ok (.iaload, 1) := by decide +kernel
theorem dX5_cut_76 : decode cX5_cut 76 = .ok (.iadd, 1) := by decide +kernel
theorem dX5_cut_77 : decode cX5_cut 77 = .ok (.putfield 105, 3) := by decide +kernel
theorem dX5_cut_80 : decode cX5_cut 80 = .ok (.aload_n 0, 1) := by decide +kernel
theorem dX5_cut_81 : decode cX5_cut 81 = .ok (.getfield 34, 3) := by decide +kernel
theorem dX5_cut_84 : decode cX5_cut 84 = .ok (.bipush 8, 2) := by decide +kernel
theorem dX5_cut_86 : decode cX5_cut 86 = .ok (.iload_n 1, 1) := by decide +kernel
theorem dX5_cut_87 : decode cX5_cut 87 = .ok (.imul, 1) := by decide +kernel
theorem dX5_cut_88 : decode cX5_cut 88 = .ok (.iload_n 2, 1) := by decide +kernel
theorem dX5_cut_89 : decode cX5_cut 89 = .ok (.iadd, 1) := by decide +kernel
theorem dX5_cut_90 : decode cX5_cut 90 = .ok (.iaload, 1) := by decide +kernel
theorem dX5_cut_91 : decode cX5_cut 91 = .ok (.ireturn, 1) := by decide +kernel
theorem dX5_old_0 : decode cX5_old 0 = .ok (.aload_n 0, 1) := by decide +kernel
theorem dX5_old_1 : decode cX5_old 1 = .ok (.iload_n 1, 1) := by decide +kernel
theorem dX5_old_2 : decode cX5_old 2 = .ok (.invokevirtual 108, 3) := by decide +kernel
theorem dX5_old_5 : decode cX5_old 5 = .ok (.ifCond .ne 5, 3) := by decide +kernel
theorem dX5_old_8 : decode cX5_old 8 = .ok (.iconst 0, 1) := by decide +kernel
theorem dX5_old_9 : decode cX5_old 9 = .ok (.ireturn, 1) := by decide +kernel
theorem dX5_old_10 : decode cX5_old 10 = .ok (.aload_n 0, 1) := by decide +kernel
theorem dX5_old_11 : decode cX5_old 11 = .ok (.getfield 49, 3) := by decide +kernel
theorem dX5_old_14 : decode cX5_old 14 = .ok (.iload_n 1, 1) := by decide +kernel
theorem dX5_old_15 : decode cX5_old 15 = .ok (.iconst 1, 1) := by decide +kernel
theorem dX5_old_16 : decode cX5_old 16 = .ok (.bastore, 1) := by decide +kernel
theorem dX5_old_17 : decode cX5_old 17 = .ok (.iconst 1, 1) := by decide +kernel
theorem dX5_old_18 : decode cX5_old 18 = .ok (.ireturn, 1) := by decide +kernel
theorem dX5_crack_0 : decode cX5_crack 0 = .ok (.aload_n 0, 1) := by decide +kernel
theorem dX5_crack_1 : decode cX5_crack 1 = .ok (.iload_n 1, 1) := by decide +kernel
theorem dX5_crack_2 : decode cX5_crack 2 = .ok (.invokevirtual 108, 3) := by decide +kernel
theorem dX5_crack_5 : decode cX5_crack 5 = .ok (.ifCond .eq 12, 3) := by decide +kernel
theorem dX5_crack_8 : decode cX5_crack 8 = .ok (.aload_n 0, 1) := by decide +kernel
theorem dX5_crack_9 : decode cX5_crack 9 = .ok (.getfield 53, 3) := by decide +kernel
theorem dX5_crack_12 : decode cX5_crack 12 = .ok (.iload_n 1, 1) := by decide +kernel
theorem dX5_crack_13 : decode cX5_crack 13 = .ok (.baload, 1) := by decide +kernel
theorem dX5_crack_14 : decode cX5_crack 14 = .ok (.ifCond .eq 5, 3) := by decide +kernel
theorem dX5_crack_17 : decode cX5_crack 17 = .ok (.iconst 0, 1) := by decide +kernel
theorem dX5_crack_18 : decode cX5_crack 18 = .ok (.ireturn, 1) := by decide +kernel
theorem dX5_crack_19 : decode cX5_crack 19 = .ok (.aload_n 0, 1) := by decide +kernel
theorem dX5_crack_20 : decode cX5_crack 20 = .ok (.getfield 53, 3) := by decide +kernel
theorem dX5_crack_23 : decode cX5_crack 23 = .ok (.iload_n 1, 1) := by decide +kernel
theorem dX5_crack_24 : decode cX5_crack 24 = .ok (.iconst 1, 1) := by decide +kernel
theorem dX5_crack_25 : decode cX5_crack 25 = .ok (.bastore, 1) := by decide +kernel
theorem dX5_crack_26 : decode cX5_crack 26 = .ok (.aload_n 0, 1) := by decide +kernel
theorem dX5_crack_27 : decode cX5_crack 27 = .ok (.getfield 56, 3) := by decide +kernel
theorem dX5_crack_30 : decode cX5_crack 30 = .ok (.iload_n 1, 1) := by decide +kernel
theorem dX5_crack_31 : decode cX5_crack 31 = .ok (.iconst (-1), 1) := by decide +kernel
theorem dX5_crack_32 : decode cX5_crack 32 = .ok (.iastore, 1) := by decide +kernel
theorem dX5_crack_33 : decode cX5_crack 33 = .ok (.aload_n 0, 1) := by decide +kernel
theorem dX5_crack_34 : decode cX5_crack 34 = .ok (.dup, 1) := by decide +kernel
theorem dX5_crack_35 : decode cX5_crack 35 = .ok (.getfield 105, 3) := by decide +kernel
theorem dX5_crack_38 : decode cX5_crack 38 = .ok (.aload_n 0, 1) := by decide +kernel
theorem dX5_crack_39 : decode cX5_crack 39 = .ok (.iload_n 1, 1) := by decide +kernel
theorem dX5_crack_40 : decode cX5_crack 40 = .ok (.invokevirtual 115, 3) := by decide +kernel
theorem dX5_crack_43 : decode cX5_crack 43 = .ok (.iadd, 1) := by decide +kernel
theorem dX5_crack_44 : decode cX5_crack 44 = .ok (.putfield 105, 3) := by decide +kernel
theorem dX5_crack_47 : decode cX5_crack 47 = .ok (.iconst 1, 1) := by decide +kernel
theorem dX5_crack_48 : decode cX5_crack 48 = .ok (.ireturn, 1) := by decide +kernel
theorem dX5_pull_0 : decode cX5_pull 0 = .ok (.iload_n 2, 1) := by decide +kernel
theorem dX5_pull_1 : decode cX5_pull 1 = .ok (.ifCond .ge 7, 3) := by decide +kernel
theorem dX5_pull_4 : decode cX5_pull 4 = .ok (.iconst 0, 1) := by decide +kernel
theorem dX5_pull_5 : decode cX5_pull 5 = .ok (.goto 18, 3) := by decide +kernel
theorem dX5_pull_8 : decode cX5_pull 8 = .ok (.aload_n 0, 1) := by decide +kernel
theorem dX5_pull_9 : decode cX5_pull 9 = .ok (.iload_n 1, 1) := by decide +kernel
theorem dX5_pull_10 : decode cX5_pull 10 = .ok (.invokevirtual 115, 3) := by decide +kernel
theorem dX5_pull_13 : decode cX5_pull 13 = .ok (.aload_n 0, 1) := by decide +kernel
theorem dX5_pull_14 : decode cX5_pull 14 = .ok (.getfield 68, 3) := by decide +kernel
theorem dX5_pull_17 : decode cX5_pull 17 = .ok (.iload_n 2, 1) := by decide +kernel
theorem dX5_pull_18 : decode cX5_pull 18 = .ok (.iaload, 1) := by decide +kernel
theorem dX5_pull_19 : decode cX5_pull 19 = .ok (.imul, 1) := by decide +kernel
theorem dX5_pull_20 : decode cX5_pull 20 = .ok (.bipush 100, 2) := by decide +kernel
theorem dX5_pull_22 : decode cX5_pull 22 = .ok (.idiv, 1) := by decide +kernel
theorem dX5_pull_23 : decode cX5_pull 23 = .ok (.ireturn, 1) := by decide +kernel
theorem dX5_bellOf_0 : decode cX5_bellOf 0 = .ok (.aload_n 0, 1) := by decide +kernel
theorem dX5_bellOf_1 : decode cX5_bellOf 1 = .ok (.iload_n 1, 1) := by decide +kernel
theorem dX5_bellOf_2 : decode cX5_bellOf 2 = .ok (.invokevirtual 108, 3) := by decide +kernel
theorem dX5_bellOf_5 : decode cX5_bellOf 5 = .ok (.ifCond .ne 6, 3) := by decide +kernel
theorem dX5_bellOf_8 : decode cX5_bellOf 8 = .ok (.ldc 119, 2) := by decide +kernel
theorem dX5_bellOf_10 : decode cX5_bellOf 10 = .ok (.ireturn, 1) := by decide +kernel
theorem dX5_bellOf_11 : decode cX5_bellOf 11 = .ok (.iload_n 2, 1) := by decide +kernel
theorem dX5_bellOf_12 : decode cX5_bellOf 12 = .ok (.iconst 0, 1) := by decide +kernel
theorem dX5_bellOf_13 : decode cX5_bellOf 13 = .ok (.iconst 4, 1) := by decide +kernel
theorem dX5_bellOf_14 : decode cX5_bellOf 14 = .ok (.invokestatic 90, 3) := by decide +kernel
theorem dX5_bellOf_17 : decode cX5_bellOf 17 = .ok (.ifCond .eq 10, 3) := by decide +kernel
theorem dX5_bellOf_20 : decode cX5_bellOf 20 = .ok (.aload_n 0, 1) := by decide +kernel
theorem dX5_bellOf_21 : decode cX5_bellOf 21 = .ok (.iload_n 1, 1) := by decide +kernel
theorem dX5_bellOf_22 : decode cX5_bellOf 22 = .ok (.iload_n 2, 1) := by decide +kernel
theorem dX5_bellOf_23 : decode cX5_bellOf 23 = .ok (.invokevirtual 120, 3) := by decide +kernel
theorem dX5_bellOf_26 : decode cX5_bellOf 26 = .ok (.ireturn, 1) := by decide +kernel
theorem dX5_bellOf_27 : decode cX5_bellOf 27 = .ok (.iload_n 2, 1) := by decide +kernel
theorem dX5_bellOf_28 : decode cX5_bellOf 28 = .ok (.bipush 10, 2) := by decide +kernel
theorem dX5_bellOf_30 : decode cX5_bellOf 30 = .ok (.bipush 17, 2) := by decide +kernel
theorem dX5_bellOf_32 : decode cX5_bellOf 32 = .ok (.invokestatic 90, 3) := by decide +kernel
theorem dX5_bellOf_35 : decode cX5_bellOf 35 = .ok (.ifCond .eq 18, 3) := by decide +kernel
theorem dX5_bellOf_38 : decode cX5_bellOf 38 = .ok (.aload_n 0, 1) := by decide +kernel
theorem dX5_bellOf_39 : decode cX5_bellOf 39 = .ok (.getfield 34, 3) := by decide +kernel
theorem dX5_bellOf_42 : decode cX5_bellOf 42 = .ok (.bipush 8, 2) := by decide +kernel
theorem dX5_bellOf_44 : decode cX5_bellOf 44 = .ok (.iload_n 1, 1) := by decide +kernel
theorem dX5_bellOf_45 : decode cX5_bellOf 45 = .ok (.imul, 1) := by decide +kernel
theorem dX5_bellOf_46 : decode cX5_bellOf 46 = .ok (.iload_n 2, 1) := by decide +kernel
theorem dX5_bellOf_47 : decode cX5_bellOf 47 = .ok (.iadd, 1) := by decide +kernel
theorem dX5_bellOf_48 : decode cX5_bellOf 48 = .ok (.bipush 10, 2) := by decide +kernel
theorem dX5_bellOf_50 : decode cX5_bellOf 50 = .ok (.isub, 1) := by decide +kernel
theorem dX5_bellOf_51 : decode cX5_bellOf 51 = .ok (.iaload, 1) := by decide +kernel
theorem dX5_bellOf_52 : decode cX5_bellOf 52 = .ok (.ireturn, 1) := by decide +kernel
theorem dX5_bellOf_53 : decode cX5_bellOf 53 = .ok (.iload_n 2, 1) := by decide +kernel
theorem dX5_bellOf_54 : decode cX5_bellOf 54 = .ok (.tableswitch 132 5 18 #[70, 76, 91, 106, 113, 132, 132, 132, 132, 132, 132, 132, 132, 125], 70) := by decide +kernel
theorem dX5_bellOf_124 : decode cX5_bellOf 124 = .ok (.aload_n 0, 1) := by decide +kernel
theorem dX5_bellOf_125 : decode cX5_bellOf 125 = .ok (.iload_n 1, 1) := by decide +kernel
theorem dX5_bellOf_126 : decode cX5_bellOf 126 = .ok (.invokevirtual 115, 3) := by decide +kernel
theorem dX5_bellOf_129 : decode cX5_bellOf 129 = .ok (.ireturn, 1) := by decide +kernel
theorem dX5_bellOf_130 : decode cX5_bellOf 130 = .ok (.aload_n 0, 1) := by decide +kernel
theorem dX5_bellOf_131 : decode cX5_bellOf 131 = .ok (.getfield 49, 3) := by decide +kernel
theorem dX5_bellOf_134 : decode cX5_bellOf 134 = .ok (.iload_n 1, 1) := by decide +kernel
theorem dX5_bellOf_135 : decode cX5_bellOf 135 = .ok (.baload, 1) := by decide +kernel
theorem dX5_bellOf_136 : decode cX5_bellOf 136 = .ok (.ifCond .eq 7, 3) := by decide +kernel
theorem dX5_bellOf_139 : decode cX5_bellOf 139 = .ok (.iconst 1, 1) := by decide +kernel
theorem dX5_bellOf_140 : decode cX5_bellOf 140 = .ok (.goto 4, 3) := by decide +kernel
theorem dX5_bellOf_143 : decode cX5_bellOf 143 = .ok (.iconst 0, 1) := by decide +kernel
theorem dX5_bellOf_144 : decode cX5_bellOf 144 = .ok (.ireturn, 1) := by decide +kernel
theorem dX5_bellOf_145 : decode cX5_bellOf 145 = .ok (.aload_n 0, 1) := by decide +kernel
theorem dX5_bellOf_146 : decode cX5_bellOf 146 = .ok (.getfield 53, 3) := by decide +kernel
theorem dX5_bellOf_149 : decode cX5_bellOf 149 = .ok (.iload_n 1, 1) := by decide +kernel
theorem dX5_bellOf_150 : decode cX5_bellOf 150 = .ok (.baload, 1) := by decide +kernel
theorem dX5_bellOf_151 : decode cX5_bellOf 151 = .ok (.ifCond .eq 7, 3) := by decide +kernel
theorem dX5_bellOf_154 : decode cX5_bellOf 154 = .ok (.iconst 1, 1) := by decide +kernel
theorem dX5_bellOf_155 : decode cX5_bellOf 155 = .ok (.goto 4, 3) := by decide +kernel
theorem dX5_bellOf_158 : decode cX5_bellOf 158 = .ok (.iconst 0, 1) := by decide +kernel
theorem dX5_bellOf_159 : decode cX5_bellOf 159 = .ok (.ireturn, 1) := by decide +kernel
theorem dX5_bellOf_160 : decode cX5_bellOf 160 = .ok (.aload_n 0, 1) := by decide +kernel
theorem dX5_bellOf_161 : decode cX5_bellOf 161 = .ok (.getfield 56, 3) := by decide +kernel
theorem dX5_bellOf_164 : decode cX5_bellOf 164 = .ok (.iload_n 1, 1) := by decide +kernel
theorem dX5_bellOf_165 : decode cX5_bellOf 165 = .ok (.iaload, 1) := by decide +kernel
theorem dX5_bellOf_166 : decode cX5_bellOf 166 = .ok (.ireturn, 1) := by decide +kernel
theorem dX5_bellOf_167 : decode cX5_bellOf 167 = .ok (.aload_n 0, 1) := by decide +kernel
theorem dX5_bellOf_168 : decode cX5_bellOf 168 = .ok (.iload_n 1, 1) := by decide +kernel
theorem dX5_bellOf_169 : decode cX5_bellOf 169 = .ok (.aload_n 0, 1) := by decide +kernel
theorem dX5_bellOf_170 : decode cX5_bellOf 170 = .ok (.getfield 56, 3) := by decide +kernel
theorem dX5_bellOf_173 : decode cX5_bellOf 173 = .ok (.iload_n 1, 1) := by decide +kernel
theorem dX5_bellOf_174 : decode cX5_bellOf 174 = .ok (.iaload, 1) := by decide +kernel
theorem dX5_bellOf_175 : decode cX5_bellOf 175 = .ok (.invokevirtual 124, 3) := by decide +kernel
theorem dX5_bellOf_178 : decode cX5_bellOf 178 = .ok (.ireturn, 1) := by decide +kernel
theorem dX5_bellOf_179 : decode cX5_bellOf 179 = .ok (.aload_n 0, 1) := by decide +kernel
theorem dX5_bellOf_180 : decode cX5_bellOf 180 = .ok (.getfield 28, 3) := by decide +kernel
theorem dX5_bellOf_183 : decode cX5_bellOf 183 = .ok (.iload_n 1, 1) := by decide +kernel
theorem dX5_bellOf_184 : decode cX5_bellOf 184 = .ok (.iaload, 1) := by decide +kernel
theorem dX5_bellOf_185 : decode cX5_bellOf 185 = .ok (.ireturn, 1) := by decide +kernel
theorem dX5_bellOf_186 : decode cX5_bellOf 186 = .ok (.ldc 119, 2) := by decide +kernel
theorem dX5_bellOf_188 : decode cX5_bellOf 188 = .ok (.ireturn, 1) := by decide +kernel
theorem dX5_span_0 : decode cX5_span 0 = .ok (.iload_n 1, 1) := by decide +kernel
theorem dX5_span_1 : decode cX5_span 1 = .ok (.iconst 0, 1) := by decide +kernel
theorem dX5_span_2 : decode cX5_span 2 = .ok (.iconst 4, 1) := by decide +kernel
theorem dX5_span_3 : decode cX5_span 3 = .ok (.invokestatic 90, 3) := by decide +kernel
theorem dX5_span_6 : decode cX5_span 6 = .ok (.ifCond .eq 27, 3) := by decide +kernel
theorem dX5_span_9 : decode cX5_span 9 = .ok (.iload_n 2, 1) := by decide +kernel
theorem dX5_span_10 : decode cX5_span 10 = .ok (.sipush (-30000), 3) := by decide +kernel
theorem dX5_span_13 : decode cX5_span 13 = .ok (.sipush 30000, 3) := by decide +kernel
theorem dX5_span_16 : decode cX5_span 16 = .ok (.invokestatic 90, 3) := by decide +kernel
theorem dX5_span_19 : decode cX5_span 19 = .ok (.ifCond .eq 14, 3) := by decide +kernel
theorem dX5_span_22 : decode cX5_span 22 = .ok (.iload_n 3, 1) := by decide +kernel
theorem dX5_span_23 : decode cX5_span 23 = .ok (.iload_n 2, 1) := by decide +kernel
theorem dX5_span_24 : decode cX5_span 24 = .ok (.sipush 30000, 3) := by decide +kernel
theorem dX5_span_27 : decode cX5_span 27 = .ok (.invokestatic 90, 3) := by decide +kernel
theorem dX5_span_30 : decode cX5_span 30 = .ok (.ifCond .ne 5, 3) := by decide +kernel
theorem dX5_span_33 : decode cX5_span 33 = .ok (.iconst 0, 1) := by decide +kernel
theorem dX5_span_34 : decode cX5_span 34 = .ok (.ireturn, 1) := by decide +kernel
theorem dX5_span_35 : decode cX5_span 35 = .ok (.aload_n 0, 1) := by decide +kernel
theorem dX5_span_36 : decode cX5_span 36 = .ok (.getfield 59, 3) := by decide +kernel
theorem dX5_span_39 : decode cX5_span 39 = .ok (.iload_n 1, 1) := by decide +kernel
theorem dX5_span_40 : decode cX5_span 40 = .ok (.iload_n 2, 1) := by decide +kernel
theorem dX5_span_41 : decode cX5_span 41 = .ok (.iastore, 1) := by decide +kernel
theorem dX5_span_42 : decode cX5_span 42 = .ok (.aload_n 0, 1) := by decide +kernel
theorem dX5_span_43 : decode cX5_span 43 = .ok (.getfield 62, 3) := by decide +kernel
theorem dX5_span_46 : decode cX5_span 46 = .ok (.iload_n 1, 1) := by decide +kernel
theorem dX5_span_47 : decode cX5_span 47 = .ok (.iload_n 3, 1) := by decide +kernel
theorem dX5_span_48 : decode cX5_span 48 = .ok (.iastore, 1) := by decide +kernel
theorem dX5_span_49 : decode cX5_span 49 = .ok (.iconst 1, 1) := by decide +kernel
theorem dX5_span_50 : decode cX5_span 50 = .ok (.ireturn, 1) := by decide +kernel
theorem dX5_isTuned_0 : decode cX5_isTuned 0 = .ok (.iconst 0, 1) := by decide +kernel
theorem dX5_isTuned_1 : decode cX5_isTuned 1 = .ok (.istore_n 2, 1) := by decide +kernel
theorem dX5_isTuned_2 : decode cX5_isTuned 2 = .ok (.iload_n 2, 1) := by decide +kernel
theorem dX5_isTuned_3 : decode cX5_isTuned 3 = .ok (.bipush 8, 2) := by decide +kernel
theorem dX5_isTuned_5 : decode cX5_isTuned 5 = .ok (.if_icmp .ge 43, 3) := by decide +kernel
theorem dX5_isTuned_8 : decode cX5_isTuned 8 = .ok (.aload_n 0, 1) := by decide +kernel
theorem dX5_isTuned_9 : decode cX5_isTuned 9 = .ok (.getfield 34, 3) := by decide +kernel
theorem dX5_isTuned_12 : decode cX5_isTuned 12 = .ok (.bipush 8, 2) := by decide +kernel
theorem dX5_isTuned_14 : decode cX5_isTuned 14 = .ok (.iload_n 1, 1) := by decide +kernel
theorem dX5_isTuned_15 : decode cX5_isTuned 15 = .ok (.imul, 1) := by decide +kernel
theorem dX5_isTuned_16 : decode cX5_isTuned 16 = .ok (.iload_n 2, 1) := by decide +kernel
theorem dX5_isTuned_17 : decode cX5_isTuned 17 = .ok (.iadd, 1) := by decide +kernel
theorem dX5_isTuned_18 : decode cX5_isTuned 18 = .ok (.iaload, 1) := by decide +kernel
theorem dX5_isTuned_19 : decode cX5_isTuned 19 = .ok (.aload_n 0, 1) := by decide +kernel
theorem dX5_isTuned_20 : decode cX5_isTuned 20 = .ok (.getfield 71, 3) := by decide +kernel
theorem dX5_isTuned_23 : decode cX5_isTuned 23 = .ok (.iload_n 2, 1) := by decide +kernel
theorem dX5_isTuned_24 : decode cX5_isTuned 24 = .ok (.iaload, 1) := by decide +kernel
theorem dX5_isTuned_25 : decode cX5_isTuned 25 = .ok (.isub, 1) := by decide +kernel
theorem dX5_isTuned_26 : decode cX5_isTuned 26 = .ok (.aload_n 0, 1) := by decide +kernel
theorem dX5_isTuned_27 : decode cX5_isTuned 27 = .ok (.getfield 37, 3) := by decide +kernel
theorem dX5_isTuned_30 : decode cX5_isTuned 30 = .ok (.bipush 8, 2) := by decide +kernel
theorem dX5_isTuned_32 : decode cX5_isTuned 32 = .ok (.iload_n 1, 1) := by decide +kernel
theorem dX5_isTuned_33 : decode cX5_isTuned 33 = .ok (.imul, 1) := by decide +kernel
theorem dX5_isTuned_34 : decode cX5_isTuned 34 = .ok (.iload_n 2, 1) := by decide +kernel
theorem dX5_isTuned_35 : decode cX5_isTuned 35 = .ok (.iadd, 1) := by decide +kernel
theorem dX5_isTuned_36 : decode cX5_isTuned 36 = .ok (.iaload, 1) := by decide +kernel
theorem dX5_isTuned_37 : decode cX5_isTuned 37 = .ok (.if_icmp .ge 5, 3) := by decide +kernel
theorem dX5_isTuned_40 : decode cX5_isTuned 40 = .ok (.iconst 0, 1) := by decide +kernel
theorem dX5_isTuned_41 : decode cX5_isTuned 41 = .ok (.ireturn, 1) := by decide +kernel
theorem dX5_isTuned_42 : decode cX5_isTuned 42 = .ok (.iinc 2 1, 3) := by decide +kernel
theorem dX5_isTuned_45 : decode cX5_isTuned 45 = .ok (.goto (-43), 3) := by decide +kernel
theorem dX5_isTuned_48 : decode cX5_isTuned 48 = .ok (.iconst 0, 1) := by decide +kernel
theorem dX5_isTuned_49 : decode cX5_isTuned 49 = .ok (.istore_n 2, 1) := by decide +kernel
theorem dX5_isTuned_50 : decode cX5_isTuned 50 = .ok (.iload_n 2, 1) := by decide +kernel
theorem dX5_isTuned_51 : decode cX5_isTuned 51 = .ok (.iconst 5, 1) := by decide +kernel
theorem dX5_isTuned_52 : decode cX5_isTuned 52 = .ok (.if_icmp .ge 81, 3) := by decide +kernel
theorem dX5_isTuned_55 : decode cX5_isTuned 55 = .ok (.aload_n 0, 1) := by decide +kernel
theorem dX5_isTuned_56 : decode cX5_isTuned 56 = .ok (.iload_n 1, 1) := by decide +kernel
theorem dX5_isTuned_57 : decode cX5_isTuned 57 = .ok (.iload_n 2, 1) := by decide +kernel
theorem dX5_isTuned_58 : decode cX5_isTuned 58 = .ok (.invokevirtual 120, 3) := by decide +kernel
theorem dX5_isTuned_61 : decode cX5_isTuned 61 = .ok (.istore_n 3, 1) := by decide +kernel
theorem dX5_isTuned_62 : decode cX5_isTuned 62 = .ok (.iconst 0, 1) := by decide +kernel
theorem dX5_isTuned_63 : decode cX5_isTuned 63 = .ok (.istore 4, 2) := by decide +kernel
theorem dX5_isTuned_65 : decode cX5_isTuned 65 = .ok (.iload 4, 2) := by decide +kernel
theorem dX5_isTuned_67 : decode cX5_isTuned 67 = .ok (.bipush 8, 2) := by decide +kernel
theorem dX5_isTuned_69 : decode cX5_isTuned 69 = .ok (.if_icmp .ge 37, 3) := by decide +kernel
theorem dX5_isTuned_72 : decode cX5_isTuned 72 = .ok (.iload_n 3, 1) := by decide +kernel
theorem dX5_isTuned_73 : decode cX5_isTuned 73 = .ok (.aload_n 0, 1) := by decide +kernel
theorem dX5_isTuned_74 : decode cX5_isTuned 74 = .ok (.getfield 46, 3) := by decide +kernel
theorem dX5_isTuned_77 : decode cX5_isTuned 77 = .ok (.bipush 40, 2) := by decide +kernel
theorem dX5_isTuned_79 : decode cX5_isTuned 79 = .ok (.iload_n 1, 1) := by decide +kernel
theorem dX5_isTuned_80 : decode cX5_isTuned 80 = .ok (.imul, 1) := by decide +kernel
theorem dX5_isTuned_81 : decode cX5_isTuned 81 = .ok (.bipush 8, 2) := by decide +kernel
theorem dX5_isTuned_83 : decode cX5_isTuned 83 = .ok (.iload_n 2, 1) := by decide +kernel
theorem dX5_isTuned_84 : decode cX5_isTuned 84 = .ok (.imul, 1) := by decide +kernel
theorem dX5_isTuned_85 : decode cX5_isTuned 85 = .ok (.iadd, 1) := by decide +kernel
theorem dX5_isTuned_86 : decode cX5_isTuned 86 = .ok (.iload 4, 2) := by decide +kernel
theorem dX5_isTuned_88 : decode cX5_isTuned 88 = .ok (.iadd, 1) := by decide +kernel
theorem dX5_isTuned_89 : decode cX5_isTuned 89 = .ok (.iaload, 1) := by decide +kernel
theorem dX5_isTuned_90 : decode cX5_isTuned 90 = .ok (.aload_n 0, 1) := by decide +kernel
theorem dX5_isTuned_91 : decode cX5_isTuned 91 = .ok (.getfield 71, 3) := by decide +kernel
theorem dX5_isTuned_94 : decode cX5_isTuned 94 = .ok (.iload 4, 2) := by decide +kernel
theorem dX5_isTuned_96 : decode cX5_isTuned 96 = .ok (.iaload, 1) := by decide +kernel
theorem dX5_isTuned_97 : decode cX5_isTuned 97 = .ok (.imul, 1) := by decide +kernel
theorem dX5_isTuned_98 : decode cX5_isTuned 98 = .ok (.isub, 1) := by decide +kernel
theorem dX5_isTuned_99 : decode cX5_isTuned 99 = .ok (.istore_n 3, 1) := by decide +kernel
theorem dX5_isTuned_100 : decode cX5_isTuned 100 = .ok (.iinc 4 1, 3) := by decide +kernel
theorem dX5_isTuned_103 : decode cX5_isTuned 103 = .ok (.goto (-38), 3) := by decide +kernel
theorem dX5_isTuned_106 : decode cX5_isTuned 106 = .ok (.iload_n 3, 1) := by decide +kernel
theorem dX5_isTuned_107 : decode cX5_isTuned 107 = .ok (.aload_n 0, 1) := by decide +kernel
theorem dX5_isTuned_108 : decode cX5_isTuned 108 = .ok (.getfield 59, 3) := by decide +kernel
theorem dX5_isTuned_111 : decode cX5_isTuned 111 = .ok (.iload_n 2, 1) := by decide +kernel
theorem dX5_isTuned_112 : decode cX5_isTuned 112 = .ok (.iaload, 1) := by decide +kernel
theorem dX5_isTuned_113 : decode cX5_isTuned 113 = .ok (.aload_n 0, 1) := by decide +kernel
theorem dX5_isTuned_114 : decode cX5_isTuned 114 = .ok (.getfield 62, 3) := by decide +kernel
theorem dX5_isTuned_117 : decode cX5_isTuned 117 = .ok (.iload_n 2, 1) := by decide +kernel
theorem dX5_isTuned_118 : decode cX5_isTuned 118 = .ok (.iaload, 1) := by decide +kernel
theorem dX5_isTuned_119 : decode cX5_isTuned 119 = .ok (.invokestatic 90, 3) := by decide +kernel
theorem dX5_isTuned_122 : decode cX5_isTuned 122 = .ok (.ifCond .ne 5, 3) := by decide +kernel
theorem dX5_isTuned_125 : decode cX5_isTuned 125 = .ok (.iconst 0, 1) := by decide +kernel
theorem dX5_isTuned_126 : decode cX5_isTuned 126 = .ok (.ireturn, 1) := by decide +kernel
theorem dX5_isTuned_127 : decode cX5_isTuned 127 = .ok (.iinc 2 1, 3) := by decide +kernel
theorem dX5_isTuned_130 : decode cX5_isTuned 130 = .ok (.goto (-80), 3) := by decide +kernel
theorem dX5_isTuned_133 : decode cX5_isTuned 133 = .ok (.iconst 1, 1) := by decide +kernel
theorem dX5_isTuned_134 : decode cX5_isTuned 134 = .ok (.ireturn, 1) := by decide +kernel
theorem dX5_nextCuts_0 : decode cX5_nextCuts 0 = .ok (.aload_n 0, 1) := by decide +kernel
theorem dX5_nextCuts_1 : decode cX5_nextCuts 1 = .ok (.getfield 71, 3) := by decide +kernel
theorem dX5_nextCuts_4 : decode cX5_nextCuts 4 = .ok (.bipush 7, 2) := by decide +kernel
theorem dX5_nextCuts_6 : decode cX5_nextCuts 6 = .ok (.iaload, 1) := by decide +kernel
theorem dX5_nextCuts_7 : decode cX5_nextCuts 7 = .ok (.istore_n 1, 1) := by decide +kernel
theorem dX5_nextCuts_8 : decode cX5_nextCuts 8 = .ok (.bipush 6, 2) := by decide +kernel
theorem dX5_nextCuts_10 : decode cX5_nextCuts 10 = .ok (.istore_n 2, 1) := by decide +kernel
theorem dX5_nextCuts_11 : decode cX5_nextCuts 11 = .ok (.iload_n 2, 1) := by decide +kernel
theorem dX5_nextCuts_12 : decode cX5_nextCuts 12 = .ok (.ifCond .lt 67, 3) := by decide +kernel
theorem dX5_nextCuts_15 : decode cX5_nextCuts 15 = .ok (.iload_n 1, 1) := by decide +kernel
theorem dX5_nextCuts_16 : decode cX5_nextCuts 16 = .ok (.ifCond .le 48, 3) := by decide +kernel
theorem dX5_nextCuts_19 : decode cX5_nextCuts 19 = .ok (.aload_n 0, 1) := by decide +kernel
theorem dX5_nextCuts_20 : decode cX5_nextCuts 20 = .ok (.getfield 71, 3) := by decide +kernel
theorem dX5_nextCuts_23 : decode cX5_nextCuts 23 = .ok (.iload_n 2, 1) := by decide +kernel
theorem dX5_nextCuts_24 : decode cX5_nextCuts 24 = .ok (.dup2, 1) := by decide +kernel
theorem dX5_nextCuts_25 : decode cX5_nextCuts 25 = .ok (.iaload, 1) := by decide +kernel
theorem dX5_nextCuts_26 : decode cX5_nextCuts 26 = .ok (.iconst 1, 1) := by decide +kernel
theorem dX5_nextCuts_27 : decode cX5_nextCuts 27 = .ok (.iadd, 1) := by decide +kernel
theorem dX5_nextCuts_28 : decode cX5_nextCuts 28 = .ok (.iastore, 1) := by decide +kernel
theorem dX5_nextCuts_29 : decode cX5_nextCuts 29 = .ok (.iload_n 2, 1) := by decide +kernel
theorem dX5_nextCuts_30 : decode cX5_nextCuts 30 = .ok (.iconst 1, 1) := by decide +kernel
theorem dX5_nextCuts_31 : decode cX5_nextCuts 31 = .ok (.iadd, 1) := by decide +kernel
theorem dX5_nextCuts_32 : decode cX5_nextCuts 32 = .ok (.istore_n 3, 1) := by decide +kernel
theorem dX5_nextCuts_33 : decode cX5_nextCuts 33 = .ok (.iload_n 3, 1) := by decide +kernel
theorem dX5_nextCuts_34 : decode cX5_nextCuts 34 = .ok (.bipush 7, 2) := by decide +kernel
theorem dX5_nextCuts_36 : decode cX5_nextCuts 36 = .ok (.if_icmp .ge 16, 3) := by decide +kernel
theorem dX5_nextCuts_39 : decode cX5_nextCuts 39 = .ok (.aload_n 0, 1) := by decide +kernel
theorem dX5_nextCuts_40 : decode cX5_nextCuts 40 = .ok (.getfield 71, 3) := by decide +kernel
theorem dX5_nextCuts_43 : decode cX5_nextCuts 43 = .ok (.iload_n 3, 1) := by decide +kernel
theorem dX5_nextCuts_44 : decode cX5_nextCuts 44 = .ok (.iconst 0, 1) := by decide +kernel
theorem dX5_nextCuts_45 : decode cX5_nextCuts 45 = .ok (.iastore, 1) := by decide +kernel
theorem dX5_nextCuts_46 : decode cX5_nextCuts 46 = .ok (.iinc 3 1, 3) := by decide +kernel
theorem dX5_nextCuts_49 : decode cX5_nextCuts 49 = .ok (.goto (-16), 3) := by decide +kernel
theorem dX5_nextCuts_52 : decode cX5_nextCuts 52 = .ok (.aload_n 0, 1) := by decide +kernel
theorem dX5_nextCuts_53 : decode cX5_nextCuts 53 = .ok (.getfield 71, 3) := by decide +kernel
theorem dX5_nextCuts_56 : decode cX5_nextCuts 56 = .ok (.bipush 7, 2) := by decide +kernel
theorem dX5_nextCuts_58 : decode cX5_nextCuts 58 = .ok (.iload_n 1, 1) := by decide +kernel
theorem dX5_nextCuts_59 : decode cX5_nextCuts 59 = .ok (.iconst 1, 1) := by decide +kernel
theorem dX5_nextCuts_60 : decode cX5_nextCuts 60 = .ok (.isub, 1) := by decide +kernel
theorem dX5_nextCuts_61 : decode cX5_nextCuts 61 = .ok (.iastore, 1) := by decide +kernel
theorem dX5_nextCuts_62 : decode cX5_nextCuts 62 = .ok (.iconst 1, 1) := by decide +kernel
theorem dX5_nextCuts_63 : decode cX5_nextCuts 63 = .ok (.ireturn, 1) := by decide +kernel
theorem dX5_nextCuts_64 : decode cX5_nextCuts 64 = .ok (.iload_n 1, 1) := by decide +kernel
theorem dX5_nextCuts_65 : decode cX5_nextCuts 65 = .ok (.aload_n 0, 1) := by decide +kernel
theorem dX5_nextCuts_66 : decode cX5_nextCuts 66 = .ok (.getfield 71, 3) := by decide +kernel
theorem dX5_nextCuts_69 : decode cX5_nextCuts 69 = .ok (.iload_n 2, 1) := by decide +kernel
theorem dX5_nextCuts_70 : decode cX5_nextCuts 70 = .ok (.iaload, 1) := by decide +kernel
theorem dX5_nextCuts_71 : decode cX5_nextCuts 71 = .ok (.iadd, 1) := by decide +kernel
theorem dX5_nextCuts_72 : decode cX5_nextCuts 72 = .ok (.istore_n 1, 1) := by decide +kernel
theorem dX5_nextCuts_73 : decode cX5_nextCuts 73 = .ok (.iinc 2 (-1), 3) := by decide +kernel
theorem dX5_nextCuts_76 : decode cX5_nextCuts 76 = .ok (.goto (-65), 3) := by decide +kernel
theorem dX5_nextCuts_79 : decode cX5_nextCuts 79 = .ok (.iconst 0, 1) := by decide +kernel
theorem dX5_nextCuts_80 : decode cX5_nextCuts 80 = .ok (.ireturn, 1) := by decide +kernel
theorem dX5_seeks_0 : decode cX5_seeks 0 = .ok (.iconst 0, 1) := by decide +kernel
theorem dX5_seeks_1 : decode cX5_seeks 1 = .ok (.istore_n 2, 1) := by decide +kernel
theorem dX5_seeks_2 : decode cX5_seeks 2 = .ok (.iload_n 2, 1) := by decide +kernel
theorem dX5_seeks_3 : decode cX5_seeks 3 = .ok (.bipush 12, 2) := by decide +kernel
theorem dX5_seeks_5 : decode cX5_seeks 5 = .ok (.if_icmp .gt 62, 3) := by decide +kernel
theorem dX5_seeks_8 : decode cX5_seeks 8 = .ok (.iconst 0, 1) := by decide +kernel
theorem dX5_seeks_9 : decode cX5_seeks 9 = .ok (.istore_n 3, 1) := by decide +kernel
theorem dX5_seeks_10 : decode cX5_seeks 10 = .ok (.iload_n 3, 1) := by decide +kernel
theorem dX5_seeks_11 : decode cX5_seeks 11 = .ok (.bipush 7, 2) := by decide +kernel
theorem dX5_seeks_13 : decode cX5_seeks 13 = .ok (.if_icmp .ge 16, 3) := by decide +kernel
theorem dX5_seeks_16 : decode cX5_seeks 16 = .ok (.aload_n 0, 1) := by decide +kernel
theorem dX5_seeks_17 : decode cX5_seeks 17 = .ok (.getfield 71, 3) := by decide +kernel
theorem dX5_seeks_20 : decode cX5_seeks 20 = .ok (.iload_n 3, 1) := by decide +kernel
theorem dX5_seeks_21 : decode cX5_seeks 21 = .ok (.iconst 0, 1) := by decide +kernel
theorem dX5_seeks_22 : decode cX5_seeks 22 = .ok (.iastore, 1) := by decide +kernel
theorem dX5_seeks_23 : decode cX5_seeks 23 = .ok (.iinc 3 1, 3) := by decide +kernel
theorem dX5_seeks_26 : decode cX5_seeks 26 = .ok (.goto (-16), 3) := by decide +kernel
theorem dX5_seeks_29 : decode cX5_seeks 29 = .ok (.aload_n 0, 1) := by decide +kernel
theorem dX5_seeks_30 : decode cX5_seeks 30 = .ok (.getfield 71, 3) := by decide +kernel
theorem dX5_seeks_33 : decode cX5_seeks 33 = .ok (.bipush 7, 2) := by decide +kernel
theorem dX5_seeks_35 : decode cX5_seeks 35 = .ok (.iload_n 2, 1) := by decide +kernel
theorem dX5_seeks_36 : decode cX5_seeks 36 = .ok (.iastore, 1) := by decide +kernel
theorem dX5_seeks_37 : decode cX5_seeks 37 = .ok (.iconst 1, 1) := by decide +kernel
theorem dX5_seeks_38 : decode cX5_seeks 38 = .ok (.istore_n 3, 1) := by decide +kernel
theorem dX5_seeks_39 : decode cX5_seeks 39 = .ok (.iload_n 3, 1) := by decide +kernel
theorem dX5_seeks_40 : decode cX5_seeks 40 = .ok (.ifCond .eq 21, 3) := by decide +kernel
theorem dX5_seeks_43 : decode cX5_seeks 43 = .ok (.aload_n 0, 1) := by decide +kernel
theorem dX5_seeks_44 : decode cX5_seeks 44 = .ok (.iload_n 1, 1) := by decide +kernel
theorem dX5_seeks_45 : decode cX5_seeks 45 = .ok (.invokevirtual 127, 3) := by decide +kernel
theorem dX5_seeks_48 : decode cX5_seeks 48 = .ok (.ifCond .eq 5, 3) := by decide +kernel
theorem dX5_seeks_51 : decode cX5_seeks 51 = .ok (.iload_n 2, 1) := by decide +kernel
theorem dX5_seeks_52 : decode cX5_seeks 52 = .ok (.ireturn, 1) := by decide +kernel
theorem dX5_seeks_53 : decode cX5_seeks 53 = .ok (.aload_n 0, 1) := by decide +kernel
theorem dX5_seeks_54 : decode cX5_seeks 54 = .ok (.invokevirtual 130, 3) := by decide +kernel
theorem dX5_seeks_57 : decode cX5_seeks 57 = .ok (.istore_n 3, 1) := by decide +kernel
theorem dX5_seeks_58 : decode cX5_seeks 58 = .ok (.goto (-19), 3) := by decide +kernel
theorem dX5_seeks_61 : decode cX5_seeks 61 = .ok (.iinc 2 1, 3) := by decide +kernel
theorem dX5_seeks_64 : decode cX5_seeks 64 = .ok (.goto (-62), 3) := by decide +kernel
theorem dX5_seeks_67 : decode cX5_seeks 67 = .ok (.iconst (-1), 1) := by decide +kernel
theorem dX5_seeks_68 : decode cX5_seeks 68 = .ok (.ireturn, 1) := by decide +kernel
theorem dX5_tuning_0 : decode cX5_tuning 0 = .ok (.aload_n 0, 1) := by decide +kernel
theorem dX5_tuning_1 : decode cX5_tuning 1 = .ok (.iload_n 1, 1) := by decide +kernel
theorem dX5_tuning_2 : decode cX5_tuning 2 = .ok (.invokevirtual 112, 3) := by decide +kernel
theorem dX5_tuning_5 : decode cX5_tuning 5 = .ok (.ifCond .eq 11, 3) := by decide +kernel
theorem dX5_tuning_8 : decode cX5_tuning 8 = .ok (.aload_n 0, 1) := by decide +kernel
theorem dX5_tuning_9 : decode cX5_tuning 9 = .ok (.iload_n 1, 1) := by decide +kernel
theorem dX5_tuning_10 : decode cX5_tuning 10 = .ok (.invokevirtual 134, 3) := by decide +kernel
theorem dX5_tuning_13 : decode cX5_tuning 13 = .ok (.goto 4, 3) := by decide +kernel
theorem dX5_tuning_16 : decode cX5_tuning 16 = .ok (.iconst (-1), 1) := by decide +kernel
theorem dX5_tuning_17 : decode cX5_tuning 17 = .ok (.ireturn, 1) := by decide +kernel
theorem dX5_tune_0 : decode cX5_tune 0 = .ok (.aload_n 0, 1) := by decide +kernel
theorem dX5_tune_1 : decode cX5_tune 1 = .ok (.iload_n 1, 1) := by decide +kernel
theorem dX5_tune_2 : decode cX5_tune 2 = .ok (.invokevirtual 137, 3) := by decide +kernel
theorem dX5_tune_5 : decode cX5_tune 5 = .ok (.istore_n 2, 1) := by decide +kernel
theorem dX5_tune_6 : decode cX5_tune 6 = .ok (.iconst 0, 1) := by decide +kernel
theorem dX5_tune_7 : decode cX5_tune 7 = .ok (.istore_n 3, 1) := by decide +kernel
theorem dX5_tune_8 : decode cX5_tune 8 = .ok (.iload_n 3, 1) := by decide +kernel
theorem dX5_tune_9 : decode cX5_tune 9 = .ok (.bipush 8, 2) := by decide +kernel
theorem dX5_tune_11 : decode cX5_tune 11 = .ok (.if_icmp .ge 60, 3) := by decide +kernel
theorem dX5_tune_14 : decode cX5_tune 14 = .ok (.iload_n 2, 1) := by decide +kernel
theorem dX5_tune_15 : decode cX5_tune 15 = .ok (.ifCond .lt 56, 3) := by decide +kernel
theorem dX5_tune_18 : decode cX5_tune 18 = .ok (.aload_n 0, 1) := by decide +kernel
theorem dX5_tune_19 : decode cX5_tune 19 = .ok (.getfield 34, 3) := by decide +kernel
theorem dX5_tune_22 : decode cX5_tune 22 = .ok (.bipush 8, 2) := by decide +kernel
theorem dX5_tune_24 : decode cX5_tune 24 = .ok (.iload_n 1, 1) := by decide +kernel
theorem dX5_tune_25 : decode cX5_tune 25 = .ok (.imul, 1) := by decide +kernel
theorem dX5_tune_26 : decode cX5_tune 26 = .ok (.iload_n 3, 1) := by decide +kernel
theorem dX5_tune_27 : decode cX5_tune 27 = .ok (.iadd, 1) := by decide +kernel
theorem dX5_tune_28 : decode cX5_tune 28 = .ok (.dup2, 1) := by decide +kernel
theorem dX5_tune_29 : decode cX5_tune 29 = .ok (.iaload, 1) := by decide +kernel
theorem dX5_tune_30 : decode cX5_tune 30 = .ok (.aload_n 0, 1) := by decide +kernel
theorem dX5_tune_31 : decode cX5_tune 31 = .ok (.getfield 71, 3) := by decide +kernel
theorem dX5_tune_34 : decode cX5_tune 34 = .ok (.iload_n 3, 1) := by decide +kernel
theorem dX5_tune_35 : decode cX5_tune 35 = .ok (.iaload, 1) := by decide +kernel
theorem dX5_tune_36 : decode cX5_tune 36 = .ok (.isub, 1) := by decide +kernel
theorem dX5_tune_37 : decode cX5_tune 37 = .ok (.iastore, 1) := by decide +kernel
theorem dX5_tune_38 : decode cX5_tune 38 = .ok (.aload_n 0, 1) := by decide +kernel
theorem dX5_tune_39 : decode cX5_tune 39 = .ok (.dup, 1) := by decide +kernel
theorem dX5_tune_40 : decode cX5_tune 40 = .ok (.getfield 105, 3) := by decide +kernel
theorem dX5_tune_43 : decode cX5_tune 43 = .ok (.aload_n 0, 1) := by decide +kernel
theorem dX5_tune_44 : decode cX5_tune 44 = .ok (.getfield 40, 3) := by decide +kernel
theorem dX5_tune_47 : decode cX5_tune 47 = .ok (.bipush 8, 2) := by decide +kernel
theorem dX5_tune_49 : decode cX5_tune 49 = .ok (.iload_n 1, 1) := by decide +kernel
theorem dX5_tune_50 : decode cX5_tune 50 = .ok (.imul, 1) := by decide +kernel
theorem dX5_tune_51 : decode cX5_tune 51 = .ok (.iload_n 3, 1) := by decide +kernel
theorem dX5_tune_52 : decode cX5_tune 52 = .ok (.iadd, 1) := by decide +kernel
theorem dX5_tune_53 : decode cX5_tune 53 = .ok (.iaload, 1) := by decide +kernel
theorem dX5_tune_54 : decode cX5_tune 54 = .ok (.aload_n 0, 1) := by decide +kernel
theorem dX5_tune_55 : decode cX5_tune 55 = .ok (.getfield 71, 3) := by decide +kernel
theorem dX5_tune_58 : decode cX5_tune 58 = .ok (.iload_n 3, 1) := by decide +kernel
theorem dX5_tune_59 : decode cX5_tune 59 = .ok (.iaload, 1) := by decide +kernel
theorem dX5_tune_60 : decode cX5_tune 60 = .ok (.imul, 1) := by decide +kernel
theorem dX5_tune_61 : decode cX5_tune 61 = .ok (.iadd, 1) := by decide +kernel
theorem dX5_tune_62 : decode cX5_tune 62 = .ok (.putfield 105, 3) := by decide +kernel
theorem dX5_tune_65 : decode cX5_tune 65 = .ok (.iinc 3 1, 3) := by decide +kernel
theorem dX5_tune_68 : decode cX5_tune 68 = .ok (.goto (-60), 3) := by decide +kernel
theorem dX5_tune_71 : decode cX5_tune 71 = .ok (.iload_n 2, 1) := by decide +kernel
theorem dX5_tune_72 : decode cX5_tune 72 = .ok (.ireturn, 1) := by decide +kernel
theorem dX5_tuningAt_0 : decode cX5_tuningAt 0 = .ok (.iload_n 2, 1) := by decide +kernel
theorem dX5_tuningAt_1 : decode cX5_tuningAt 1 = .ok (.iconst 0, 1) := by decide +kernel
theorem dX5_tuningAt_2 : decode cX5_tuningAt 2 = .ok (.bipush 7, 2) := by decide +kernel
theorem dX5_tuningAt_4 : decode cX5_tuningAt 4 = .ok (.invokestatic 90, 3) := by decide +kernel
theorem dX5_tuningAt_7 : decode cX5_tuningAt 7 = .ok (.ifCond .eq 20, 3) := by decide +kernel
theorem dX5_tuningAt_10 : decode cX5_tuningAt 10 = .ok (.aload_n 0, 1) := by decide +kernel
theorem dX5_tuningAt_11 : decode cX5_tuningAt 11 = .ok (.iload_n 1, 1) := by decide +kernel
theorem dX5_tuningAt_12 : decode cX5_tuningAt 12 = .ok (.invokevirtual 137, 3) := by decide +kernel
theorem dX5_tuningAt_15 : decode cX5_tuningAt 15 = .ok (.ifCond .lt 12, 3) := by decide +kernel
theorem dX5_tuningAt_18 : decode cX5_tuningAt 18 = .ok (.aload_n 0, 1) := by decide +kernel
theorem dX5_tuningAt_19 : decode cX5_tuningAt 19 = .ok (.getfield 71, 3) := by decide +kernel
theorem dX5_tuningAt_22 : decode cX5_tuningAt 22 = .ok (.iload_n 2, 1) := by decide +kernel
theorem dX5_tuningAt_23 : decode cX5_tuningAt 23 = .ok (.iaload, 1) := by decide +kernel
theorem dX5_tuningAt_24 : decode cX5_tuningAt 24 = .ok (.goto 4, 3) := by decide +kernel
theorem dX5_tuningAt_27 : decode cX5_tuningAt 27 = .ok (.iconst (-1), 1) := by decide +kernel
theorem dX5_tuningAt_28 : decode cX5_tuningAt 28 = .ok (.ireturn, 1) := by decide +kernel
theorem dX5_note_0 : decode cX5_note 0 = .ok (.iload_n 1, 1) := by decide +kernel
theorem dX5_note_1 : decode cX5_note 1 = .ok (.sipush (-5000), 3) := by decide +kernel
theorem dX5_note_4 : decode cX5_note 4 = .ok (.sipush 5000, 3) := by decide +kernel
theorem dX5_note_7 : decode cX5_note 7 = .ok (.invokestatic 90, 3) := by decide +kernel
theorem dX5_note_10 : decode cX5_note 10 = .ok (.ifCond .eq 12, 3) := by decide +kernel
theorem dX5_note_13 : decode cX5_note 13 = .ok (.aload_n 0, 1) := by decide +kernel
theorem dX5_note_14 : decode cX5_note 14 = .ok (.getfield 140, 3) := by decide +kernel
theorem dX5_note_17 : decode cX5_note 17 = .ok (.bipush 8, 2) := by decide +kernel
theorem dX5_note_19 : decode cX5_note 19 = .ok (.if_icmp .ne 5, 3) := by decide +kernel
theorem dX5_note_22 : decode cX5_note 22 = .ok (.iconst (-1), 1) := by decide +kernel
theorem dX5_note_23 : decode cX5_note 23 = .ok (.ireturn, 1) := by decide +kernel
theorem dX5_note_24 : decode cX5_note 24 = .ok (.aload_n 0, 1) := by decide +kernel
theorem dX5_note_25 : decode cX5_note 25 = .ok (.getfield 65, 3) := by decide +kernel
theorem dX5_note_28 : decode cX5_note 28 = .ok (.aload_n 0, 1) := by decide +kernel
theorem dX5_note_29 : decode cX5_note 29 = .ok (.getfield 140, 3) := by decide +kernel
theorem dX5_note_32 : decode cX5_note 32 = .ok (.iload_n 1, 1) := by decide +kernel
theorem dX5_note_33 : decode cX5_note 33 = .ok (.iastore, 1) := by decide +kernel
theorem dX5_note_34 : decode cX5_note 34 = .ok (.aload_n 0, 1) := by decide +kernel
theorem dX5_note_35 : decode cX5_note 35 = .ok (.dup, 1) := by decide +kernel
theorem dX5_note_36 : decode cX5_note 36 = .ok (.getfield 140, 3) := by decide +kernel
theorem dX5_note_39 : decode cX5_note 39 = .ok (.iconst 1, 1) := by decide +kernel
theorem dX5_note_40 : decode cX5_note 40 = .ok (.iadd, 1) := by decide +kernel
theorem dX5_note_41 : decode cX5_note 41 = .ok (.putfield 140, 3) := by decide +kernel
theorem dX5_note_44 : decode cX5_note 44 = .ok (.aload_n 0, 1) := by decide +kernel
theorem dX5_note_45 : decode cX5_note 45 = .ok (.getfield 140, 3) := by decide +kernel
theorem dX5_note_48 : decode cX5_note 48 = .ok (.ireturn, 1) := by decide +kernel
theorem dX5_ring_0 : decode cX5_ring 0 = .ok (.iload_n 1, 1) := by decide +kernel
theorem dX5_ring_1 : decode cX5_ring 1 = .ok (.iconst 0, 1) := by decide +kernel
theorem dX5_ring_2 : decode cX5_ring 2 = .ok (.sipush 200, 3) := by decide +kernel
theorem dX5_ring_5 : decode cX5_ring 5 = .ok (.invokestatic 90, 3) := by decide +kernel
theorem dX5_ring_8 : decode cX5_ring 8 = .ok (.ifCond .ne 5, 3) := by decide +kernel
theorem dX5_ring_11 : decode cX5_ring 11 = .ok (.iconst 0, 1) := by decide +kernel
theorem dX5_ring_12 : decode cX5_ring 12 = .ok (.ireturn, 1) := by decide +kernel
theorem dX5_ring_13 : decode cX5_ring 13 = .ok (.aload_n 0, 1) := by decide +kernel
theorem dX5_ring_14 : decode cX5_ring 14 = .ok (.iload_n 1, 1) := by decide +kernel
theorem dX5_ring_15 : decode cX5_ring 15 = .ok (.putfield 143, 3) := by decide +kernel
theorem dX5_ring_18 : decode cX5_ring 18 = .ok (.aload_n 0, 1) := by decide +kernel
theorem dX5_ring_19 : decode cX5_ring 19 = .ok (.iconst 0, 1) := by decide +kernel
theorem dX5_ring_20 : decode cX5_ring 20 = .ok (.putfield 140, 3) := by decide +kernel
theorem dX5_ring_23 : decode cX5_ring 23 = .ok (.iconst 1, 1) := by decide +kernel
theorem dX5_ring_24 : decode cX5_ring 24 = .ok (.ireturn, 1) := by decide +kernel
theorem dX5_agrees_0 : decode cX5_agrees 0 = .ok (.aload_n 0, 1) := by decide +kernel
theorem dX5_agrees_1 : decode cX5_agrees 1 = .ok (.getfield 80, 3) := by decide +kernel
theorem dX5_agrees_4 : decode cX5_agrees 4 = .ok (.iload_n 3, 1) := by decide +kernel
theorem dX5_agrees_5 : decode cX5_agrees 5 = .ok (.iaload, 1) := by decide +kernel
theorem dX5_agrees_6 : decode cX5_agrees 6 = .ok (.aload_n 0, 1) := by decide +kernel
theorem dX5_agrees_7 : decode cX5_agrees 7 = .ok (.getfield 80, 3) := by decide +kernel
theorem dX5_agrees_10 : decode cX5_agrees 10 = .ok (.iload_n 1, 1) := by decide +kernel
theorem dX5_agrees_11 : decode cX5_agrees 11 = .ok (.iaload, 1) := by decide +kernel
theorem dX5_agrees_12 : decode cX5_agrees 12 = .ok (.isub, 1) := by decide +kernel
theorem dX5_agrees_13 : decode cX5_agrees 13 = .ok (.aload_n 0, 1) := by decide +kernel
theorem dX5_agrees_14 : decode cX5_agrees 14 = .ok (.getfield 65, 3) := by decide +kernel
theorem dX5_agrees_17 : decode cX5_agrees 17 = .ok (.iload_n 2, 1) := by decide +kernel
theorem dX5_agrees_18 : decode cX5_agrees 18 = .ok (.iaload, 1) := by decide +kernel
theorem dX5_agrees_19 : decode cX5_agrees 19 = .ok (.isub, 1) := by decide +kernel
theorem dX5_agrees_20 : decode cX5_agrees 20 = .ok (.istore 4, 2) := by decide +kernel
theorem dX5_agrees_22 : decode cX5_agrees 22 = .ok (.iload 4, 2) := by decide +kernel
theorem dX5_agrees_24 : decode cX5_agrees 24 = .ok (.aload_n 0, 1) := by decide +kernel
theorem dX5_agrees_25 : decode cX5_agrees 25 = .ok (.getfield 143, 3) := by decide +kernel
theorem dX5_agrees_28 : decode cX5_agrees 28 = .ok (.ineg, 1) := by decide +kernel
theorem dX5_agrees_29 : decode cX5_agrees 29 = .ok (.if_icmp .lt 16, 3) := by decide +kernel
theorem dX5_agrees_32 : decode cX5_agrees 32 = .ok (.iload 4, 2) := by decide +kernel
theorem dX5_agrees_34 : decode cX5_agrees 34 = .ok (.aload_n 0, 1) := by decide +kernel
theorem dX5_agrees_35 : decode cX5_agrees 35 = .ok (.getfield 143, 3) := by decide +kernel
theorem dX5_agrees_38 : decode cX5_agrees 38 = .ok (.if_icmp .gt 7, 3) := by decide +kernel
theorem dX5_agrees_41 : decode cX5_agrees 41 = .ok (.iconst 1, 1) := by decide +kernel
theorem dX5_agrees_42 : decode cX5_agrees 42 = .ok (.goto 4, 3) := by decide +kernel
theorem dX5_agrees_45 : decode cX5_agrees 45 = .ok (.iconst 0, 1) := by decide +kernel
theorem dX5_agrees_46 : decode cX5_agrees 46 = .ok (.ireturn, 1) := by decide +kernel
theorem dX5_lightest_0 : decode cX5_lightest 0 = .ok (.iconst 1, 1) := by decide +kernel
theorem dX5_lightest_1 : decode cX5_lightest 1 = .ok (.aload_n 0, 1) := by decide +kernel
theorem dX5_lightest_2 : decode cX5_lightest 2 = .ok (.getfield 140, 3) := by decide +kernel
theorem dX5_lightest_5 : decode cX5_lightest 5 = .ok (.ishl, 1) := by decide +kernel
theorem dX5_lightest_6 : decode cX5_lightest 6 = .ok (.istore 4, 2) := by decide +kernel
theorem dX5_lightest_8 : decode cX5_lightest 8 = .ok (.iconst 0, 1) := by decide +kernel
theorem dX5_lightest_9 : decode cX5_lightest 9 = .ok (.istore 5, 2) := by decide +kernel
theorem dX5_lightest_11 : decode cX5_lightest 11 = .ok (.iload 5, 2) := by decide +kernel
theorem dX5_lightest_13 : decode cX5_lightest 13 = .ok (.iload 4, 2) := by decide +kernel
theorem dX5_lightest_15 : decode cX5_lightest 15 = .ok (.if_icmp .ge 17, 3) := by decide +kernel
theorem dX5_lightest_18 : decode cX5_lightest 18 = .ok (.aload_n 0, 1) := by decide +kernel
theorem dX5_lightest_19 : decode cX5_lightest 19 = .ok (.getfield 83, 3) := by decide +kernel
theorem dX5_lightest_22 : decode cX5_lightest 22 = .ok (.iload 5, 2) := by decide +kernel
theorem dX5_lightest_24 : decode cX5_lightest 24 = .ok (.iconst (-1), 1) := by decide +kernel
theorem dX5_lightest_25 : decode cX5_lightest 25 = .ok (.iastore, 1) := by decide +kernel
theorem dX5_lightest_26 : decode cX5_lightest 26 = .ok (.iinc 5 1, 3) := by decide +kernel
theorem dX5_lightest_29 : decode cX5_lightest 29 = .ok (.goto (-18), 3) := by decide +kernel
theorem dX5_lightest_32 : decode cX5_lightest 32 = .ok (.aload_n 0, 1) := by decide +kernel
theorem dX5_lightest_33 : decode cX5_lightest 33 = .ok (.getfield 83, 3) := by decide +kernel
theorem dX5_lightest_36 : decode cX5_lightest 36 = .ok (.iconst 1, 1) := by decide +kernel
theorem dX5_lightest_37 : decode cX5_lightest 37 = .ok (.iload_n 2, 1) := by decide +kernel
theorem dX5_lightest_38 : decode cX5_lightest 38 = .ok (.ishl, 1) := by decide +kernel
theorem dX5_lightest_39 : decode cX5_lightest 39 = .ok (.iconst 1, 1) := by decide +kernel
theorem dX5_lightest_40 : decode cX5_lightest 40 = .ok (.isub, 1) := by decide +kernel
theorem dX5_lightest_41 : decode cX5_lightest 41 = .ok (.iconst 0, 1) := by decide +kernel
theorem dX5_lightest_42 : decode cX5_lightest 42 = .ok (.iastore, 1) := by decide +kernel
theorem dX5_lightest_43 : decode cX5_lightest 43 = .ok (.iconst 0, 1) := by decide +kernel
theorem dX5_lightest_44 : decode cX5_lightest 44 = .ok (.istore 5, 2) := by decide +kernel
theorem dX5_lightest_46 : decode cX5_lightest 46 = .ok (.iload 5, 2) := by decide +kernel
theorem dX5_lightest_48 : decode cX5_lightest 48 = .ok (.aload_n 0, 1) := by decide +kernel
theorem dX5_lightest_49 : decode cX5_lightest 49 = .ok (.getfield 86, 3) := by decide +kernel
theorem dX5_lightest_52 : decode cX5_lightest 52 = .ok (.if_icmp .ge 169, 3) := by decide +kernel
theorem dX5_lightest_55 : decode cX5_lightest 55 = .ok (.aload_n 0, 1) := by decide +kernel
theorem dX5_lightest_56 : decode cX5_lightest 56 = .ok (.getfield 53, 3) := by decide +kernel
theorem dX5_lightest_59 : decode cX5_lightest 59 = .ok (.iload 5, 2) := by decide +kernel
theorem dX5_lightest_61 : decode cX5_lightest 61 = .ok (.baload, 1) := by decide +kernel
theorem dX5_lightest_62 : decode cX5_lightest 62 = .ok (.ifCond .ne 153, 3) := by decide +kernel
theorem dX5_lightest_65 : decode cX5_lightest 65 = .ok (.iload_n 3, 1) := by decide +kernel
theorem dX5_lightest_66 : decode cX5_lightest 66 = .ok (.iload 5, 2) := by decide +kernel
theorem dX5_lightest_68 : decode cX5_lightest 68 = .ok (.ishr, 1) := by decide +kernel
theorem dX5_lightest_69 : decode cX5_lightest 69 = .ok (.iconst 1, 1) := by decide +kernel
theorem dX5_lightest_70 : decode cX5_lightest 70 = .ok (.iand, 1) := by decide +kernel
theorem dX5_lightest_71 : decode cX5_lightest 71 = .ok (.iconst 1, 1) := by decide +kernel
theorem dX5_lightest_72 : decode cX5_lightest 72 = .ok (.if_icmp .ne 6, 3) := by decide +kernel
theorem dX5_lightest_75 : decode cX5_lightest 75 = .ok (.goto 140, 3) := by decide +kernel
theorem dX5_lightest_78 : decode cX5_lightest 78 = .ok (.iload 4, 2) := by decide +kernel
theorem dX5_lightest_80 : decode cX5_lightest 80 = .ok (.iconst 1, 1) := by decide +kernel
theorem dX5_lightest_81 : decode cX5_lightest 81 = .ok (.isub, 1) := by decide +kernel
theorem dX5_lightest_82 : decode cX5_lightest 82 = .ok (.istore 6, 2) := by decide +kernel
theorem dX5_lightest_84 : decode cX5_lightest 84 = .ok (.iload 6, 2) := by decide +kernel
theorem dX5_lightest_86 : decode cX5_lightest 86 = .ok (.ifCond .lt 129, 3) := by decide +kernel
theorem dX5_lightest_89 : decode cX5_lightest 89 = .ok (.aload_n 0, 1) := by decide +kernel
theorem dX5_lightest_90 : decode cX5_lightest 90 = .ok (.getfield 83, 3) := by decide +kernel
theorem dX5_lightest_93 : decode cX5_lightest 93 = .ok (.iload 6, 2) := by decide +kernel
theorem dX5_lightest_95 : decode cX5_lightest 95 = .ok (.iaload, 1) := by decide +kernel
theorem dX5_lightest_96 : decode cX5_lightest 96 = .ok (.ifCond .ge 6, 3) := by decide +kernel
theorem dX5_lightest_99 : decode cX5_lightest 99 = .ok (.goto 110, 3) := by decide +kernel
theorem dX5_lightest_102 : decode cX5_lightest 102 = .ok (.iload_n 2, 1) := by decide +kernel
theorem dX5_lightest_103 : decode cX5_lightest 103 = .ok (.istore 7, 2) := by decide +kernel
theorem dX5_lightest_105 : decode cX5_lightest 105 = .ok (.iload 7, 2) := by decide +kernel
theorem dX5_lightest_107 : decode cX5_lightest 107 = .ok (.aload_n 0, 1) := by decide +kernel
theorem dX5_lightest_108 : decode cX5_lightest 108 = .ok (.getfield 140, 3) := by decide +kernel
theorem dX5_lightest_111 : decode cX5_lightest 111 = .ok (.if_icmp .ge 98, 3) := by decide +kernel
theorem dX5_lightest_114 : decode cX5_lightest 114 = .ok (.iload 6, 2) := by decide +kernel
theorem dX5_lightest_116 : decode cX5_lightest 116 = .ok (.iload 7, 2) := by decide +kernel
theorem dX5_lightest_118 : decode cX5_lightest 118 = .ok (.ishr, 1) := by decide +kernel
theorem dX5_lightest_119 : decode cX5_lightest 119 = .ok (.iconst 1, 1) := by decide +kernel
theorem dX5_lightest_120 : decode cX5_lightest 120 = .ok (.iand, 1) := by decide +kernel
theorem dX5_lightest_121 : decode cX5_lightest 121 = .ok (.ifCond .ne 82, 3) := by decide +kernel
theorem dX5_lightest_124 : decode cX5_lightest 124 = .ok (.aload_n 0, 1) := by decide +kernel
theorem dX5_lightest_125 : decode cX5_lightest 125 = .ok (.iload_n 1, 1) := by decide +kernel
theorem dX5_lightest_126 : decode cX5_lightest 126 = .ok (.iload 7, 2) := by decide +kernel
theorem dX5_lightest_128 : decode cX5_lightest 128 = .ok (.iload 5, 2) := by decide +kernel
theorem dX5_lightest_130 : decode cX5_lightest 130 = .ok (.invokevirtual 146, 3) := by decide +kernel
theorem dX5_lightest_133 : decode cX5_lightest 133 = .ok (.ifCond .eq 70, 3) := by decide +kernel
theorem dX5_lightest_136 : decode cX5_lightest 136 = .ok (.iload 6, 2) := by decide +kernel
theorem dX5_lightest_138 : decode cX5_lightest 138 = .ok (.iconst 1, 1) := by decide +kernel
theorem dX5_lightest_139 : decode cX5_lightest 139 = .ok (.iload 7, 2) := by decide +kernel
theorem dX5_lightest_141 : decode cX5_lightest 141 = .ok (.ishl, 1) := by decide +kernel
theorem dX5_lightest_142 : decode cX5_lightest 142 = .ok (.ior, 1) := by decide +kernel
theorem dX5_lightest_143 : decode cX5_lightest 143 = .ok (.istore 8, 2) := by decide +kernel
theorem dX5_lightest_145 : decode cX5_lightest 145 = .ok (.aload_n 0, 1) := by decide +kernel
theorem dX5_lightest_146 : decode cX5_lightest 146 = .ok (.getfield 83, 3) := by decide +kernel
theorem dX5_lightest_149 : decode cX5_lightest 149 = .ok (.iload 6, 2) := by decide +kernel
theorem dX5_lightest_151 : decode cX5_lightest 151 = .ok (.iaload, 1) := by decide +kernel
theorem dX5_lightest_152 : decode cX5_lightest 152 = .ok (.aload_n 0, 1) := by decide +kernel
theorem dX5_lightest_153 : decode cX5_lightest 153 = .ok (.getfield 77, 3) := by decide +kernel
theorem dX5_lightest_156 : decode cX5_lightest 156 = .ok (.iload 5, 2) := by decide +kernel
theorem dX5_lightest_158 : decode cX5_lightest 158 = .ok (.iaload, 1) := by decide +kernel
theorem dX5_lightest_159 : decode cX5_lightest 159 = .ok (.iadd, 1) := by decide +kernel
theorem dX5_lightest_160 : decode cX5_lightest 160 = .ok (.istore 9, 2) := by decide +kernel
theorem dX5_lightest_162 : decode cX5_lightest 162 = .ok (.aload_n 0, 1) := by decide +kernel
theorem dX5_lightest_163 : decode cX5_lightest 163 = .ok (.getfield 83, 3) := by decide +kernel
theorem dX5_lightest_166 : decode cX5_lightest 166 = .ok (.iload 8, 2) := by decide +kernel
theorem dX5_lightest_168 : decode cX5_lightest 168 = .ok (.aload_n 0, 1) := by decide +kernel
theorem dX5_lightest_169 : decode cX5_lightest 169 = .ok (.getfield 83, 3) := by decide +kernel
theorem dX5_lightest_172 : decode cX5_lightest 172 = .ok (.iload 8, 2) := by decide +kernel
theorem dX5_lightest_174 : decode cX5_lightest 174 = .ok (.iaload, 1) := by decide +kernel
theorem dX5_lightest_175 : decode cX5_lightest 175 = .ok (.ifCond .lt 15, 3) := by decide +kernel
theorem dX5_lightest_178 : decode cX5_lightest 178 = .ok (.iload 9, 2) := by decide +kernel
theorem dX5_lightest_180 : decode cX5_lightest 180 = .ok (.aload_n 0, 1) := by decide +kernel
theorem dX5_lightest_181 : decode cX5_lightest 181 = .ok (.getfield 83, 3) := by decide +kernel
theorem dX5_lightest_184 : decode cX5_lightest 184 = .ok (.iload 8, 2) := by decide +kernel
theorem dX5_lightest_186 : decode cX5_lightest 186 = .ok (.iaload, 1) := by decide +kernel
theorem dX5_lightest_187 : decode cX5_lightest 187 = .ok (.if_icmp .ge 8, 3) := by decide +kernel
theorem dX5_lightest_190 : decode cX5_lightest 190 = .ok (.iload 9, 2) := by decide +kernel
theorem dX5_lightest_192 : decode cX5_lightest 192 = .ok (.goto 10, 3) := by decide +kernel
theorem dX5_lightest_195 : decode cX5_lightest 195 = .ok (.aload_n 0, 1) := by decide +kernel
theorem dX5_lightest_196 : decode cX5_lightest 196 = .ok (.getfield 83, 3) := by decide +kernel
theorem dX5_lightest_199 : decode cX5_lightest 199 = .ok (.iload 8, 2) := by decide +kernel
theorem dX5_lightest_201 : decode cX5_lightest 201 = .ok (.iaload, 1) := by decide +kernel
theorem dX5_lightest_202 : decode cX5_lightest 202 = .ok (.iastore, 1) := by decide +kernel
theorem dX5_lightest_203 : decode cX5_lightest 203 = .ok (.iinc 7 1, 3) := by decide +kernel
theorem dX5_lightest_206 : decode cX5_lightest 206 = .ok (.goto (-101), 3) := by decide +kernel
theorem dX5_lightest_209 : decode cX5_lightest 209 = .ok (.iinc 6 (-1), 3) := by decide +kernel
theorem dX5_lightest_212 : decode cX5_lightest 212 = .ok (.goto (-128), 3) := by decide +kernel
theorem dX5_lightest_215 : decode cX5_lightest 215 = .ok (.iinc 5 1, 3) := by decide +kernel
theorem dX5_lightest_218 : decode cX5_lightest 218 = .ok (.goto (-172), 3) := by decide +kernel
theorem dX5_lightest_221 : decode cX5_lightest 221 = .ok (.aload_n 0, 1) := by decide +kernel
theorem dX5_lightest_222 : decode cX5_lightest 222 = .ok (.getfield 83, 3) := by decide +kernel
theorem dX5_lightest_225 : decode cX5_lightest 225 = .ok (.iload 4, 2) := by decide +kernel
theorem dX5_lightest_227 : decode cX5_lightest 227 = .ok (.iconst 1, 1) := by decide +kernel
theorem dX5_lightest_228 : decode cX5_lightest 228 = .ok (.isub, 1) := by decide +kernel
theorem dX5_lightest_229 : decode cX5_lightest 229 = .ok (.iaload, 1) := by decide +kernel
theorem dX5_lightest_230 : decode cX5_lightest 230 = .ok (.ireturn, 1) := by decide +kernel
theorem dX5_rings_0 : decode cX5_rings 0 = .ok (.iconst 0, 1) := by decide +kernel
theorem dX5_rings_1 : decode cX5_rings 1 = .ok (.istore_n 1, 1) := by decide +kernel
theorem dX5_rings_2 : decode cX5_rings 2 = .ok (.iload_n 1, 1) := by decide +kernel
theorem dX5_rings_3 : decode cX5_rings 3 = .ok (.aload_n 0, 1) := by decide +kernel
theorem dX5_rings_4 : decode cX5_rings 4 = .ok (.getfield 86, 3) := by decide +kernel
theorem dX5_rings_7 : decode cX5_rings 7 = .ok (.if_icmp .ge 32, 3) := by decide +kernel
theorem dX5_rings_10 : decode cX5_rings 10 = .ok (.aload_n 0, 1) := by decide +kernel
theorem dX5_rings_11 : decode cX5_rings 11 = .ok (.getfield 77, 3) := by decide +kernel
theorem dX5_rings_14 : decode cX5_rings 14 = .ok (.iload_n 1, 1) := by decide +kernel
theorem dX5_rings_15 : decode cX5_rings 15 = .ok (.aload_n 0, 1) := by decide +kernel
theorem dX5_rings_16 : decode cX5_rings 16 = .ok (.iload_n 1, 1) := by decide +kernel
theorem dX5_rings_17 : decode cX5_rings 17 = .ok (.invokevirtual 115, 3) := by decide +kernel
theorem dX5_rings_20 : decode cX5_rings 20 = .ok (.iastore, 1) := by decide +kernel
theorem dX5_rings_21 : decode cX5_rings 21 = .ok (.aload_n 0, 1) := by decide +kernel
theorem dX5_rings_22 : decode cX5_rings 22 = .ok (.getfield 80, 3) := by decide +kernel
theorem dX5_rings_25 : decode cX5_rings 25 = .ok (.iload_n 1, 1) := by decide +kernel
theorem dX5_rings_26 : decode cX5_rings 26 = .ok (.aload_n 0, 1) := by decide +kernel
theorem dX5_rings_27 : decode cX5_rings 27 = .ok (.iload_n 1, 1) := by decide +kernel
theorem dX5_rings_28 : decode cX5_rings 28 = .ok (.iconst 0, 1) := by decide +kernel
theorem dX5_rings_29 : decode cX5_rings 29 = .ok (.invokevirtual 120, 3) := by decide +kernel
theorem dX5_rings_32 : decode cX5_rings 32 = .ok (.iastore, 1) := by decide +kernel
theorem dX5_rings_33 : decode cX5_rings 33 = .ok (.iinc 1 1, 3) := by decide +kernel
theorem dX5_rings_36 : decode cX5_rings 36 = .ok (.goto (-34), 3) := by decide +kernel
theorem dX5_rings_39 : decode cX5_rings 39 = .ok (.iconst (-1), 1) := by decide +kernel
theorem dX5_rings_40 : decode cX5_rings 40 = .ok (.istore_n 1, 1) := by decide +kernel
theorem dX5_rings_41 : decode cX5_rings 41 = .ok (.iconst (-1), 1) := by decide +kernel
theorem dX5_rings_42 : decode cX5_rings 42 = .ok (.istore_n 2, 1) := by decide +kernel
theorem dX5_rings_43 : decode cX5_rings 43 = .ok (.iconst 0, 1) := by decide +kernel
theorem dX5_rings_44 : decode cX5_rings 44 = .ok (.istore_n 3, 1) := by decide +kernel
theorem dX5_rings_45 : decode cX5_rings 45 = .ok (.iload_n 3, 1) := by decide +kernel
theorem dX5_rings_46 : decode cX5_rings 46 = .ok (.aload_n 0, 1) := by decide +kernel
theorem dX5_rings_47 : decode cX5_rings 47 = .ok (.getfield 86, 3) := by decide +kernel
theorem dX5_rings_50 : decode cX5_rings 50 = .ok (.if_icmp .ge 74, 3) := by decide +kernel
theorem dX5_rings_53 : decode cX5_rings 53 = .ok (.aload_n 0, 1) := by decide +kernel
theorem dX5_rings_54 : decode cX5_rings 54 = .ok (.getfield 140, 3) := by decide +kernel
theorem dX5_rings_57 : decode cX5_rings 57 = .ok (.ifCond .le 67, 3) := by decide +kernel
theorem dX5_rings_60 : decode cX5_rings 60 = .ok (.aload_n 0, 1) := by decide +kernel
theorem dX5_rings_61 : decode cX5_rings 61 = .ok (.getfield 53, 3) := by decide +kernel
theorem dX5_rings_64 : decode cX5_rings 64 = .ok (.iload_n 3, 1) := by decide +kernel
theorem dX5_rings_65 : decode cX5_rings 65 = .ok (.baload, 1) := by decide +kernel
theorem dX5_rings_66 : decode cX5_rings 66 = .ok (.ifCond .eq 7, 3) := by decide +kernel
theorem dX5_rings_69 : decode cX5_rings 69 = .ok (.iconst (-1), 1) := by decide +kernel
theorem dX5_rings_70 : decode cX5_rings 70 = .ok (.goto 12, 3) := by decide +kernel
theorem dX5_rings_73 : decode cX5_rings 73 = .ok (.aload_n 0, 1) := by decide +kernel
theorem dX5_rings_74 : decode cX5_rings 74 = .ok (.iload_n 3, 1) := by decide +kernel
theorem dX5_rings_75 : decode cX5_rings 75 = .ok (.iconst 1, 1) := by decide +kernel
theorem dX5_rings_76 : decode cX5_rings 76 = .ok (.iconst 1, 1) := by decide +kernel
theorem dX5_rings_77 : decode cX5_rings 77 = .ok (.iload_n 3, 1) := by decide +kernel
theorem dX5_rings_78 : decode cX5_rings 78 = .ok (.ishl, 1) := by decide +kernel
theorem dX5_rings_79 : decode cX5_rings 79 = .ok (.invokevirtual 149, 3) := by decide +kernel
theorem dX5_rings_82 : decode cX5_rings 82 = .ok (.istore 4, 2) := by decide +kernel
theorem dX5_rings_84 : decode cX5_rings 84 = .ok (.iload 4, 2) := by decide +kernel
theorem dX5_rings_86 : decode cX5_rings 86 = .ok (.ifCond .lt 32, 3) := by decide +kernel
theorem dX5_rings_89 : decode cX5_rings 89 = .ok (.iload_n 1, 1) := by decide +kernel
theorem dX5_rings_90 : decode cX5_rings 90 = .ok (.ifCond .lt 16, 3) := by decide +kernel
theorem dX5_rings_93 : decode cX5_rings 93 = .ok (.iload 4, 2) := by decide +kernel
theorem dX5_rings_95 : decode cX5_rings 95 = .ok (.aload_n 0, 1) := by decide +kernel
theorem dX5_rings_96 : decode cX5_rings 96 = .ok (.getfield 77, 3) := by decide +kernel
theorem dX5_rings_99 : decode cX5_rings 99 = .ok (.iload_n 3, 1) := by decide +kernel
theorem dX5_rings_100 : decode cX5_rings 100 = .ok (.iaload, 1) := by decide +kernel
theorem dX5_rings_101 : decode cX5_rings 101 = .ok (.iadd, 1) := by decide +kernel
theorem dX5_rings_102 : decode cX5_rings 102 = .ok (.iload_n 1, 1) := by decide +kernel
theorem dX5_rings_103 : decode cX5_rings 103 = .ok (.if_icmp .ge 15, 3) := by decide +kernel
theorem dX5_rings_106 : decode cX5_rings 106 = .ok (.iload 4, 2) := by decide +kernel
theorem dX5_rings_108 : decode cX5_rings 108 = .ok (.aload_n 0, 1) := by decide +kernel
theorem dX5_rings_109 : decode cX5_rings 109 = .ok (.getfield 77, 3) := by decide +kernel
theorem dX5_rings_112 : decode cX5_rings 112 = .ok (.iload_n 3, 1) := by decide +kernel
theorem dX5_rings_113 : decode cX5_rings 113 = .ok (.iaload, 1) := by decide +kernel
theorem dX5_rings_114 : decode cX5_rings 114 = .ok (.iadd, 1) := by decide +kernel
theorem dX5_rings_115 : decode cX5_rings 115 = .ok (.istore_n 1, 1) := by decide +kernel
theorem dX5_rings_116 : decode cX5_rings 116 = .ok (.iload_n 3, 1) := by decide +kernel
theorem dX5_rings_117 : decode cX5_rings 117 = .ok (.istore_n 2, 1) := by decide +kernel
theorem dX5_rings_118 : decode cX5_rings 118 = .ok (.iinc 3 1, 3) := by decide +kernel
theorem dX5_rings_121 : decode cX5_rings 121 = .ok (.goto (-76), 3) := by decide +kernel
theorem dX5_rings_124 : decode cX5_rings 124 = .ok (.iload_n 1, 1) := by decide +kernel
theorem dX5_rings_125 : decode cX5_rings 125 = .ok (.ifCond .ge 5, 3) := by decide +kernel
theorem dX5_rings_128 : decode cX5_rings 128 = .ok (.iconst (-1), 1) := by decide +kernel
theorem dX5_rings_129 : decode cX5_rings 129 = .ok (.ireturn, 1) := by decide +kernel
theorem dX5_rings_130 : decode cX5_rings 130 = .ok (.aload_n 0, 1) := by decide +kernel
theorem dX5_rings_131 : decode cX5_rings 131 = .ok (.getfield 74, 3) := by decide +kernel
theorem dX5_rings_134 : decode cX5_rings 134 = .ok (.iconst 0, 1) := by decide +kernel
theorem dX5_rings_135 : decode cX5_rings 135 = .ok (.iload_n 2, 1) := by decide +kernel
theorem dX5_rings_136 : decode cX5_rings 136 = .ok (.iastore, 1) := by decide +kernel
theorem dX5_rings_137 : decode cX5_rings 137 = .ok (.iconst 1, 1) := by decide +kernel
theorem dX5_rings_138 : decode cX5_rings 138 = .ok (.iload_n 2, 1) := by decide +kernel
theorem dX5_rings_139 : decode cX5_rings 139 = .ok (.ishl, 1) := by decide +kernel
theorem dX5_rings_140 : decode cX5_rings 140 = .ok (.istore_n 3, 1) := by decide +kernel
theorem dX5_rings_141 : decode cX5_rings 141 = .ok (.iload_n 1, 1) := by decide +kernel
theorem dX5_rings_142 : decode cX5_rings 142 = .ok (.aload_n 0, 1) := by decide +kernel
theorem dX5_rings_143 : decode cX5_rings 143 = .ok (.getfield 77, 3) := by decide +kernel
theorem dX5_rings_146 : decode cX5_rings 146 = .ok (.iload_n 2, 1) := by decide +kernel
theorem dX5_rings_147 : decode cX5_rings 147 = .ok (.iaload, 1) := by decide +kernel
theorem dX5_rings_148 : decode cX5_rings 148 = .ok (.isub, 1) := by decide +kernel
theorem dX5_rings_149 : decode cX5_rings 149 = .ok (.istore 4, 2) := by decide +kernel
theorem dX5_rings_151 : decode cX5_rings 151 = .ok (.iconst 1, 1) := by decide +kernel
theorem dX5_rings_152 : decode cX5_rings 152 = .ok (.istore 5, 2) := by decide +kernel
theorem dX5_rings_154 : decode cX5_rings 154 = .ok (.iload 5, 2) := by decide +kernel
theorem dX5_rings_156 : decode cX5_rings 156 = .ok (.aload_n 0, 1) := by decide +kernel
theorem dX5_rings_157 : decode cX5_rings 157 = .ok (.getfield 140, 3) := by decide +kernel
theorem dX5_rings_160 : decode cX5_rings 160 = .ok (.if_icmp .ge 61, 3) := by decide +kernel
theorem dX5_rings_163 : decode cX5_rings 163 = .ok (.iconst 0, 1) := by decide +kernel
theorem dX5_rings_164 : decode cX5_rings 164 = .ok (.istore 6, 2) := by decide +kernel
theorem dX5_rings_166 : decode cX5_rings 166 = .ok (.aload_n 0, 1) := by decide +kernel
theorem dX5_rings_167 : decode cX5_rings 167 = .ok (.iload_n 2, 1) := by decide +kernel
theorem dX5_rings_168 : decode cX5_rings 168 = .ok (.iload 5, 2) := by decide +kernel
theorem dX5_rings_170 : decode cX5_rings 170 = .ok (.iload 6, 2) := by decide +kernel
theorem dX5_rings_172 : decode cX5_rings 172 = .ok (.iload_n 3, 1) := by decide +kernel
theorem dX5_rings_173 : decode cX5_rings 173 = .ok (.iload 4, 2) := by decide +kernel
theorem dX5_rings_175 : decode cX5_rings 175 = .ok (.invokevirtual 153, 3) := by decide +kernel
theorem dX5_rings_178 : decode cX5_rings 178 = .ok (.ifCond .ne 9, 3) := by decide +kernel
theorem dX5_rings_181 : decode cX5_rings 181 = .ok (.iinc 6 1, 3) := by decide +kernel
theorem dX5_rings_184 : decode cX5_rings 184 = .ok (.goto (-18), 3) := by decide +kernel
theorem dX5_rings_187 : decode cX5_rings 187 = .ok (.aload_n 0, 1) := by decide +kernel
theorem dX5_rings_188 : decode cX5_rings 188 = .ok (.getfield 74, 3) := by decide +kernel
theorem dX5_rings_191 : decode cX5_rings 191 = .ok (.iload 5, 2) := by decide +kernel
theorem dX5_rings_193 : decode cX5_rings 193 = .ok (.iload 6, 2) := by decide +kernel
theorem dX5_rings_195 : decode cX5_rings 195 = .ok (.iastore, 1) := by decide +kernel
theorem dX5_rings_196 : decode cX5_rings 196 = .ok (.iload_n 3, 1) := by decide +kernel
theorem dX5_rings_197 : decode cX5_rings 197 = .ok (.iconst 1, 1) := by decide +kernel
theorem dX5_rings_198 : decode cX5_rings 198 = .ok (.iload 6, 2) := by decide +kernel
theorem dX5_rings_200 : decode cX5_rings 200 = .ok (.ishl, 1) := by decide +kernel
theorem dX5_rings_201 : decode cX5_rings 201 = .ok (.ior, 1) := by decide +kernel
theorem dX5_rings_202 : decode cX5_rings 202 = .ok (.istore_n 3, 1) := by decide +kernel
theorem dX5_rings_203 : decode cX5_rings 203 = .ok (.iload 4, 2) := by decide +kernel
theorem dX5_rings_205 : decode cX5_rings 205 = .ok (.aload_n 0, 1) := by decide +kernel
theorem dX5_rings_206 : decode cX5_rings 206 = .ok (.getfield 77, 3) := by decide +kernel
theorem dX5_rings_209 : decode cX5_rings 209 = .ok (.iload 6, 2) := by decide +kernel
theorem dX5_rings_211 : decode cX5_rings 211 = .ok (.iaload, 1) := by decide +kernel
theorem dX5_rings_212 : decode cX5_rings 212 = .ok (.isub, 1) := by decide +kernel
theorem dX5_rings_213 : decode cX5_rings 213 = .ok (.istore 4, 2) := by decide +kernel
theorem dX5_rings_215 : decode cX5_rings 215 = .ok (.iinc 5 1, 3) := by decide +kernel
theorem dX5_rings_218 : decode cX5_rings 218 = .ok (.goto (-64), 3) := by decide +kernel
theorem dX5_rings_221 : decode cX5_rings 221 = .ok (.iload_n 1, 1) := by decide +kernel
theorem dX5_rings_222 : decode cX5_rings 222 = .ok (.ireturn, 1) := by decide +kernel
theorem dX5_fits_0 : decode cX5_fits 0 = .ok (.aload_n 0, 1) := by decide +kernel
theorem dX5_fits_1 : decode cX5_fits 1 = .ok (.getfield 53, 3) := by decide +kernel
theorem dX5_fits_4 : decode cX5_fits 4 = .ok (.iload_n 3, 1) := by decide +kernel
theorem dX5_fits_5 : decode cX5_fits 5 = .ok (.baload, 1) := by decide +kernel
theorem dX5_fits_6 : decode cX5_fits 6 = .ok (.ifCond .ne 23, 3) := by decide +kernel
theorem dX5_fits_9 : decode cX5_fits 9 = .ok (.iload 4, 2) := by decide +kernel
theorem dX5_fits_11 : decode cX5_fits 11 = .ok (.iload_n 3, 1) := by decide +kernel
theorem dX5_fits_12 : decode cX5_fits 12 = .ok (.ishr, 1) := by decide +kernel
theorem dX5_fits_13 : decode cX5_fits 13 = .ok (.iconst 1, 1) := by decide +kernel
theorem dX5_fits_14 : decode cX5_fits 14 = .ok (.iand, 1) := by decide +kernel
theorem dX5_fits_15 : decode cX5_fits 15 = .ok (.iconst 1, 1) := by decide +kernel
theorem dX5_fits_16 : decode cX5_fits 16 = .ok (.if_icmp .eq 13, 3) := by decide +kernel
theorem dX5_fits_19 : decode cX5_fits 19 = .ok (.aload_n 0, 1) := by decide +kernel
theorem dX5_fits_20 : decode cX5_fits 20 = .ok (.iload_n 1, 1) := by decide +kernel
theorem dX5_fits_21 : decode cX5_fits 21 = .ok (.iload_n 2, 1) := by decide +kernel
theorem dX5_fits_22 : decode cX5_fits 22 = .ok (.iload_n 3, 1) := by decide +kernel
theorem dX5_fits_23 : decode cX5_fits 23 = .ok (.invokevirtual 146, 3) := by decide +kernel
theorem dX5_fits_26 : decode cX5_fits 26 = .ok (.ifCond .ne 5, 3) := by decide +kernel
theorem dX5_fits_29 : decode cX5_fits 29 = .ok (.iconst 0, 1) := by decide +kernel
theorem dX5_fits_30 : decode cX5_fits 30 = .ok (.ireturn, 1) := by decide +kernel
theorem dX5_fits_31 : decode cX5_fits 31 = .ok (.aload_n 0, 1) := by decide +kernel
theorem dX5_fits_32 : decode cX5_fits 32 = .ok (.iload_n 1, 1) := by decide +kernel
theorem dX5_fits_33 : decode cX5_fits 33 = .ok (.iload_n 2, 1) := by decide +kernel
theorem dX5_fits_34 : decode cX5_fits 34 = .ok (.iconst 1, 1) := by decide +kernel
theorem dX5_fits_35 : decode cX5_fits 35 = .ok (.iadd, 1) := by decide +kernel
theorem dX5_fits_36 : decode cX5_fits 36 = .ok (.iload 4, 2) := by decide +kernel
theorem dX5_fits_38 : decode cX5_fits 38 = .ok (.iconst 1, 1) := by decide +kernel
theorem dX5_fits_39 : decode cX5_fits 39 = .ok (.iload_n 3, 1) := by decide +kernel
theorem dX5_fits_40 : decode cX5_fits 40 = .ok (.ishl, 1) := by decide +kernel
theorem dX5_fits_41 : decode cX5_fits 41 = .ok (.ior, 1) := by decide +kernel
theorem dX5_fits_42 : decode cX5_fits 42 = .ok (.invokevirtual 149, 3) := by decide +kernel
theorem dX5_fits_45 : decode cX5_fits 45 = .ok (.istore 6, 2) := by decide +kernel
theorem dX5_fits_47 : decode cX5_fits 47 = .ok (.iload 6, 2) := by decide +kernel
theorem dX5_fits_49 : decode cX5_fits 49 = .ok (.ifCond .lt 21, 3) := by decide +kernel
theorem dX5_fits_52 : decode cX5_fits 52 = .ok (.iload 6, 2) := by decide +kernel
theorem dX5_fits_54 : decode cX5_fits 54 = .ok (.aload_n 0, 1) := by decide +kernel
theorem dX5_fits_55 : decode cX5_fits 55 = .ok (.getfield 77, 3) := by decide +kernel
theorem dX5_fits_58 : decode cX5_fits 58 = .ok (.iload_n 3, 1) := by decide +kernel
theorem dX5_fits_59 : decode cX5_fits 59 = .ok (.iaload, 1) := by decide +kernel
theorem dX5_fits_60 : decode cX5_fits 60 = .ok (.iadd, 1) := by decide +kernel
theorem dX5_fits_61 : decode cX5_fits 61 = .ok (.iload 5, 2) := by decide +kernel
theorem dX5_fits_63 : decode cX5_fits 63 = .ok (.if_icmp .ne 7, 3) := by decide +kernel
theorem dX5_fits_66 : decode cX5_fits 66 = .ok (.iconst 1, 1) := by decide +kernel
theorem dX5_fits_67 : decode cX5_fits 67 = .ok (.goto 4, 3) := by decide +kernel
theorem dX5_fits_70 : decode cX5_fits 70 = .ok (.iconst 0, 1) := by decide +kernel
theorem dX5_fits_71 : decode cX5_fits 71 = .ok (.ireturn, 1) := by decide +kernel
theorem dX5_ringWeight_0 : decode cX5_ringWeight 0 = .ok (.aload_n 0, 1) := by decide +kernel
theorem dX5_ringWeight_1 : decode cX5_ringWeight 1 = .ok (.invokevirtual 157, 3) := by decide +kernel
theorem dX5_ringWeight_4 : decode cX5_ringWeight 4 = .ok (.ireturn, 1) := by decide +kernel
theorem dX5_ringBell_0 : decode cX5_ringBell 0 = .ok (.iload_n 1, 1) := by decide +kernel
theorem dX5_ringBell_1 : decode cX5_ringBell 1 = .ok (.iconst 0, 1) := by decide +kernel
theorem dX5_ringBell_2 : decode cX5_ringBell 2 = .ok (.aload_n 0, 1) := by decide +kernel
theorem dX5_ringBell_3 : decode cX5_ringBell 3 = .ok (.getfield 140, 3) := by decide +kernel
theorem dX5_ringBell_6 : decode cX5_ringBell 6 = .ok (.iconst 1, 1) := by decide +kernel
theorem dX5_ringBell_7 : decode cX5_ringBell 7 = .ok (.isub, 1) := by decide +kernel
theorem dX5_ringBell_8 : decode cX5_ringBell 8 = .ok (.invokestatic 90, 3) := by decide +kernel
theorem dX5_ringBell_11 : decode cX5_ringBell 11 = .ok (.ifCond .eq 19, 3) := by decide +kernel
theorem dX5_ringBell_14 : decode cX5_ringBell 14 = .ok (.aload_n 0, 1) := by decide +kernel
theorem dX5_ringBell_15 : decode cX5_ringBell 15 = .ok (.invokevirtual 157, 3) := by decide +kernel
theorem dX5_ringBell_18 : decode cX5_ringBell 18 = .ok (.ifCond .lt 12, 3) := by decide +kernel
theorem dX5_ringBell_21 : decode cX5_ringBell 21 = .ok (.aload_n 0, 1) := by decide +kernel
theorem dX5_ringBell_22 : decode cX5_ringBell 22 = .ok (.getfield 74, 3) := by decide +kernel
theorem dX5_ringBell_25 : decode cX5_ringBell 25 = .ok (.iload_n 1, 1) := by decide +kernel
theorem dX5_ringBell_26 : decode cX5_ringBell 26 = .ok (.iaload, 1) := by decide +kernel
theorem dX5_ringBell_27 : decode cX5_ringBell 27 = .ok (.goto 4, 3) := by decide +kernel
theorem dX5_ringBell_30 : decode cX5_ringBell 30 = .ok (.iconst (-1), 1) := by decide +kernel
theorem dX5_ringBell_31 : decode cX5_ringBell 31 = .ok (.ireturn, 1) := by decide +kernel
theorem dX5_pulls_0 : decode cX5_pulls 0 = .ok (.iconst 0, 1) := by decide +kernel
theorem dX5_pulls_1 : decode cX5_pulls 1 = .ok (.istore_n 1, 1) := by decide +kernel
theorem dX5_pulls_2 : decode cX5_pulls 2 = .ok (.iconst 0, 1) := by decide +kernel
theorem dX5_pulls_3 : decode cX5_pulls 3 = .ok (.istore_n 2, 1) := by decide +kernel
theorem dX5_pulls_4 : decode cX5_pulls 4 = .ok (.iload_n 2, 1) := by decide +kernel
theorem dX5_pulls_5 : decode cX5_pulls 5 = .ok (.aload_n 0, 1) := by decide +kernel
theorem dX5_pulls_6 : decode cX5_pulls 6 = .ok (.getfield 86, 3) := by decide +kernel
theorem dX5_pulls_9 : decode cX5_pulls 9 = .ok (.if_icmp .ge 23, 3) := by decide +kernel
theorem dX5_pulls_12 : decode cX5_pulls 12 = .ok (.iload_n 1, 1) := by decide +kernel
theorem dX5_pulls_13 : decode cX5_pulls 13 = .ok (.aload_n 0, 1) := by decide +kernel
theorem dX5_pulls_14 : decode cX5_pulls 14 = .ok (.iload_n 2, 1) := by decide +kernel
theorem dX5_pulls_15 : decode cX5_pulls 15 = .ok (.aload_n 0, 1) := by decide +kernel
theorem dX5_pulls_16 : decode cX5_pulls 16 = .ok (.getfield 56, 3) := by decide +kernel
theorem dX5_pulls_19 : decode cX5_pulls 19 = .ok (.iload_n 2, 1) := by decide +kernel
theorem dX5_pulls_20 : decode cX5_pulls 20 = .ok (.iaload, 1) := by decide +kernel
theorem dX5_pulls_21 : decode cX5_pulls 21 = .ok (.invokevirtual 124, 3) := by decide +kernel
theorem dX5_pulls_24 : decode cX5_pulls 24 = .ok (.iadd, 1) := by decide +kernel
theorem dX5_pulls_25 : decode cX5_pulls 25 = .ok (.istore_n 1, 1) := by decide +kernel
theorem dX5_pulls_26 : decode cX5_pulls 26 = .ok (.iinc 2 1, 3) := by decide +kernel
theorem dX5_pulls_29 : decode cX5_pulls 29 = .ok (.goto (-25), 3) := by decide +kernel
theorem dX5_pulls_32 : decode cX5_pulls 32 = .ok (.iload_n 1, 1) := by decide +kernel
theorem dX5_pulls_33 : decode cX5_pulls 33 = .ok (.ireturn, 1) := by decide +kernel
theorem dX5_tower_0 : decode cX5_tower 0 = .ok (.iload_n 1, 1) := by decide +kernel
theorem dX5_tower_1 : decode cX5_tower 1 = .ok (.iconst (-1), 1) := by decide +kernel
theorem dX5_tower_2 : decode cX5_tower 2 = .ok (.iconst 4, 1) := by decide +kernel
theorem dX5_tower_3 : decode cX5_tower 3 = .ok (.invokestatic 90, 3) := by decide +kernel
theorem dX5_tower_6 : decode cX5_tower 6 = .ok (.ifCond .eq 28, 3) := by decide +kernel
theorem dX5_tower_9 : decode cX5_tower 9 = .ok (.iload_n 1, 1) := by decide +kernel
theorem dX5_tower_10 : decode cX5_tower 10 = .ok (.ifCond .lt 14, 3) := by decide +kernel
theorem dX5_tower_13 : decode cX5_tower 13 = .ok (.iload_n 2, 1) := by decide +kernel
theorem dX5_tower_14 : decode cX5_tower 14 = .ok (.iconst 0, 1) := by decide +kernel
theorem dX5_tower_15 : decode cX5_tower 15 = .ok (.sipush 300, 3) := by decide +kernel
theorem dX5_tower_18 : decode cX5_tower 18 = .ok (.invokestatic 90, 3) := by decide +kernel
theorem dX5_tower_21 : decode cX5_tower 21 = .ok (.ifCond .eq 13, 3) := by decide +kernel
theorem dX5_tower_24 : decode cX5_tower 24 = .ok (.iload_n 3, 1) := by decide +kernel
theorem dX5_tower_25 : decode cX5_tower 25 = .ok (.iconst 0, 1) := by decide +kernel
theorem dX5_tower_26 : decode cX5_tower 26 = .ok (.ldc 97, 2) := by decide +kernel
theorem dX5_tower_28 : decode cX5_tower 28 = .ok (.invokestatic 90, 3) := by decide +kernel
theorem dX5_tower_31 : decode cX5_tower 31 = .ok (.ifCond .ne 5, 3) := by decide +kernel
theorem dX5_tower_34 : decode cX5_tower 34 = .ok (.iconst 0, 1) := by decide +kernel
theorem dX5_tower_35 : decode cX5_tower 35 = .ok (.ireturn, 1) := by decide +kernel
theorem dX5_tower_36 : decode cX5_tower 36 = .ok (.iload_n 1, 1) := by decide +kernel
theorem dX5_tower_37 : decode cX5_tower 37 = .ok (.ifCond .ge 7, 3) := by decide +kernel
theorem dX5_tower_40 : decode cX5_tower 40 = .ok (.iconst 0, 1) := by decide +kernel
theorem dX5_tower_41 : decode cX5_tower 41 = .ok (.goto 9, 3) := by decide +kernel
theorem dX5_tower_44 : decode cX5_tower 44 = .ok (.aload_n 0, 1) := by decide +kernel
theorem dX5_tower_45 : decode cX5_tower 45 = .ok (.getfield 68, 3) := by decide +kernel
theorem dX5_tower_48 : decode cX5_tower 48 = .ok (.iload_n 1, 1) := by decide +kernel
theorem dX5_tower_49 : decode cX5_tower 49 = .ok (.iaload, 1) := by decide +kernel
theorem dX5_tower_50 : decode cX5_tower 50 = .ok (.istore 4, 2) := by decide +kernel
theorem dX5_tower_52 : decode cX5_tower 52 = .ok (.iload_n 1, 1) := by decide +kernel
theorem dX5_tower_53 : decode cX5_tower 53 = .ok (.ifCond .lt 10, 3) := by decide +kernel
theorem dX5_tower_56 : decode cX5_tower 56 = .ok (.aload_n 0, 1) := by decide +kernel
theorem dX5_tower_57 : decode cX5_tower 57 = .ok (.getfield 68, 3) := by decide +kernel
theorem dX5_tower_60 : decode cX5_tower 60 = .ok (.iload_n 1, 1) := by decide +kernel
theorem dX5_tower_61 : decode cX5_tower 61 = .ok (.iload_n 2, 1) := by decide +kernel
theorem dX5_tower_62 : decode cX5_tower 62 = .ok (.iastore, 1) := by decide +kernel
theorem dX5_tower_63 : decode cX5_tower 63 = .ok (.aload_n 0, 1) := by decide +kernel
theorem dX5_tower_64 : decode cX5_tower 64 = .ok (.invokevirtual 161, 3) := by decide +kernel
theorem dX5_tower_67 : decode cX5_tower 67 = .ok (.iload_n 3, 1) := by decide +kernel
theorem dX5_tower_68 : decode cX5_tower 68 = .ok (.if_icmp .le 17, 3) := by decide +kernel
theorem dX5_tower_71 : decode cX5_tower 71 = .ok (.iload_n 1, 1) := by decide +kernel
theorem dX5_tower_72 : decode cX5_tower 72 = .ok (.ifCond .lt 11, 3) := by decide +kernel
theorem dX5_tower_75 : decode cX5_tower 75 = .ok (.aload_n 0, 1) := by decide +kernel
theorem dX5_tower_76 : decode cX5_tower 76 = .ok (.getfield 68, 3) := by decide +kernel
theorem dX5_tower_79 : decode cX5_tower 79 = .ok (.iload_n 1, 1) := by decide +kernel
theorem dX5_tower_80 : decode cX5_tower 80 = .ok (.iload 4, 2) := by decide +kernel
theorem dX5_tower_82 : decode cX5_tower 82 = .ok (.iastore, 1) := by decide +kernel
theorem dX5_tower_83 : decode cX5_tower 83 = .ok (.iconst 0, 1) := by decide +kernel
theorem dX5_tower_84 : decode cX5_tower 84 = .ok (.ireturn, 1) := by decide +kernel
theorem dX5_tower_85 : decode cX5_tower 85 = .ok (.aload_n 0, 1) := by decide +kernel
theorem dX5_tower_86 : decode cX5_tower 86 = .ok (.iload_n 3, 1) := by decide +kernel
theorem dX5_tower_87 : decode cX5_tower 87 = .ok (.putfield 164, 3) := by decide +kernel
theorem dX5_tower_90 : decode cX5_tower 90 = .ok (.iconst 1, 1) := by decide +kernel
theorem dX5_tower_91 : decode cX5_tower 91 = .ok (.ireturn, 1) := by decide +kernel
theorem dX5_hang_0 : decode cX5_hang 0 = .ok (.aload_n 0, 1) := by decide +kernel
theorem dX5_hang_1 : decode cX5_hang 1 = .ok (.iload_n 1, 1) := by decide +kernel
theorem dX5_hang_2 : decode cX5_hang 2 = .ok (.invokevirtual 108, 3) := by decide +kernel
theorem dX5_hang_5 : decode cX5_hang 5 = .ok (.ifCond .eq 21, 3) := by decide +kernel
theorem dX5_hang_8 : decode cX5_hang 8 = .ok (.aload_n 0, 1) := by decide +kernel
theorem dX5_hang_9 : decode cX5_hang 9 = .ok (.getfield 53, 3) := by decide +kernel
theorem dX5_hang_12 : decode cX5_hang 12 = .ok (.iload_n 1, 1) := by decide +kernel
theorem dX5_hang_13 : decode cX5_hang 13 = .ok (.baload, 1) := by decide +kernel
theorem dX5_hang_14 : decode cX5_hang 14 = .ok (.ifCond .ne 12, 3) := by decide +kernel
theorem dX5_hang_17 : decode cX5_hang 17 = .ok (.iload_n 2, 1) := by decide +kernel
theorem dX5_hang_18 : decode cX5_hang 18 = .ok (.iconst (-1), 1) := by decide +kernel
theorem dX5_hang_19 : decode cX5_hang 19 = .ok (.iconst 4, 1) := by decide +kernel
theorem dX5_hang_20 : decode cX5_hang 20 = .ok (.invokestatic 90, 3) := by decide +kernel
theorem dX5_hang_23 : decode cX5_hang 23 = .ok (.ifCond .ne 5, 3) := by decide +kernel
theorem dX5_hang_26 : decode cX5_hang 26 = .ok (.iconst 0, 1) := by decide +kernel
theorem dX5_hang_27 : decode cX5_hang 27 = .ok (.ireturn, 1) := by decide +kernel
theorem dX5_hang_28 : decode cX5_hang 28 = .ok (.aload_n 0, 1) := by decide +kernel
theorem dX5_hang_29 : decode cX5_hang 29 = .ok (.getfield 56, 3) := by decide +kernel
theorem dX5_hang_32 : decode cX5_hang 32 = .ok (.iload_n 1, 1) := by decide +kernel
theorem dX5_hang_33 : decode cX5_hang 33 = .ok (.iaload, 1) := by decide +kernel
theorem dX5_hang_34 : decode cX5_hang 34 = .ok (.istore_n 3, 1) := by decide +kernel
theorem dX5_hang_35 : decode cX5_hang 35 = .ok (.aload_n 0, 1) := by decide +kernel
theorem dX5_hang_36 : decode cX5_hang 36 = .ok (.getfield 56, 3) := by decide +kernel
theorem dX5_hang_39 : decode cX5_hang 39 = .ok (.iload_n 1, 1) := by decide +kernel
theorem dX5_hang_40 : decode cX5_hang 40 = .ok (.iload_n 2, 1) := by decide +kernel
theorem dX5_hang_41 : decode cX5_hang 41 = .ok (.iastore, 1) := by decide +kernel
theorem dX5_hang_42 : decode cX5_hang 42 = .ok (.aload_n 0, 1) := by decide +kernel
theorem dX5_hang_43 : decode cX5_hang 43 = .ok (.invokevirtual 161, 3) := by decide +kernel
theorem dX5_hang_46 : decode cX5_hang 46 = .ok (.aload_n 0, 1) := by decide +kernel
theorem dX5_hang_47 : decode cX5_hang 47 = .ok (.getfield 164, 3) := by decide +kernel
theorem dX5_hang_50 : decode cX5_hang 50 = .ok (.if_icmp .le 12, 3) := by decide +kernel
theorem dX5_hang_53 : decode cX5_hang 53 = .ok (.aload_n 0, 1) := by decide +kernel
theorem dX5_hang_54 : decode cX5_hang 54 = .ok (.getfield 56, 3) := by decide +kernel
theorem dX5_hang_57 : decode cX5_hang 57 = .ok (.iload_n 1, 1) := by decide +kernel
theorem dX5_hang_58 : decode cX5_hang 58 = .ok (.iload_n 3, 1) := by decide +kernel
theorem dX5_hang_59 : decode cX5_hang 59 = .ok (.iastore, 1) := by decide +kernel
theorem dX5_hang_60 : decode cX5_hang 60 = .ok (.iconst 0, 1) := by decide +kernel
theorem dX5_hang_61 : decode cX5_hang 61 = .ok (.ireturn, 1) := by decide +kernel
theorem dX5_hang_62 : decode cX5_hang 62 = .ok (.iconst 1, 1) := by decide +kernel
theorem dX5_hang_63 : decode cX5_hang 63 = .ok (.ireturn, 1) := by decide +kernel
theorem dX5_about_0 : decode cX5_about 0 = .ok (.iconst 0, 1) := by decide +kernel
theorem dX5_about_1 : decode cX5_about 1 = .ok (.istore_n 2, 1) := by decide +kernel
theorem dX5_about_2 : decode cX5_about 2 = .ok (.iconst 0, 1) := by decide +kernel
theorem dX5_about_3 : decode cX5_about 3 = .ok (.istore_n 3, 1) := by decide +kernel
theorem dX5_about_4 : decode cX5_about 4 = .ok (.iload_n 3, 1) := by decide +kernel
theorem dX5_about_5 : decode cX5_about 5 = .ok (.aload_n 0, 1) := by decide +kernel
theorem dX5_about_6 : decode cX5_about 6 = .ok (.getfield 86, 3) := by decide +kernel
theorem dX5_about_9 : decode cX5_about 9 = .ok (.if_icmp .ge 30, 3) := by decide +kernel
theorem dX5_about_12 : decode cX5_about 12 = .ok (.iload_n 2, 1) := by decide +kernel
theorem dX5_about_13 : decode cX5_about 13 = .ok (.aload_n 0, 1) := by decide +kernel
theorem dX5_about_14 : decode cX5_about 14 = .ok (.getfield 53, 3) := by decide +kernel
theorem dX5_about_17 : decode cX5_about 17 = .ok (.iload_n 3, 1) := by decide +kernel
theorem dX5_about_18 : decode cX5_about 18 = .ok (.baload, 1) := by decide +kernel
theorem dX5_about_19 : decode cX5_about 19 = .ok (.ifCond .eq 7, 3) := by decide +kernel
theorem dX5_about_22 : decode cX5_about 22 = .ok (.iconst 0, 1) := by decide +kernel
theorem dX5_about_23 : decode cX5_about 23 = .ok (.goto 8, 3) := by decide +kernel
theorem dX5_about_26 : decode cX5_about 26 = .ok (.aload_n 0, 1) := by decide +kernel
theorem dX5_about_27 : decode cX5_about 27 = .ok (.iload_n 3, 1) := by decide +kernel
theorem dX5_about_28 : decode cX5_about 28 = .ok (.invokevirtual 115, 3) := by decide +kernel
theorem dX5_about_31 : decode cX5_about 31 = .ok (.iadd, 1) := by decide +kernel
theorem dX5_about_32 : decode cX5_about 32 = .ok (.istore_n 2, 1) := by decide +kernel
theorem dX5_about_33 : decode cX5_about 33 = .ok (.iinc 3 1, 3) := by decide +kernel
theorem dX5_about_36 : decode cX5_about 36 = .ok (.goto (-32), 3) := by decide +kernel
theorem dX5_about_39 : decode cX5_about 39 = .ok (.iload_n 1, 1) := by decide +kernel
theorem dX5_about_40 : decode cX5_about 40 = .ok (.tableswitch 103 0 9 #[56, 61, 66, 71, 76, 81, 83, 88, 93, 98], 56) := by decide +kernel
theorem dX5_about_96 : decode cX5_about 96 = .ok (.aload_n 0, 1) := by decide +kernel
theorem dX5_about_97 : decode cX5_about 97 = .ok (.getfield 94, 3) := by decide +kernel
theorem dX5_about_100 : decode cX5_about 100 = .ok (.ireturn, 1) := by decide +kernel
theorem dX5_about_101 : decode cX5_about 101 = .ok (.aload_n 0, 1) := by decide +kernel
theorem dX5_about_102 : decode cX5_about 102 = .ok (.getfield 86, 3) := by decide +kernel
theorem dX5_about_105 : decode cX5_about 105 = .ok (.ireturn, 1) := by decide +kernel
theorem dX5_about_106 : decode cX5_about 106 = .ok (.aload_n 0, 1) := by decide +kernel
theorem dX5_about_107 : decode cX5_about 107 = .ok (.getfield 98, 3) := by decide +kernel
theorem dX5_about_110 : decode cX5_about 110 = .ok (.ireturn, 1) := by decide +kernel
theorem dX5_about_111 : decode cX5_about 111 = .ok (.aload_n 0, 1) := by decide +kernel
theorem dX5_about_112 : decode cX5_about 112 = .ok (.getfield 102, 3) := by decide +kernel
theorem dX5_about_115 : decode cX5_about 115 = .ok (.ireturn, 1) := by decide +kernel
theorem dX5_about_116 : decode cX5_about 116 = .ok (.aload_n 0, 1) := by decide +kernel
theorem dX5_about_117 : decode cX5_about 117 = .ok (.getfield 105, 3) := by decide +kernel
theorem dX5_about_120 : decode cX5_about 120 = .ok (.ireturn, 1) := by decide +kernel
theorem dX5_about_121 : decode cX5_about 121 = .ok (.iload_n 2, 1) := by decide +kernel
theorem dX5_about_122 : decode cX5_about 122 = .ok (.ireturn, 1) := by decide +kernel
theorem dX5_about_123 : decode cX5_about 123 = .ok (.aload_n 0, 1) := by decide +kernel
theorem dX5_about_124 : decode cX5_about 124 = .ok (.getfield 140, 3) := by decide +kernel
theorem dX5_about_127 : decode cX5_about 127 = .ok (.ireturn, 1) := by decide +kernel
theorem dX5_about_128 : decode cX5_about 128 = .ok (.aload_n 0, 1) := by decide +kernel
theorem dX5_about_129 : decode cX5_about 129 = .ok (.getfield 143, 3) := by decide +kernel
theorem dX5_about_132 : decode cX5_about 132 = .ok (.ireturn, 1) := by decide +kernel
theorem dX5_about_133 : decode cX5_about 133 = .ok (.aload_n 0, 1) := by decide +kernel
theorem dX5_about_134 : decode cX5_about 134 = .ok (.invokevirtual 161, 3) := by decide +kernel
theorem dX5_about_137 : decode cX5_about 137 = .ok (.ireturn, 1) := by decide +kernel
theorem dX5_about_138 : decode cX5_about 138 = .ok (.aload_n 0, 1) := by decide +kernel
theorem dX5_about_139 : decode cX5_about 139 = .ok (.getfield 164, 3) := by decide +kernel
theorem dX5_about_142 : decode cX5_about 142 = .ok (.ireturn, 1) := by decide +kernel
theorem dX5_about_143 : decode cX5_about 143 = .ok (.iload_n 1, 1) := by decide +kernel
theorem dX5_about_144 : decode cX5_about 144 = .ok (.bipush 10, 2) := by decide +kernel
theorem dX5_about_146 : decode cX5_about 146 = .ok (.bipush 14, 2) := by decide +kernel
theorem dX5_about_148 : decode cX5_about 148 = .ok (.invokestatic 90, 3) := by decide +kernel
theorem dX5_about_151 : decode cX5_about 151 = .ok (.ifCond .eq 15, 3) := by decide +kernel
theorem dX5_about_154 : decode cX5_about 154 = .ok (.aload_n 0, 1) := by decide +kernel
theorem dX5_about_155 : decode cX5_about 155 = .ok (.getfield 68, 3) := by decide +kernel
theorem dX5_about_158 : decode cX5_about 158 = .ok (.iload_n 1, 1) := by decide +kernel
theorem dX5_about_159 : decode cX5_about 159 = .ok (.bipush 10, 2) := by decide +kernel
theorem dX5_about_161 : decode cX5_about 161 = .ok (.isub, 1) := by decide +kernel
theorem dX5_about_162 : decode cX5_about 162 = .ok (.iaload, 1) := by decide +kernel
theorem dX5_about_163 : decode cX5_about 163 = .ok (.goto 4, 3) := by decide +kernel
theorem dX5_about_166 : decode cX5_about 166 = .ok (.iconst (-1), 1) := by decide +kernel
theorem dX5_about_167 : decode cX5_about 167 = .ok (.ireturn, 1) := by decide +kernel
end
section
theorem dL_law_0 : decode cL_law 0 = .ok (.new 7, 3) := by decide +kernel
theorem dL_law_3 : decode cL_law 3 = .ok (.dup, 1) := by decide +kernel
theorem dL_law_4 : decode cL_law 4 = .ok (.invokespecial 9, 3) := by decide +kernel
theorem dL_law_7 : decode cL_law 7 = .ok (.astore_n 1, 1) := by decide +kernel
theorem dL_law_8 : decode cL_law 8 = .ok (.new 10, 3) := by decide +kernel
theorem dL_law_11 : decode cL_law 11 = .ok (.dup, 1) := by decide +kernel
theorem dL_law_12 : decode cL_law 12 = .ok (.invokespecial 12, 3) := by decide +kernel
theorem dL_law_15 : decode cL_law 15 = .ok (.astore_n 2, 1) := by decide +kernel
theorem dL_law_16 : decode cL_law 16 = .ok (.iconst 0, 1) := by decide +kernel
theorem dL_law_17 : decode cL_law 17 = .ok (.istore_n 3, 1) := by decide +kernel
theorem dL_law_18 : decode cL_law 18 = .ok (.iload_n 3, 1) := by decide +kernel
theorem dL_law_19 : decode cL_law 19 = .ok (.aload_n 0, 1) := by decide +kernel
theorem dL_law_20 : decode cL_law 20 = .ok (.arraylength, 1) := by decide +kernel
theorem dL_law_21 : decode cL_law 21 = .ok (.iconst 5, 1) := by decide +kernel
theorem dL_law_22 : decode cL_law 22 = .ok (.isub, 1) := by decide +kernel
theorem dL_law_23 : decode cL_law 23 = .ok (.if_icmp .gt 701, 3) := by decide +kernel
theorem dL_law_26 : decode cL_law 26 = .ok (.aload_n 0, 1) := by decide +kernel
theorem dL_law_27 : decode cL_law 27 = .ok (.iload_n 3, 1) := by decide +kernel
theorem dL_law_28 : decode cL_law 28 = .ok (.iaload, 1) := by decide +kernel
theorem dL_law_29 : decode cL_law 29 = .ok (.bipush 31, 2) := by decide +kernel
theorem dL_law_31 : decode cL_law 31 = .ok (.iand, 1) := by decide +kernel
theorem dL_law_32 : decode cL_law 32 = .ok (.tableswitch 686 0 19 #[96, 119, 172, 215, 248, 271, 304, 327, 350, 383, 426, 449, 472, 505, 528, 551, 564, 587, 630, 663], 96) := by decide +kernel
theorem dL_law_128 : decode cL_law 128 = .ok (.aload_n 1, 1) := by decide +kernel
theorem dL_law_129 : decode cL_law 129 = .ok (.aload_n 0, 1) := by decide +kernel
theorem dL_law_130 : decode cL_law 130 = .ok (.iload_n 3, 1) := by decide +kernel
theorem dL_law_131 : decode cL_law 131 = .ok (.iconst 1, 1) := by decide +kernel
theorem dL_law_132 : decode cL_law 132 = .ok (.iadd, 1) := by decide +kernel
theorem dL_law_133 : decode cL_law 133 = .ok (.iaload, 1) := by decide +kernel
theorem dL_law_134 : decode cL_law 134 = .ok (.invokevirtual 13, 3) := by decide +kernel
theorem dL_law_137 : decode cL_law 137 = .ok (.aload_n 2, 1) := by decide +kernel
theorem dL_law_138 : decode cL_law 138 = .ok (.aload_n 0, 1) := by decide +kernel
theorem dL_law_139 : decode cL_law 139 = .ok (.iload_n 3, 1) := by decide +kernel
theorem dL_law_140 : decode cL_law 140 = .ok (.iconst 1, 1) := by decide +kernel
theorem dL_law_141 : decode cL_law 141 = .ok (.iadd, 1) := by decide +kernel
theorem dL_law_142 : decode cL_law 142 = .ok (.iaload, 1) := by decide +kernel
theorem dL_law_143 : decode cL_law 143 = .ok (.invokevirtual 17, 3) := by decide +kernel
theorem dL_law_146 : decode cL_law 146 = .ok (.if_icmp .eq 572, 3) := by decide +kernel
theorem dL_law_149 : decode cL_law 149 = .ok (.iconst 0, 1) := by decide +kernel
theorem dL_law_150 : decode cL_law 150 = .ok (.ireturn, 1) := by decide +kernel
theorem dL_law_151 : decode cL_law 151 = .ok (.aload_n 1, 1) := by decide +kernel
theorem dL_law_152 : decode cL_law 152 = .ok (.aload_n 0, 1) := by decide +kernel
theorem dL_law_153 : decode cL_law 153 = .ok (.iload_n 3, 1) := by decide +kernel
theorem dL_law_154 : decode cL_law 154 = .ok (.iconst 1, 1) := by decide +kernel
theorem dL_law_155 : decode cL_law 155 = .ok (.iadd, 1) := by decide +kernel
theorem dL_law_156 : decode cL_law 156 = .ok (.iaload, 1) := by decide +kernel
theorem dL_law_157 : decode cL_law 157 = .ok (.aload_n 0, 1) := by decide +kernel
theorem dL_law_158 : decode cL_law 158 = .ok (.iload_n 3, 1) := by decide +kernel
theorem dL_law_159 : decode cL_law 159 = .ok (.iconst 2, 1) := by decide +kernel
theorem dL_law_160 : decode cL_law 160 = .ok (.iadd, 1) := by decide +kernel
theorem dL_law_161 : decode cL_law 161 = .ok (.iaload, 1) := by decide +kernel
theorem dL_law_162 : decode cL_law 162 = .ok (.aload_n 0, 1) := by decide +kernel
theorem dL_law_163 : decode cL_law 163 = .ok (.iload_n 3, 1) := by decide +kernel
theorem dL_law_164 : decode cL_law 164 = .ok (.iconst 3, 1) := by decide +kernel
theorem dL_law_165 : decode cL_law 165 = .ok (.iadd, 1) := by decide +kernel
theorem dL_law_166 : decode cL_law 166 = .ok (.iaload, 1) := by decide +kernel
theorem dL_law_167 : decode cL_law 167 = .ok (.aload_n 0, 1) := by decide +kernel
theorem dL_law_168 : decode cL_law 168 = .ok (.iload_n 3, 1) := by decide +kernel
theorem dL_law_169 : decode cL_law 169 = .ok (.iconst 4, 1) := by decide +kernel
theorem dL_law_170 : decode cL_law 170 = .ok (.iadd, 1) := by decide +kernel
theorem dL_law_171 : decode cL_law 171 = .ok (.iaload, 1) := by decide +kernel
theorem dL_law_172 : decode cL_law 172 = .ok (.invokevirtual 18, 3) := by decide +kernel
theorem dL_law_175 : decode cL_law 175 = .ok (.aload_n 2, 1) := by decide +kernel
theorem dL_law_176 : decode cL_law 176 = .ok (.aload_n 0, 1) := by decide +kernel
theorem dL_law_177 : decode cL_law 177 = .ok (.iload_n 3, 1) := by decide +kernel
theorem dL_law_178 : decode cL_law 178 = .ok (.iconst 1, 1) := by decide +kernel
theorem dL_law_179 : decode cL_law 179 = .ok (.iadd, 1) := by decide +kernel
theorem dL_law_180 : decode cL_law 180 = .ok (.iaload, 1) := by decide +kernel
theorem dL_law_181 : decode cL_law 181 = .ok (.aload_n 0, 1) := by decide +kernel
theorem dL_law_182 : decode cL_law 182 = .ok (.iload_n 3, 1) := by decide +kernel
theorem dL_law_183 : decode cL_law 183 = .ok (.iconst 2, 1) := by decide +kernel
theorem dL_law_184 : decode cL_law 184 = .ok (.iadd, 1) := by decide +kernel
theorem dL_law_185 : decode cL_law 185 = .ok (.iaload, 1) := by decide +kernel
theorem dL_law_186 : decode cL_law 186 = .ok (.aload_n 0, 1) := by decide +kernel
theorem dL_law_187 : decode cL_law 187 = .ok (.iload_n 3, 1) := by decide +kernel
theorem dL_law_188 : decode cL_law 188 = .ok (.iconst 3, 1) := by decide +kernel
theorem dL_law_189 : decode cL_law 189 = .ok (.iadd, 1) := by decide +kernel
theorem dL_law_190 : decode cL_law 190 = .ok (.iaload, 1) := by decide +kernel
theorem dL_law_191 : decode cL_law 191 = .ok (.aload_n 0, 1) := by decide +kernel
theorem dL_law_192 : decode cL_law 192 = .ok (.iload_n 3, 1) := by decide +kernel
theorem dL_law_193 : decode cL_law 193 = .ok (.iconst 4, 1) := by decide +kernel
theorem dL_law_194 : decode cL_law 194 = .ok (.iadd, 1) := by decide +kernel
theorem dL_law_195 : decode cL_law 195 = .ok (.iaload, 1) := by decide +kernel
theorem dL_law_196 : decode cL_law 196 = .ok (.invokevirtual 22, 3) := by decide +kernel
theorem dL_law_199 : decode cL_law 199 = .ok (.if_icmp .eq 519, 3) := by decide +kernel
theorem dL_law_202 : decode cL_law 202 = .ok (.iconst 0, 1) := by decide +kernel
theorem dL_law_203 : decode cL_law 203 = .ok (.ireturn, 1) := by decide +kernel
theorem dL_law_204 : decode cL_law 204 = .ok (.aload_n 1, 1) := by decide +kernel
theorem dL_law_205 : decode cL_law 205 = .ok (.aload_n 0, 1) := by decide +kernel
theorem dL_law_206 : decode cL_law 206 = .ok (.iload_n 3, 1) := by decide +kernel
theorem dL_law_207 : decode cL_law 207 = .ok (.iconst 1, 1) := by decide +kernel
theorem dL_law_208 : decode cL_law 208 = .ok (.iadd, 1) := by decide +kernel
theorem dL_law_209 : decode cL_law 209 = .ok (.iaload, 1) := by decide +kernel
theorem dL_law_210 : decode cL_law 210 = .ok (.aload_n 0, 1) := by decide +kernel
theorem dL_law_211 : decode cL_law 211 = .ok (.iload_n 3, 1) := by decide +kernel
theorem dL_law_212 : decode cL_law 212 = .ok (.iconst 2, 1) := by decide +kernel
theorem dL_law_213 : decode cL_law 213 = .ok (.iadd, 1) := by decide +kernel
theorem dL_law_214 : decode cL_law 214 = .ok (.iaload, 1) := by decide +kernel
theorem dL_law_215 : decode cL_law 215 = .ok (.aload_n 0, 1) := by decide +kernel
theorem dL_law_216 : decode cL_law 216 = .ok (.iload_n 3, 1) := by decide +kernel
theorem dL_law_217 : decode cL_law 217 = .ok (.iconst 3, 1) := by decide +kernel
theorem dL_law_218 : decode cL_law 218 = .ok (.iadd, 1) := by decide +kernel
theorem dL_law_219 : decode cL_law 219 = .ok (.iaload, 1) := by decide +kernel
theorem dL_law_220 : decode cL_law 220 = .ok (.invokevirtual 23, 3) := by decide +kernel
theorem dL_law_223 : decode cL_law 223 = .ok (.aload_n 2, 1) := by decide +kernel
theorem dL_law_224 : decode cL_law 224 = .ok (.aload_n 0, 1) := by decide +kernel
theorem dL_law_225 : decode cL_law 225 = .ok (.iload_n 3, 1) := by decide +kernel
theorem dL_law_226 : decode cL_law 226 = .ok (.iconst 1, 1) := by decide +kernel
theorem dL_law_227 : decode cL_law 227 = .ok (.iadd, 1) := by decide +kernel
theorem dL_law_228 : decode cL_law 228 = .ok (.iaload, 1) := by decide +kernel
theorem dL_law_229 : decode cL_law 229 = .ok (.aload_n 0, 1) := by decide +kernel
theorem dL_law_230 : decode cL_law 230 = .ok (.iload_n 3, 1) := by decide +kernel
theorem dL_law_231 : decode cL_law 231 = .ok (.iconst 2, 1) := by decide +kernel
theorem dL_law_232 : decode cL_law 232 = .ok (.iadd, 1) := by decide +kernel
theorem dL_law_233 : decode cL_law 233 = .ok (.iaload, 1) := by decide +kernel
theorem dL_law_234 : decode cL_law 234 = .ok (.aload_n 0, 1) := by decide +kernel
theorem dL_law_235 : decode cL_law 235 = .ok (.iload_n 3, 1) := by decide +kernel
theorem dL_law_236 : decode cL_law 236 = .ok (.iconst 3, 1) := by decide +kernel
theorem dL_law_237 : decode cL_law 237 = .ok (.iadd, 1) := by decide +kernel
theorem dL_law_238 : decode cL_law 238 = .ok (.iaload, 1) := by decide +kernel
theorem dL_law_239 : decode cL_law 239 = .ok (.invokevirtual 27, 3) := by decide +kernel
theorem dL_law_242 : decode cL_law 242 = .ok (.if_icmp .eq 476, 3) := by decide +kernel
theorem dL_law_245 : decode cL_law 245 = .ok (.iconst 0, 1) := by decide +kernel
theorem dL_law_246 : decode cL_law 246 = .ok (.ireturn, 1) := by decide +kernel
theorem dL_law_247 : decode cL_law 247 = .ok (.aload_n 1, 1) := by decide +kernel
theorem dL_law_248 : decode cL_law 248 = .ok (.aload_n 0, 1) := by decide +kernel
theorem dL_law_249 : decode cL_law 249 = .ok (.iload_n 3, 1) := by decide +kernel
theorem dL_law_250 : decode cL_law 250 = .ok (.iconst 1, 1) := by decide +kernel
theorem dL_law_251 : decode cL_law 251 = .ok (.iadd, 1) := by decide +kernel
theorem dL_law_252 : decode cL_law 252 = .ok (.iaload, 1) := by decide +kernel
theorem dL_law_253 : decode cL_law 253 = .ok (.aload_n 0, 1) := by decide +kernel
theorem dL_law_254 : decode cL_law 254 = .ok (.iload_n 3, 1) := by decide +kernel
theorem dL_law_255 : decode cL_law 255 = .ok (.iconst 2, 1) := by decide +kernel
theorem dL_law_256 : decode cL_law 256 = .ok (.iadd, 1) := by decide +kernel
theorem dL_law_257 : decode cL_law 257 = .ok (.iaload, 1) := by decide +kernel
theorem dL_law_258 : decode cL_law 258 = .ok (.invokevirtual 28, 3) := by decide +kernel
theorem dL_law_261 : decode cL_law 261 = .ok (.aload_n 2, 1) := by decide +kernel
theorem dL_law_262 : decode cL_law 262 = .ok (.aload_n 0, 1) := by decide +kernel
theorem dL_law_263 : decode cL_law 263 = .ok (.iload_n 3, 1) := by decide +kernel
theorem dL_law_264 : decode cL_law 264 = .ok (.iconst 1, 1) := by decide +kernel
theorem dL_law_265 : decode cL_law 265 = .ok (.iadd, 1) := by decide +kernel
theorem dL_law_266 : decode cL_law 266 = .ok (.iaload, 1) := by decide +kernel
theorem dL_law_267 : decode cL_law 267 = .ok (.aload_n 0, 1) := by decide +kernel
theorem dL_law_268 : decode cL_law 268 = .ok (.iload_n 3, 1) := by decide +kernel
theorem dL_law_269 : decode cL_law 269 = .ok (.iconst 2, 1) := by decide +kernel
theorem dL_law_270 : decode cL_law 270 = .ok (.iadd, 1) := by decide +kernel
theorem dL_law_271 : decode cL_law 271 = .ok (.iaload, 1) := by decide +kernel
theorem dL_law_272 : decode cL_law 272 = .ok (.invokevirtual 32, 3) := by decide +kernel
theorem dL_law_275 : decode cL_law 275 = .ok (.if_icmp .eq 443, 3) := by decide +kernel
theorem dL_law_278 : decode cL_law 278 = .ok (.iconst 0, 1) := by decide +kernel
theorem dL_law_279 : decode cL_law 279 = .ok (.ireturn, 1) := by decide +kernel
theorem dL_law_280 : decode cL_law 280 = .ok (.aload_n 1, 1) := by decide +kernel
theorem dL_law_281 : decode cL_law 281 = .ok (.aload_n 0, 1) := by decide +kernel
theorem dL_law_282 : decode cL_law 282 = .ok (.iload_n 3, 1) := by decide +kernel
theorem dL_law_283 : decode cL_law 283 = .ok (.iconst 1, 1) := by decide +kernel
theorem dL_law_284 : decode cL_law 284 = .ok (.iadd, 1) := by decide +kernel
theorem dL_law_285 : decode cL_law 285 = .ok (.iaload, 1) := by decide +kernel
theorem dL_law_286 : decode cL_law 286 = .ok (.invokevirtual 33, 3) := by decide +kernel
theorem dL_law_289 : decode cL_law 289 = .ok (.aload_n 2, 1) := by decide +kernel
theorem dL_law_290 : decode cL_law 290 = .ok (.aload_n 0, 1) := by decide +kernel
theorem dL_law_291 : decode cL_law 291 = .ok (.iload_n 3, 1) := by decide +kernel
theorem dL_law_292 : decode cL_law 292 = .ok (.iconst 1, 1) := by decide +kernel
theorem dL_law_293 : decode cL_law 293 = .ok (.iadd, 1) := by decide +kernel
theorem dL_law_294 : decode cL_law 294 = .ok (.iaload, 1) := by decide +kernel
theorem dL_law_295 : decode cL_law 295 = .ok (.invokevirtual 36, 3) := by decide +kernel
theorem dL_law_298 : decode cL_law 298 = .ok (.if_icmp .eq 420, 3) := by decide +kernel
theorem dL_law_301 : decode cL_law 301 = .ok (.iconst 0, 1) := by decide +kernel
theorem dL_law_302 : decode cL_law 302 = .ok (.ireturn, 1) := by decide +kernel
theorem dL_law_303 : decode cL_law 303 = .ok (.aload_n 1, 1) := by decide +kernel
theorem dL_law_304 : decode cL_law 304 = .ok (.aload_n 0, 1) := by decide +kernel
theorem dL_law_305 : decode cL_law 305 = .ok (.iload_n 3, 1) := by decide +kernel
theorem dL_law_306 : decode cL_law 306 = .ok (.iconst 1, 1) := by decide +kernel
theorem dL_law_307 : decode cL_law 307 = .ok (.iadd, 1) := by decide +kernel
theorem dL_law_308 : decode cL_law 308 = .ok (.iaload, 1) := by decide +kernel
theorem dL_law_309 : decode cL_law 309 = .ok (.aload_n 0, 1) := by decide +kernel
theorem dL_law_310 : decode cL_law 310 = .ok (.iload_n 3, 1) := by decide +kernel
theorem dL_law_311 : decode cL_law 311 = .ok (.iconst 2, 1) := by decide +kernel
theorem dL_law_312 : decode cL_law 312 = .ok (.iadd, 1) := by decide +kernel
theorem dL_law_313 : decode cL_law 313 = .ok (.iaload, 1) := by decide +kernel
theorem dL_law_314 : decode cL_law 314 = .ok (.invokevirtual 37, 3) := by decide +kernel
theorem dL_law_317 : decode cL_law 317 = .ok (.aload_n 2, 1) := by decide +kernel
theorem dL_law_318 : decode cL_law 318 = .ok (.aload_n 0, 1) := by decide +kernel
theorem dL_law_319 : decode cL_law 319 = .ok (.iload_n 3, 1) := by decide +kernel
theorem dL_law_320 : decode cL_law 320 = .ok (.iconst 1, 1) := by decide +kernel
theorem dL_law_321 : decode cL_law 321 = .ok (.iadd, 1) := by decide +kernel
theorem dL_law_322 : decode cL_law 322 = .ok (.iaload, 1) := by decide +kernel
theorem dL_law_323 : decode cL_law 323 = .ok (.aload_n 0, 1) := by decide +kernel
theorem dL_law_324 : decode cL_law 324 = .ok (.iload_n 3, 1) := by decide +kernel
theorem dL_law_325 : decode cL_law 325 = .ok (.iconst 2, 1) := by decide +kernel
theorem dL_law_326 : decode cL_law 326 = .ok (.iadd, 1) := by decide +kernel
theorem dL_law_327 : decode cL_law 327 = .ok (.iaload, 1) := by decide +kernel
theorem dL_law_328 : decode cL_law 328 = .ok (.invokevirtual 41, 3) := by decide +kernel
theorem dL_law_331 : decode cL_law 331 = .ok (.if_icmp .eq 387, 3) := by decide +kernel
theorem dL_law_334 : decode cL_law 334 = .ok (.iconst 0, 1) := by decide +kernel
theorem dL_law_335 : decode cL_law 335 = .ok (.ireturn, 1) := by decide +kernel
theorem dL_law_336 : decode cL_law 336 = .ok (.aload_n 1, 1) := by decide +kernel
theorem dL_law_337 : decode cL_law 337 = .ok (.aload_n 0, 1) := by decide +kernel
theorem dL_law_338 : decode cL_law 338 = .ok (.iload_n 3, 1) := by decide +kernel
theorem dL_law_339 : decode cL_law 339 = .ok (.iconst 1, 1) := by decide +kernel
theorem dL_law_340 : decode cL_law 340 = .ok (.iadd, 1) := by decide +kernel
theorem dL_law_341 : decode cL_law 341 = .ok (.iaload, 1) := by decide +kernel
theorem dL_law_342 : decode cL_law 342 = .ok (.invokevirtual 42, 3) := by decide +kernel
theorem dL_law_345 : decode cL_law 345 = .ok (.aload_n 2, 1) := by decide +kernel
theorem dL_law_346 : decode cL_law 346 = .ok (.aload_n 0, 1) := by decide +kernel
theorem dL_law_347 : decode cL_law 347 = .ok (.iload_n 3, 1) := by decide +kernel
theorem dL_law_348 : decode cL_law 348 = .ok (.iconst 1, 1) := by decide +kernel
theorem dL_law_349 : decode cL_law 349 = .ok (.iadd, 1) := by decide +kernel
theorem dL_law_350 : decode cL_law 350 = .ok (.iaload, 1) := by decide +kernel
theorem dL_law_351 : decode cL_law 351 = .ok (.invokevirtual 46, 3) := by decide +kernel
theorem dL_law_354 : decode cL_law 354 = .ok (.if_icmp .eq 364, 3) := by decide +kernel
theorem dL_law_357 : decode cL_law 357 = .ok (.iconst 0, 1) := by decide +kernel
theorem dL_law_358 : decode cL_law 358 = .ok (.ireturn, 1) := by decide +kernel
theorem dL_law_359 : decode cL_law 359 = .ok (.aload_n 1, 1) := by decide +kernel
theorem dL_law_360 : decode cL_law 360 = .ok (.aload_n 0, 1) := by decide +kernel
theorem dL_law_361 : decode cL_law 361 = .ok (.iload_n 3, 1) := by decide +kernel
theorem dL_law_362 : decode cL_law 362 = .ok (.iconst 1, 1) := by decide +kernel
theorem dL_law_363 : decode cL_law 363 = .ok (.iadd, 1) := by decide +kernel
theorem dL_law_364 : decode cL_law 364 = .ok (.iaload, 1) := by decide +kernel
theorem dL_law_365 : decode cL_law 365 = .ok (.invokevirtual 47, 3) := by decide +kernel
theorem dL_law_368 : decode cL_law 368 = .ok (.aload_n 2, 1) := by decide +kernel
theorem dL_law_369 : decode cL_law 369 = .ok (.aload_n 0, 1) := by decide +kernel
theorem dL_law_370 : decode cL_law 370 = .ok (.iload_n 3, 1) := by decide +kernel
theorem dL_law_371 : decode cL_law 371 = .ok (.iconst 1, 1) := by decide +kernel
theorem dL_law_372 : decode cL_law 372 = .ok (.iadd, 1) := by decide +kernel
theorem dL_law_373 : decode cL_law 373 = .ok (.iaload, 1) := by decide +kernel
theorem dL_law_374 : decode cL_law 374 = .ok (.invokevirtual 50, 3) := by decide +kernel
theorem dL_law_377 : decode cL_law 377 = .ok (.if_icmp .eq 341, 3) := by decide +kernel
theorem dL_law_380 : decode cL_law 380 = .ok (.iconst 0, 1) := by decide +kernel
theorem dL_law_381 : decode cL_law 381 = .ok (.ireturn, 1) := by decide +kernel
theorem dL_law_382 : decode cL_law 382 = .ok (.aload_n 1, 1) := by decide +kernel
theorem dL_law_383 : decode cL_law 383 = .ok (.aload_n 0, 1) := by decide +kernel
theorem dL_law_384 : decode cL_law 384 = .ok (.iload_n 3, 1) := by decide +kernel
theorem dL_law_385 : decode cL_law 385 = .ok (.iconst 1, 1) := by decide +kernel
theorem dL_law_386 : decode cL_law 386 = .ok (.iadd, 1) := by decide +kernel
theorem dL_law_387 : decode cL_law 387 = .ok (.iaload, 1) := by decide +kernel
theorem dL_law_388 : decode cL_law 388 = .ok (.aload_n 0, 1) := by decide +kernel
theorem dL_law_389 : decode cL_law 389 = .ok (.iload_n 3, 1) := by decide +kernel
theorem dL_law_390 : decode cL_law 390 = .ok (.iconst 2, 1) := by decide +kernel
theorem dL_law_391 : decode cL_law 391 = .ok (.iadd, 1) := by decide +kernel
theorem dL_law_392 : decode cL_law 392 = .ok (.iaload, 1) := by decide +kernel
theorem dL_law_393 : decode cL_law 393 = .ok (.invokevirtual 51, 3) := by decide +kernel
theorem dL_law_396 : decode cL_law 396 = .ok (.aload_n 2, 1) := by decide +kernel
theorem dL_law_397 : decode cL_law 397 = .ok (.aload_n 0, 1) := by decide +kernel
theorem dL_law_398 : decode cL_law 398 = .ok (.iload_n 3, 1) := by decide +kernel
theorem dL_law_399 : decode cL_law 399 = .ok (.iconst 1, 1) := by decide +kernel
theorem dL_law_400 : decode cL_law 400 = .ok (.iadd, 1) := by decide +kernel
theorem dL_law_401 : decode cL_law 401 = .ok (.iaload, 1) := by decide +kernel
theorem dL_law_402 : decode cL_law 402 = .ok (.aload_n 0, 1) := by decide +kernel
theorem dL_law_403 : decode cL_law 403 = .ok (.iload_n 3, 1) := by decide +kernel
theorem dL_law_404 : decode cL_law 404 = .ok (.iconst 2, 1) := by decide +kernel
theorem dL_law_405 : decode cL_law 405 = .ok (.iadd, 1) := by decide +kernel
theorem dL_law_406 : decode cL_law 406 = .ok (.iaload, 1) := by decide +kernel
theorem dL_law_407 : decode cL_law 407 = .ok (.invokevirtual 54, 3) := by decide +kernel
theorem dL_law_410 : decode cL_law 410 = .ok (.if_icmp .eq 308, 3) := by decide +kernel
theorem dL_law_413 : decode cL_law 413 = .ok (.iconst 0, 1) := by decide +kernel
theorem dL_law_414 : decode cL_law 414 = .ok (.ireturn, 1) := by decide +kernel
theorem dL_law_415 : decode cL_law 415 = .ok (.aload_n 1, 1) := by decide +kernel
theorem dL_law_416 : decode cL_law 416 = .ok (.aload_n 0, 1) := by decide +kernel
theorem dL_law_417 : decode cL_law 417 = .ok (.iload_n 3, 1) := by decide +kernel
theorem dL_law_418 : decode cL_law 418 = .ok (.iconst 1, 1) := by decide +kernel
theorem dL_law_419 : decode cL_law 419 = .ok (.iadd, 1) := by decide +kernel
theorem dL_law_420 : decode cL_law 420 = .ok (.iaload, 1) := by decide +kernel
theorem dL_law_421 : decode cL_law 421 = .ok (.aload_n 0, 1) := by decide +kernel
theorem dL_law_422 : decode cL_law 422 = .ok (.iload_n 3, 1) := by decide +kernel
theorem dL_law_423 : decode cL_law 423 = .ok (.iconst 2, 1) := by decide +kernel
theorem dL_law_424 : decode cL_law 424 = .ok (.iadd, 1) := by decide +kernel
theorem dL_law_425 : decode cL_law 425 = .ok (.iaload, 1) := by decide +kernel
theorem dL_law_426 : decode cL_law 426 = .ok (.aload_n 0, 1) := by decide +kernel
theorem dL_law_427 : decode cL_law 427 = .ok (.iload_n 3, 1) := by decide +kernel
theorem dL_law_428 : decode cL_law 428 = .ok (.iconst 3, 1) := by decide +kernel
theorem dL_law_429 : decode cL_law 429 = .ok (.iadd, 1) := by decide +kernel
theorem dL_law_430 : decode cL_law 430 = .ok (.iaload, 1) := by decide +kernel
theorem dL_law_431 : decode cL_law 431 = .ok (.invokevirtual 55, 3) := by decide +kernel
theorem dL_law_434 : decode cL_law 434 = .ok (.aload_n 2, 1) := by decide +kernel
theorem dL_law_435 : decode cL_law 435 = .ok (.aload_n 0, 1) := by decide +kernel
theorem dL_law_436 : decode cL_law 436 = .ok (.iload_n 3, 1) := by decide +kernel
theorem dL_law_437 : decode cL_law 437 = .ok (.iconst 1, 1) := by decide +kernel
theorem dL_law_438 : decode cL_law 438 = .ok (.iadd, 1) := by decide +kernel
theorem dL_law_439 : decode cL_law 439 = .ok (.iaload, 1) := by decide +kernel
theorem dL_law_440 : decode cL_law 440 = .ok (.aload_n 0, 1) := by decide +kernel
theorem dL_law_441 : decode cL_law 441 = .ok (.iload_n 3, 1) := by decide +kernel
theorem dL_law_442 : decode cL_law 442 = .ok (.iconst 2, 1) := by decide +kernel
theorem dL_law_443 : decode cL_law 443 = .ok (.iadd, 1) := by decide +kernel
theorem dL_law_444 : decode cL_law 444 = .ok (.iaload, 1) := by decide +kernel
theorem dL_law_445 : decode cL_law 445 = .ok (.aload_n 0, 1) := by decide +kernel
theorem dL_law_446 : decode cL_law 446 = .ok (.iload_n 3, 1) := by decide +kernel
theorem dL_law_447 : decode cL_law 447 = .ok (.iconst 3, 1) := by decide +kernel
theorem dL_law_448 : decode cL_law 448 = .ok (.iadd, 1) := by decide +kernel
theorem dL_law_449 : decode cL_law 449 = .ok (.iaload, 1) := by decide +kernel
theorem dL_law_450 : decode cL_law 450 = .ok (.invokevirtual 58, 3) := by decide +kernel
theorem dL_law_453 : decode cL_law 453 = .ok (.if_icmp .eq 265, 3) := by decide +kernel
theorem dL_law_456 : decode cL_law 456 = .ok (.iconst 0, 1) := by decide +kernel
theorem dL_law_457 : decode cL_law 457 = .ok (.ireturn, 1) := by decide +kernel
theorem dL_law_458 : decode cL_law 458 = .ok (.aload_n 1, 1) := by decide +kernel
theorem dL_law_459 : decode cL_law 459 = .ok (.aload_n 0, 1) := by decide +kernel
theorem dL_law_460 : decode cL_law 460 = .ok (.iload_n 3, 1) := by decide +kernel
theorem dL_law_461 : decode cL_law 461 = .ok (.iconst 1, 1) := by decide +kernel
theorem dL_law_462 : decode cL_law 462 = .ok (.iadd, 1) := by decide +kernel
theorem dL_law_463 : decode cL_law 463 = .ok (.iaload, 1) := by decide +kernel
theorem dL_law_464 : decode cL_law 464 = .ok (.invokevirtual 59, 3) := by decide +kernel
theorem dL_law_467 : decode cL_law 467 = .ok (.aload_n 2, 1) := by decide +kernel
theorem dL_law_468 : decode cL_law 468 = .ok (.aload_n 0, 1) := by decide +kernel
theorem dL_law_469 : decode cL_law 469 = .ok (.iload_n 3, 1) := by decide +kernel
theorem dL_law_470 : decode cL_law 470 = .ok (.iconst 1, 1) := by decide +kernel
theorem dL_law_471 : decode cL_law 471 = .ok (.iadd, 1) := by decide +kernel
theorem dL_law_472 : decode cL_law 472 = .ok (.iaload, 1) := by decide +kernel
theorem dL_law_473 : decode cL_law 473 = .ok (.invokevirtual 62, 3) := by decide +kernel
theorem dL_law_476 : decode cL_law 476 = .ok (.if_icmp .eq 242, 3) := by decide +kernel
theorem dL_law_479 : decode cL_law 479 = .ok (.iconst 0, 1) := by decide +kernel
theorem dL_law_480 : decode cL_law 480 = .ok (.ireturn, 1) := by decide +kernel
theorem dL_law_481 : decode cL_law 481 = .ok (.aload_n 1, 1) := by decide +kernel
theorem dL_law_482 : decode cL_law 482 = .ok (.aload_n 0, 1) := by decide +kernel
theorem dL_law_483 : decode cL_law 483 = .ok (.iload_n 3, 1) := by decide +kernel
theorem dL_law_484 : decode cL_law 484 = .ok (.iconst 1, 1) := by decide +kernel
theorem dL_law_485 : decode cL_law 485 = .ok (.iadd, 1) := by decide +kernel
theorem dL_law_486 : decode cL_law 486 = .ok (.iaload, 1) := by decide +kernel
theorem dL_law_487 : decode cL_law 487 = .ok (.invokevirtual 63, 3) := by decide +kernel
theorem dL_law_490 : decode cL_law 490 = .ok (.aload_n 2, 1) := by decide +kernel
theorem dL_law_491 : decode cL_law 491 = .ok (.aload_n 0, 1) := by decide +kernel
theorem dL_law_492 : decode cL_law 492 = .ok (.iload_n 3, 1) := by decide +kernel
theorem dL_law_493 : decode cL_law 493 = .ok (.iconst 1, 1) := by decide +kernel
theorem dL_law_494 : decode cL_law 494 = .ok (.iadd, 1) := by decide +kernel
theorem dL_law_495 : decode cL_law 495 = .ok (.iaload, 1) := by decide +kernel
theorem dL_law_496 : decode cL_law 496 = .ok (.invokevirtual 66, 3) := by decide +kernel
theorem dL_law_499 : decode cL_law 499 = .ok (.if_icmp .eq 219, 3) := by decide +kernel
theorem dL_law_502 : decode cL_law 502 = .ok (.iconst 0, 1) := by decide +kernel
theorem dL_law_503 : decode cL_law 503 = .ok (.ireturn, 1) := by decide +kernel
theorem dL_law_504 : decode cL_law 504 = .ok (.aload_n 1, 1) := by decide +kernel
theorem dL_law_505 : decode cL_law 505 = .ok (.aload_n 0, 1) := by decide +kernel
theorem dL_law_506 : decode cL_law 506 = .ok (.iload_n 3, 1) := by decide +kernel
theorem dL_law_507 : decode cL_law 507 = .ok (.iconst 1, 1) := by decide +kernel
theorem dL_law_508 : decode cL_law 508 = .ok (.iadd, 1) := by decide +kernel
theorem dL_law_509 : decode cL_law 509 = .ok (.iaload, 1) := by decide +kernel
theorem dL_law_510 : decode cL_law 510 = .ok (.aload_n 0, 1) := by decide +kernel
theorem dL_law_511 : decode cL_law 511 = .ok (.iload_n 3, 1) := by decide +kernel
theorem dL_law_512 : decode cL_law 512 = .ok (.iconst 2, 1) := by decide +kernel
theorem dL_law_513 : decode cL_law 513 = .ok (.iadd, 1) := by decide +kernel
theorem dL_law_514 : decode cL_law 514 = .ok (.iaload, 1) := by decide +kernel
theorem dL_law_515 : decode cL_law 515 = .ok (.invokevirtual 67, 3) := by decide +kernel
theorem dL_law_518 : decode cL_law 518 = .ok (.aload_n 2, 1) := by decide +kernel
theorem dL_law_519 : decode cL_law 519 = .ok (.aload_n 0, 1) := by decide +kernel
theorem dL_law_520 : decode cL_law 520 = .ok (.iload_n 3, 1) := by decide +kernel
theorem dL_law_521 : decode cL_law 521 = .ok (.iconst 1, 1) := by decide +kernel
theorem dL_law_522 : decode cL_law 522 = .ok (.iadd, 1) := by decide +kernel
theorem dL_law_523 : decode cL_law 523 = .ok (.iaload, 1) := by decide +kernel
theorem dL_law_524 : decode cL_law 524 = .ok (.aload_n 0, 1) := by decide +kernel
theorem dL_law_525 : decode cL_law 525 = .ok (.iload_n 3, 1) := by decide +kernel
theorem dL_law_526 : decode cL_law 526 = .ok (.iconst 2, 1) := by decide +kernel
theorem dL_law_527 : decode cL_law 527 = .ok (.iadd, 1) := by decide +kernel
theorem dL_law_528 : decode cL_law 528 = .ok (.iaload, 1) := by decide +kernel
theorem dL_law_529 : decode cL_law 529 = .ok (.invokevirtual 70, 3) := by decide +kernel
theorem dL_law_532 : decode cL_law 532 = .ok (.if_icmp .eq 186, 3) := by decide +kernel
theorem dL_law_535 : decode cL_law 535 = .ok (.iconst 0, 1) := by decide +kernel
theorem dL_law_536 : decode cL_law 536 = .ok (.ireturn, 1) := by decide +kernel
theorem dL_law_537 : decode cL_law 537 = .ok (.aload_n 1, 1) := by decide +kernel
theorem dL_law_538 : decode cL_law 538 = .ok (.aload_n 0, 1) := by decide +kernel
theorem dL_law_539 : decode cL_law 539 = .ok (.iload_n 3, 1) := by decide +kernel
theorem dL_law_540 : decode cL_law 540 = .ok (.iconst 1, 1) := by decide +kernel
theorem dL_law_541 : decode cL_law 541 = .ok (.iadd, 1) := by decide +kernel
theorem dL_law_542 : decode cL_law 542 = .ok (.iaload, 1) := by decide +kernel
theorem dL_law_543 : decode cL_law 543 = .ok (.invokevirtual 71, 3) := by decide +kernel
theorem dL_law_546 : decode cL_law 546 = .ok (.aload_n 2, 1) := by decide +kernel
theorem dL_law_547 : decode cL_law 547 = .ok (.aload_n 0, 1) := by decide +kernel
theorem dL_law_548 : decode cL_law 548 = .ok (.iload_n 3, 1) := by decide +kernel
theorem dL_law_549 : decode cL_law 549 = .ok (.iconst 1, 1) := by decide +kernel
theorem dL_law_550 : decode cL_law 550 = .ok (.iadd, 1) := by decide +kernel
theorem dL_law_551 : decode cL_law 551 = .ok (.iaload, 1) := by decide +kernel
theorem dL_law_552 : decode cL_law 552 = .ok (.invokevirtual 74, 3) := by decide +kernel
theorem dL_law_555 : decode cL_law 555 = .ok (.if_icmp .eq 163, 3) := by decide +kernel
theorem dL_law_558 : decode cL_law 558 = .ok (.iconst 0, 1) := by decide +kernel
theorem dL_law_559 : decode cL_law 559 = .ok (.ireturn, 1) := by decide +kernel
theorem dL_law_560 : decode cL_law 560 = .ok (.aload_n 1, 1) := by decide +kernel
theorem dL_law_561 : decode cL_law 561 = .ok (.aload_n 0, 1) := by decide +kernel
theorem dL_law_562 : decode cL_law 562 = .ok (.iload_n 3, 1) := by decide +kernel
theorem dL_law_563 : decode cL_law 563 = .ok (.iconst 1, 1) := by decide +kernel
theorem dL_law_564 : decode cL_law 564 = .ok (.iadd, 1) := by decide +kernel
theorem dL_law_565 : decode cL_law 565 = .ok (.iaload, 1) := by decide +kernel
theorem dL_law_566 : decode cL_law 566 = .ok (.invokevirtual 75, 3) := by decide +kernel
theorem dL_law_569 : decode cL_law 569 = .ok (.aload_n 2, 1) := by decide +kernel
theorem dL_law_570 : decode cL_law 570 = .ok (.aload_n 0, 1) := by decide +kernel
theorem dL_law_571 : decode cL_law 571 = .ok (.iload_n 3, 1) := by decide +kernel
theorem dL_law_572 : decode cL_law 572 = .ok (.iconst 1, 1) := by decide +kernel
theorem dL_law_573 : decode cL_law 573 = .ok (.iadd, 1) := by decide +kernel
theorem dL_law_574 : decode cL_law 574 = .ok (.iaload, 1) := by decide +kernel
theorem dL_law_575 : decode cL_law 575 = .ok (.invokevirtual 78, 3) := by decide +kernel
theorem dL_law_578 : decode cL_law 578 = .ok (.if_icmp .eq 140, 3) := by decide +kernel
theorem dL_law_581 : decode cL_law 581 = .ok (.iconst 0, 1) := by decide +kernel
theorem dL_law_582 : decode cL_law 582 = .ok (.ireturn, 1) := by decide +kernel
theorem dL_law_583 : decode cL_law 583 = .ok (.aload_n 1, 1) := by decide +kernel
theorem dL_law_584 : decode cL_law 584 = .ok (.invokevirtual 79, 3) := by decide +kernel
theorem dL_law_587 : decode cL_law 587 = .ok (.aload_n 2, 1) := by decide +kernel
theorem dL_law_588 : decode cL_law 588 = .ok (.invokevirtual 83, 3) := by decide +kernel
theorem dL_law_591 : decode cL_law 591 = .ok (.if_icmp .eq 127, 3) := by decide +kernel
theorem dL_law_594 : decode cL_law 594 = .ok (.iconst 0, 1) := by decide +kernel
theorem dL_law_595 : decode cL_law 595 = .ok (.ireturn, 1) := by decide +kernel
theorem dL_law_596 : decode cL_law 596 = .ok (.aload_n 1, 1) := by decide +kernel
theorem dL_law_597 : decode cL_law 597 = .ok (.aload_n 0, 1) := by decide +kernel
theorem dL_law_598 : decode cL_law 598 = .ok (.iload_n 3, 1) := by decide +kernel
theorem dL_law_599 : decode cL_law 599 = .ok (.iconst 1, 1) := by decide +kernel
theorem dL_law_600 : decode cL_law 600 = .ok (.iadd, 1) := by decide +kernel
theorem dL_law_601 : decode cL_law 601 = .ok (.iaload, 1) := by decide +kernel
theorem dL_law_602 : decode cL_law 602 = .ok (.invokevirtual 84, 3) := by decide +kernel
theorem dL_law_605 : decode cL_law 605 = .ok (.aload_n 2, 1) := by decide +kernel
theorem dL_law_606 : decode cL_law 606 = .ok (.aload_n 0, 1) := by decide +kernel
theorem dL_law_607 : decode cL_law 607 = .ok (.iload_n 3, 1) := by decide +kernel
theorem dL_law_608 : decode cL_law 608 = .ok (.iconst 1, 1) := by decide +kernel
theorem dL_law_609 : decode cL_law 609 = .ok (.iadd, 1) := by decide +kernel
theorem dL_law_610 : decode cL_law 610 = .ok (.iaload, 1) := by decide +kernel
theorem dL_law_611 : decode cL_law 611 = .ok (.invokevirtual 87, 3) := by decide +kernel
theorem dL_law_614 : decode cL_law 614 = .ok (.if_icmp .eq 104, 3) := by decide +kernel
theorem dL_law_617 : decode cL_law 617 = .ok (.iconst 0, 1) := by decide +kernel
theorem dL_law_618 : decode cL_law 618 = .ok (.ireturn, 1) := by decide +kernel
theorem dL_law_619 : decode cL_law 619 = .ok (.aload_n 1, 1) := by decide +kernel
theorem dL_law_620 : decode cL_law 620 = .ok (.aload_n 0, 1) := by decide +kernel
theorem dL_law_621 : decode cL_law 621 = .ok (.iload_n 3, 1) := by decide +kernel
theorem dL_law_622 : decode cL_law 622 = .ok (.iconst 1, 1) := by decide +kernel
theorem dL_law_623 : decode cL_law 623 = .ok (.iadd, 1) := by decide +kernel
theorem dL_law_624 : decode cL_law 624 = .ok (.iaload, 1) := by decide +kernel
theorem dL_law_625 : decode cL_law 625 = .ok (.aload_n 0, 1) := by decide +kernel
theorem dL_law_626 : decode cL_law 626 = .ok (.iload_n 3, 1) := by decide +kernel
theorem dL_law_627 : decode cL_law 627 = .ok (.iconst 2, 1) := by decide +kernel
theorem dL_law_628 : decode cL_law 628 = .ok (.iadd, 1) := by decide +kernel
theorem dL_law_629 : decode cL_law 629 = .ok (.iaload, 1) := by decide +kernel
theorem dL_law_630 : decode cL_law 630 = .ok (.aload_n 0, 1) := by decide +kernel
theorem dL_law_631 : decode cL_law 631 = .ok (.iload_n 3, 1) := by decide +kernel
theorem dL_law_632 : decode cL_law 632 = .ok (.iconst 3, 1) := by decide +kernel
theorem dL_law_633 : decode cL_law 633 = .ok (.iadd, 1) := by decide +kernel
theorem dL_law_634 : decode cL_law 634 = .ok (.iaload, 1) := by decide +kernel
theorem dL_law_635 : decode cL_law 635 = .ok (.invokevirtual 88, 3) := by decide +kernel
theorem dL_law_638 : decode cL_law 638 = .ok (.aload_n 2, 1) := by decide +kernel
theorem dL_law_639 : decode cL_law 639 = .ok (.aload_n 0, 1) := by decide +kernel
theorem dL_law_640 : decode cL_law 640 = .ok (.iload_n 3, 1) := by decide +kernel
theorem dL_law_641 : decode cL_law 641 = .ok (.iconst 1, 1) := by decide +kernel
theorem dL_law_642 : decode cL_law 642 = .ok (.iadd, 1) := by decide +kernel
theorem dL_law_643 : decode cL_law 643 = .ok (.iaload, 1) := by decide +kernel
theorem dL_law_644 : decode cL_law 644 = .ok (.aload_n 0, 1) := by decide +kernel
theorem dL_law_645 : decode cL_law 645 = .ok (.iload_n 3, 1) := by decide +kernel
theorem dL_law_646 : decode cL_law 646 = .ok (.iconst 2, 1) := by decide +kernel
theorem dL_law_647 : decode cL_law 647 = .ok (.iadd, 1) := by decide +kernel
theorem dL_law_648 : decode cL_law 648 = .ok (.iaload, 1) := by decide +kernel
theorem dL_law_649 : decode cL_law 649 = .ok (.aload_n 0, 1) := by decide +kernel
theorem dL_law_650 : decode cL_law 650 = .ok (.iload_n 3, 1) := by decide +kernel
theorem dL_law_651 : decode cL_law 651 = .ok (.iconst 3, 1) := by decide +kernel
theorem dL_law_652 : decode cL_law 652 = .ok (.iadd, 1) := by decide +kernel
theorem dL_law_653 : decode cL_law 653 = .ok (.iaload, 1) := by decide +kernel
theorem dL_law_654 : decode cL_law 654 = .ok (.invokevirtual 91, 3) := by decide +kernel
theorem dL_law_657 : decode cL_law 657 = .ok (.if_icmp .eq 61, 3) := by decide +kernel
theorem dL_law_660 : decode cL_law 660 = .ok (.iconst 0, 1) := by decide +kernel
theorem dL_law_661 : decode cL_law 661 = .ok (.ireturn, 1) := by decide +kernel
theorem dL_law_662 : decode cL_law 662 = .ok (.aload_n 1, 1) := by decide +kernel
theorem dL_law_663 : decode cL_law 663 = .ok (.aload_n 0, 1) := by decide +kernel
theorem dL_law_664 : decode cL_law 664 = .ok (.iload_n 3, 1) := by decide +kernel
theorem dL_law_665 : decode cL_law 665 = .ok (.iconst 1, 1) := by decide +kernel
theorem dL_law_666 : decode cL_law 666 = .ok (.iadd, 1) := by decide +kernel
theorem dL_law_667 : decode cL_law 667 = .ok (.iaload, 1) := by decide +kernel
theorem dL_law_668 : decode cL_law 668 = .ok (.aload_n 0, 1) := by decide +kernel
theorem dL_law_669 : decode cL_law 669 = .ok (.iload_n 3, 1) := by decide +kernel
theorem dL_law_670 : decode cL_law 670 = .ok (.iconst 2, 1) := by decide +kernel
theorem dL_law_671 : decode cL_law 671 = .ok (.iadd, 1) := by decide +kernel
theorem dL_law_672 : decode cL_law 672 = .ok (.iaload, 1) := by decide +kernel
theorem dL_law_673 : decode cL_law 673 = .ok (.invokevirtual 92, 3) := by decide +kernel
theorem dL_law_676 : decode cL_law 676 = .ok (.aload_n 2, 1) := by decide +kernel
theorem dL_law_677 : decode cL_law 677 = .ok (.aload_n 0, 1) := by decide +kernel
theorem dL_law_678 : decode cL_law 678 = .ok (.iload_n 3, 1) := by decide +kernel
theorem dL_law_679 : decode cL_law 679 = .ok (.iconst 1, 1) := by decide +kernel
theorem dL_law_680 : decode cL_law 680 = .ok (.iadd, 1) := by decide +kernel
theorem dL_law_681 : decode cL_law 681 = .ok (.iaload, 1) := by decide +kernel
theorem dL_law_682 : decode cL_law 682 = .ok (.aload_n 0, 1) := by decide +kernel
theorem dL_law_683 : decode cL_law 683 = .ok (.iload_n 3, 1) := by decide +kernel
theorem dL_law_684 : decode cL_law 684 = .ok (.iconst 2, 1) := by decide +kernel
theorem dL_law_685 : decode cL_law 685 = .ok (.iadd, 1) := by decide +kernel
theorem dL_law_686 : decode cL_law 686 = .ok (.iaload, 1) := by decide +kernel
theorem dL_law_687 : decode cL_law 687 = .ok (.invokevirtual 95, 3) := by decide +kernel
theorem dL_law_690 : decode cL_law 690 = .ok (.if_icmp .eq 28, 3) := by decide +kernel
theorem dL_law_693 : decode cL_law 693 = .ok (.iconst 0, 1) := by decide +kernel
theorem dL_law_694 : decode cL_law 694 = .ok (.ireturn, 1) := by decide +kernel
theorem dL_law_695 : decode cL_law 695 = .ok (.aload_n 1, 1) := by decide +kernel
theorem dL_law_696 : decode cL_law 696 = .ok (.aload_n 0, 1) := by decide +kernel
theorem dL_law_697 : decode cL_law 697 = .ok (.iload_n 3, 1) := by decide +kernel
theorem dL_law_698 : decode cL_law 698 = .ok (.iconst 1, 1) := by decide +kernel
theorem dL_law_699 : decode cL_law 699 = .ok (.iadd, 1) := by decide +kernel
theorem dL_law_700 : decode cL_law 700 = .ok (.iaload, 1) := by decide +kernel
theorem dL_law_701 : decode cL_law 701 = .ok (.invokevirtual 96, 3) := by decide +kernel
theorem dL_law_704 : decode cL_law 704 = .ok (.aload_n 2, 1) := by decide +kernel
theorem dL_law_705 : decode cL_law 705 = .ok (.aload_n 0, 1) := by decide +kernel
theorem dL_law_706 : decode cL_law 706 = .ok (.iload_n 3, 1) := by decide +kernel
theorem dL_law_707 : decode cL_law 707 = .ok (.iconst 1, 1) := by decide +kernel
theorem dL_law_708 : decode cL_law 708 = .ok (.iadd, 1) := by decide +kernel
theorem dL_law_709 : decode cL_law 709 = .ok (.iaload, 1) := by decide +kernel
theorem dL_law_710 : decode cL_law 710 = .ok (.invokevirtual 99, 3) := by decide +kernel
theorem dL_law_713 : decode cL_law 713 = .ok (.if_icmp .eq 5, 3) := by decide +kernel
theorem dL_law_716 : decode cL_law 716 = .ok (.iconst 0, 1) := by decide +kernel
theorem dL_law_717 : decode cL_law 717 = .ok (.ireturn, 1) := by decide +kernel
theorem dL_law_718 : decode cL_law 718 = .ok (.iinc 3 5, 3) := by decide +kernel
theorem dL_law_721 : decode cL_law 721 = .ok (.goto (-703), 3) := by decide +kernel
theorem dL_law_724 : decode cL_law 724 = .ok (.iconst 1, 1) := by decide +kernel
theorem dL_law_725 : decode cL_law 725 = .ok (.ireturn, 1) := by decide +kernel
end
section
def wsG : List Cond := lw_tbl.filter goodWord
theorem wG_t {w : Cond} (i : Nat) (h : tables_1[i]? = some w) (hg : goodWord w = true) : w ∈ wsG := List.mem_filter.mpr ⟨List.mem_append_right _ (List.mem_of_getElem? h), hg⟩
theorem wG_p {w : Cond} (i : Nat) (h : (k2_sels lw_privs)[i]? = some w) (hg : goodWord w = true) : w ∈ wsG := List.mem_filter.mpr ⟨List.mem_append_left _ (List.mem_of_getElem? h), hg⟩
theorem wG_good : ∀ w ∈ wsG, (w.onTables && w.keeps) = true ∨ ∃ ty, w = .arrayClass ty := fun w h => good_of_word (List.mem_filter.mp h).2
theorem wT_t {w : Cond} (i : Nat) (h : tables_1[i]? = some w) : w ∈ lw_tbl := List.mem_append_right _ (List.mem_of_getElem? h)
theorem wi_L : Cond.initialized RL ∈ wsG := wG_t 0 (by decide +kernel) (by decide +kernel)
theorem wi_X4 : Cond.initialized RX4 ∈ wsG := wG_t 1 (by decide +kernel) (by decide +kernel)
theorem wi_X3 : Cond.initialized RX3 ∈ wsG := wG_t 2 (by decide +kernel) (by decide +kernel)
theorem wi_J7 : Cond.initialized RJ7 ∈ wsG := wG_t 3 (by decide +kernel) (by decide +kernel)
theorem wi_X1 : Cond.initialized RX1 ∈ wsG := wG_t 4 (by decide +kernel) (by decide +kernel)
theorem wi_X5 : Cond.initialized RX5 ∈ wsG := wG_t 5 (by decide +kernel) (by decide +kernel)
theorem wi_X2 : Cond.initialized RX2 ∈ wsG := wG_t 6 (by decide +kernel) (by decide +kernel)
theorem wi_J9 : Cond.initialized "java/lang/Math" ∈ wsG := wG_t 7 (by decide +kernel) (by decide +kernel)
theorem wi_X0 : Cond.initialized RX0 ∈ wsG := wG_t 8 (by decide +kernel) (by decide +kernel)
theorem wk_L_7 : Cond.classLink RL 7 RX4 ∈ wsG := wG_t 9 (by decide +kernel) (by decide +kernel)
theorem wn_X4 : Cond.instantiable RX4 11 ∈ wsG := wG_t 10 (by decide +kernel) (by decide +kernel)
theorem wl_L_9 : Cond.methodLink RL 9 yX4_init ∈ wsG := wG_t 11 (by decide +kernel) (by decide +kernel)
theorem wm_X4_init : Cond.instanceMethod yX4_init ∈ wsG := wG_t 12 (by decide +kernel) (by decide +kernel)
theorem wo_X4_init : Cond.code yX4_init cX4_init 1 none ∈ wsG := wG_t 13 (by decide +kernel) (by decide +kernel)
theorem wl_X4_1 : Cond.methodLink RX4 1 objectInit ∈ wsG := wG_t 14 (by decide +kernel) (by decide +kernel)
theorem wm_O_init : Cond.instanceMethod objectInit ∈ wsG := wG_t 15 (by decide +kernel) (by decide +kernel)
theorem wo_objectInit : Cond.code objectInit ⟨#[0xb1]⟩ 1 none ∈ wsG := wG_t 16 (by decide +kernel) (by decide +kernel)
theorem wk_X4_9 : Cond.classLink RX4 9 RX2 ∈ wsG := wG_t 17 (by decide +kernel) (by decide +kernel)
theorem wz_over_X2 : Cond.arrayOver (.object RX2) ∈ lw_tbl := wT_t 18 (by decide +kernel)
theorem wk_X4_15 : Cond.classLink RX4 15 RX0 ∈ wsG := wG_t 19 (by decide +kernel) (by decide +kernel)
theorem wz_over_X0 : Cond.arrayOver (.object RX0) ∈ lw_tbl := wT_t 20 (by decide +kernel)
theorem wk_X4_21 : Cond.classLink RX4 21 RX3 ∈ wsG := wG_t 21 (by decide +kernel) (by decide +kernel)
theorem wn_X3 : Cond.instantiable RX3 7 ∈ wsG := wG_t 22 (by decide +kernel) (by decide +kernel)
theorem wl_X4_23 : Cond.methodLink RX4 23 yX3_init ∈ wsG := wG_t 23 (by decide +kernel) (by decide +kernel)
theorem wm_X3_init : Cond.instanceMethod yX3_init ∈ wsG := wG_t 24 (by decide +kernel) (by decide +kernel)
theorem wo_X3_init : Cond.code yX3_init cX3_init 1 none ∈ wsG := wG_t 25 (by decide +kernel) (by decide +kernel)
theorem wl_X3_3 : Cond.methodLink RX3 3 objectInit ∈ wsG := wG_t 26 (by decide +kernel) (by decide +kernel)
theorem wl_X3_18 : Cond.methodLink RX3 18 yJ7_fill_53178 ∈ wsG := wG_t 27 (by decide +kernel) (by decide +kernel)
theorem ws_J7_fill_53178 : Cond.static yJ7_fill_53178 ∈ wsG := wG_t 28 (by decide +kernel) (by decide +kernel)
theorem wo_J7_fill_53178 : Cond.code yJ7_fill_53178 cJ7_fill_53178 4 none ∈ wsG := wG_t 29 (by decide +kernel) (by decide +kernel)
theorem wf_X3_9 : Cond.fieldLink RX3 9 "BellFoundry$Tuner" "froms" "[I" ∈ wsG := wG_t 30 (by decide +kernel) (by decide +kernel)
theorem wf_X3_15 : Cond.fieldLink RX3 15 "BellFoundry$Tuner" "tos" "[I" ∈ wsG := wG_t 31 (by decide +kernel) (by decide +kernel)
theorem wf_X3_36 : Cond.fieldLink RX3 36 "BellFoundry$Tuner" "spansSet" "I" ∈ wsG := wG_t 32 (by decide +kernel) (by decide +kernel)
theorem wf_X3_24 : Cond.fieldLink RX3 24 "BellFoundry$Tuner" "values" "[I" ∈ wsG := wG_t 33 (by decide +kernel) (by decide +kernel)
theorem wf_X3_27 : Cond.fieldLink RX3 27 "BellFoundry$Tuner" "roomFrom" "[I" ∈ wsG := wG_t 34 (by decide +kernel) (by decide +kernel)
theorem wf_X3_30 : Cond.fieldLink RX3 30 "BellFoundry$Tuner" "highest" "[I" ∈ wsG := wG_t 35 (by decide +kernel) (by decide +kernel)
theorem wf_X3_33 : Cond.fieldLink RX3 33 "BellFoundry$Tuner" "lowest" "[I" ∈ wsG := wG_t 36 (by decide +kernel) (by decide +kernel)
theorem wa_int : Cond.arrayClass .int ∈ wsG := wG_t 52 (by decide +kernel) (by decide +kernel)
theorem wk_X4_28 : Cond.classLink RX4 28 RX1 ∈ wsG := wG_t 53 (by decide +kernel) (by decide +kernel)
theorem wn_X1 : Cond.instantiable RX1 12 ∈ wsG := wG_t 54 (by decide +kernel) (by decide +kernel)
theorem wl_X4_30 : Cond.methodLink RX4 30 yX1_init ∈ wsG := wG_t 55 (by decide +kernel) (by decide +kernel)
theorem wm_X1_init : Cond.instanceMethod yX1_init ∈ wsG := wG_t 56 (by decide +kernel) (by decide +kernel)
theorem wo_X1_init : Cond.code yX1_init cX1_init 1 none ∈ wsG := wG_t 57 (by decide +kernel) (by decide +kernel)
theorem wl_X1_7 : Cond.methodLink RX1 7 objectInit ∈ wsG := wG_t 58 (by decide +kernel) (by decide +kernel)
theorem wc_X1_17 : Cond.constantLong RX1 17 (9223372036854775807) ∈ wsG := wG_t 59 (by decide +kernel) (by decide +kernel)
theorem wf_X1_13 : Cond.fieldLink RX1 13 "BellFoundry$Chooser" "steps" "[I" ∈ wsG := wG_t 60 (by decide +kernel) (by decide +kernel)
theorem wf_X1_46 : Cond.fieldLink RX1 46 "BellFoundry$Chooser" "notes" "I" ∈ wsG := wG_t 61 (by decide +kernel) (by decide +kernel)
theorem wf_X4_161 : Cond.fieldLink RX4 161 "BellFoundry$Chooser" "notes" "I" ∈ wsG := wG_t 62 (by decide +kernel) (by decide +kernel)
theorem wf_X1_50 : Cond.fieldLink RX1 50 "BellFoundry$Chooser" "awry" "I" ∈ wsG := wG_t 63 (by decide +kernel) (by decide +kernel)
theorem wf_X4_196 : Cond.fieldLink RX4 196 "BellFoundry$Chooser" "awry" "I" ∈ wsG := wG_t 64 (by decide +kernel) (by decide +kernel)
theorem wf_X1_42 : Cond.fieldLink RX1 42 "BellFoundry$Chooser" "known" "Z" ∈ wsG := wG_t 65 (by decide +kernel) (by decide +kernel)
theorem wf_X1_19 : Cond.fieldLink RX1 19 "BellFoundry$Chooser" "chosen" "J" ∈ wsG := wG_t 66 (by decide +kernel) (by decide +kernel)
theorem wf_X1_23 : Cond.fieldLink RX1 23 "BellFoundry$Chooser" "sound" "[I" ∈ wsG := wG_t 67 (by decide +kernel) (by decide +kernel)
theorem wf_X1_61 : Cond.fieldLink RX1 61 "BellFoundry$Chooser" "soundCount" "I" ∈ wsG := wG_t 68 (by decide +kernel) (by decide +kernel)
theorem wf_X1_26 : Cond.fieldLink RX1 26 "BellFoundry$Chooser" "weights" "[I" ∈ wsG := wG_t 69 (by decide +kernel) (by decide +kernel)
theorem wf_X1_29 : Cond.fieldLink RX1 29 "BellFoundry$Chooser" "tones" "[I" ∈ wsG := wG_t 70 (by decide +kernel) (by decide +kernel)
theorem wf_X1_32 : Cond.fieldLink RX1 32 "BellFoundry$Chooser" "holders" "[I" ∈ wsG := wG_t 71 (by decide +kernel) (by decide +kernel)
theorem wf_X1_35 : Cond.fieldLink RX1 35 "BellFoundry$Chooser" "reach" "[J" ∈ wsG := wG_t 72 (by decide +kernel) (by decide +kernel)
theorem wf_X1_39 : Cond.fieldLink RX1 39 "BellFoundry$Chooser" "cameFrom" "[I" ∈ wsG := wG_t 73 (by decide +kernel) (by decide +kernel)
theorem wa_long : Cond.arrayClass .long ∈ wsG := wG_t 99 (by decide +kernel) (by decide +kernel)
theorem wf_X4_11 : Cond.fieldLink RX4 11 "BellFoundry" "profiles" "[LBellFoundry$Profile;" ∈ wsG := wG_t 100 (by decide +kernel) (by decide +kernel)
theorem wf_X4_39 : Cond.fieldLink RX4 39 "BellFoundry" "profileCount" "I" ∈ wsG := wG_t 101 (by decide +kernel) (by decide +kernel)
theorem wf_X4_17 : Cond.fieldLink RX4 17 "BellFoundry" "bells" "[LBellFoundry$Bell;" ∈ wsG := wG_t 102 (by decide +kernel) (by decide +kernel)
theorem wf_X4_85 : Cond.fieldLink RX4 85 "BellFoundry" "bellCount" "I" ∈ wsG := wG_t 103 (by decide +kernel) (by decide +kernel)
theorem wf_X4_78 : Cond.fieldLink RX4 78 "BellFoundry" "copper" "I" ∈ wsG := wG_t 104 (by decide +kernel) (by decide +kernel)
theorem wf_X4_82 : Cond.fieldLink RX4 82 "BellFoundry" "tin" "I" ∈ wsG := wG_t 105 (by decide +kernel) (by decide +kernel)
theorem wf_X4_130 : Cond.fieldLink RX4 130 "BellFoundry" "heap" "I" ∈ wsG := wG_t 106 (by decide +kernel) (by decide +kernel)
theorem wf_X4_24 : Cond.fieldLink RX4 24 "BellFoundry" "tuner" "LBellFoundry$Tuner;" ∈ wsG := wG_t 107 (by decide +kernel) (by decide +kernel)
theorem wf_X4_31 : Cond.fieldLink RX4 31 "BellFoundry" "chooser" "LBellFoundry$Chooser;" ∈ wsG := wG_t 108 (by decide +kernel) (by decide +kernel)
theorem wf_X4_35 : Cond.fieldLink RX4 35 "BellFoundry" "shares" "[I" ∈ wsG := wG_t 109 (by decide +kernel) (by decide +kernel)
theorem wf_X4_187 : Cond.fieldLink RX4 187 "BellFoundry" "bears" "I" ∈ wsG := wG_t 110 (by decide +kernel) (by decide +kernel)
theorem wl_L_13 : Cond.methodLink RL 13 yX4_profile ∈ wsG := wG_t 134 (by decide +kernel) (by decide +kernel)
theorem wm_X4_profile : Cond.instanceMethod yX4_profile ∈ wsG := wG_t 135 (by decide +kernel) (by decide +kernel)
theorem wx_X4_profile : Cond.selects RX4 yX4_profile yX4_profile ∈ wsG := wG_t 136 (by decide +kernel) (by decide +kernel)
theorem wo_X4_profile : Cond.code yX4_profile cX4_profile 2 (some .int) ∈ wsG := wG_t 137 (by decide +kernel) (by decide +kernel)
theorem wl_X4_43 : Cond.methodLink RX4 43 yX4_within ∈ wsG := wG_t 138 (by decide +kernel) (by decide +kernel)
theorem ws_X4_within : Cond.static yX4_within ∈ wsG := wG_t 139 (by decide +kernel) (by decide +kernel)
theorem wo_X4_within : Cond.code yX4_within cX4_within 3 (some .boolean) ∈ wsG := wG_t 140 (by decide +kernel) (by decide +kernel)
theorem wn_X2 : Cond.instantiable RX2 6 ∈ wsG := wG_t 141 (by decide +kernel) (by decide +kernel)
theorem wl_X4_47 : Cond.methodLink RX4 47 yX2_init ∈ wsG := wG_t 142 (by decide +kernel) (by decide +kernel)
theorem wm_X2_init : Cond.instanceMethod yX2_init ∈ wsG := wG_t 143 (by decide +kernel) (by decide +kernel)
theorem wo_X2_init : Cond.code yX2_init cX2_init 2 none ∈ wsG := wG_t 144 (by decide +kernel) (by decide +kernel)
theorem wl_X2_3 : Cond.methodLink RX2 3 objectInit ∈ wsG := wG_t 145 (by decide +kernel) (by decide +kernel)
theorem wl_X2_31 : Cond.methodLink RX2 31 yJ7_fill_53178 ∈ wsG := wG_t 146 (by decide +kernel) (by decide +kernel)
theorem wf_X2_9 : Cond.fieldLink RX2 9 "BellFoundry$Profile" "weight" "I" ∈ wsG := wG_t 147 (by decide +kernel) (by decide +kernel)
theorem wf_X2_15 : Cond.fieldLink RX2 15 "BellFoundry$Profile" "bases" "[I" ∈ wsG := wG_t 148 (by decide +kernel) (by decide +kernel)
theorem wf_X4_74 : Cond.fieldLink RX4 74 "BellFoundry$Profile" "bases" "[I" ∈ wsG := wG_t 149 (by decide +kernel) (by decide +kernel)
theorem wf_X2_19 : Cond.fieldLink RX2 19 "BellFoundry$Profile" "tables" "[I" ∈ wsG := wG_t 150 (by decide +kernel) (by decide +kernel)
theorem wf_X0_64 : Cond.fieldLink RX0 64 "BellFoundry$Profile" "tables" "[I" ∈ wsG := wG_t 151 (by decide +kernel) (by decide +kernel)
theorem wf_X2_22 : Cond.fieldLink RX2 22 "BellFoundry$Profile" "metals" "[I" ∈ wsG := wG_t 152 (by decide +kernel) (by decide +kernel)
theorem wf_X0_67 : Cond.fieldLink RX0 67 "BellFoundry$Profile" "metals" "[I" ∈ wsG := wG_t 153 (by decide +kernel) (by decide +kernel)
theorem wf_X2_25 : Cond.fieldLink RX2 25 "BellFoundry$Profile" "leasts" "[I" ∈ wsG := wG_t 154 (by decide +kernel) (by decide +kernel)
theorem wf_X0_61 : Cond.fieldLink RX0 61 "BellFoundry$Profile" "leasts" "[I" ∈ wsG := wG_t 155 (by decide +kernel) (by decide +kernel)
theorem wf_X0_24 : Cond.fieldLink RX0 24 "BellFoundry$Profile" "thicknesses" "[I" ∈ wsG := wG_t 156 (by decide +kernel) (by decide +kernel)
theorem wf_X2_28 : Cond.fieldLink RX2 28 "BellFoundry$Profile" "thicknesses" "[I" ∈ wsG := wG_t 157 (by decide +kernel) (by decide +kernel)
theorem wl_L_18 : Cond.methodLink RL 18 yX4_shape ∈ wsG := wG_t 171 (by decide +kernel) (by decide +kernel)
theorem wm_X4_shape : Cond.instanceMethod yX4_shape ∈ wsG := wG_t 172 (by decide +kernel) (by decide +kernel)
theorem wx_X4_shape : Cond.selects RX4 yX4_shape yX4_shape ∈ wsG := wG_t 173 (by decide +kernel) (by decide +kernel)
theorem wo_X4_shape : Cond.code yX4_shape cX4_shape 6 (some .boolean) ∈ wsG := wG_t 174 (by decide +kernel) (by decide +kernel)
theorem wl_X4_50 : Cond.methodLink RX4 50 yX4_profileAt ∈ wsG := wG_t 175 (by decide +kernel) (by decide +kernel)
theorem wm_X4_profileAt : Cond.instanceMethod yX4_profileAt ∈ wsG := wG_t 177 (by decide +kernel) (by decide +kernel)
theorem wo_X4_profileAt : Cond.code yX4_profileAt cX4_profileAt 2 (some (.object "BellFoundry$Profile")) ∈ wsG := wG_t 178 (by decide +kernel) (by decide +kernel)
theorem wl_X4_54 : Cond.methodLink RX4 54 yX4_isHeight ∈ wsG := wG_t 179 (by decide +kernel) (by decide +kernel)
theorem ws_X4_isHeight : Cond.static yX4_isHeight ∈ wsG := wG_t 180 (by decide +kernel) (by decide +kernel)
theorem wo_X4_isHeight : Cond.code yX4_isHeight cX4_isHeight 1 (some .boolean) ∈ wsG := wG_t 181 (by decide +kernel) (by decide +kernel)
theorem wl_X4_58 : Cond.methodLink RX4 58 yX4_isPart ∈ wsG := wG_t 182 (by decide +kernel) (by decide +kernel)
theorem ws_X4_isPart : Cond.static yX4_isPart ∈ wsG := wG_t 183 (by decide +kernel) (by decide +kernel)
theorem wo_X4_isPart : Cond.code yX4_isPart cX4_isPart 1 (some .boolean) ∈ wsG := wG_t 184 (by decide +kernel) (by decide +kernel)
theorem wl_X4_61 : Cond.methodLink RX4 61 yX2_setTable ∈ wsG := wG_t 185 (by decide +kernel) (by decide +kernel)
theorem wm_X2_setTable : Cond.instanceMethod yX2_setTable ∈ wsG := wG_t 186 (by decide +kernel) (by decide +kernel)
theorem wx_X2_setTable : Cond.selects RX2 yX2_setTable yX2_setTable ∈ wsG := wG_t 187 (by decide +kernel) (by decide +kernel)
theorem wo_X2_setTable : Cond.code yX2_setTable cX2_setTable 4 (some .boolean) ∈ wsG := wG_t 188 (by decide +kernel) (by decide +kernel)
theorem wz_X2_42 : Cond.methodLinkNest RX2 42 yX4_within RX4 ∈ lw_tbl := wT_t 189 (by decide +kernel)
theorem wl_X4_64 : Cond.methodLink RX4 64 yX2_setMetal ∈ wsG := wG_t 190 (by decide +kernel) (by decide +kernel)
theorem wm_X2_setMetal : Cond.instanceMethod yX2_setMetal ∈ wsG := wG_t 191 (by decide +kernel) (by decide +kernel)
theorem wx_X2_setMetal : Cond.selects RX2 yX2_setMetal yX2_setMetal ∈ wsG := wG_t 192 (by decide +kernel) (by decide +kernel)
theorem wo_X2_setMetal : Cond.code yX2_setMetal cX2_setMetal 3 (some .boolean) ∈ wsG := wG_t 193 (by decide +kernel) (by decide +kernel)
theorem wl_X4_68 : Cond.methodLink RX4 68 yX2_setLeast ∈ wsG := wG_t 194 (by decide +kernel) (by decide +kernel)
theorem wm_X2_setLeast : Cond.instanceMethod yX2_setLeast ∈ wsG := wG_t 195 (by decide +kernel) (by decide +kernel)
theorem wx_X2_setLeast : Cond.selects RX2 yX2_setLeast yX2_setLeast ∈ wsG := wG_t 196 (by decide +kernel) (by decide +kernel)
theorem wo_X2_setLeast : Cond.code yX2_setLeast cX2_setLeast 3 (some .boolean) ∈ wsG := wG_t 197 (by decide +kernel) (by decide +kernel)
theorem wl_X4_71 : Cond.methodLink RX4 71 yX2_setThickness ∈ wsG := wG_t 198 (by decide +kernel) (by decide +kernel)
theorem wm_X2_setThickness : Cond.instanceMethod yX2_setThickness ∈ wsG := wG_t 199 (by decide +kernel) (by decide +kernel)
theorem wx_X2_setThickness : Cond.selects RX2 yX2_setThickness yX2_setThickness ∈ wsG := wG_t 200 (by decide +kernel) (by decide +kernel)
theorem wo_X2_setThickness : Cond.code yX2_setThickness cX2_setThickness 3 (some .boolean) ∈ wsG := wG_t 201 (by decide +kernel) (by decide +kernel)
theorem wl_L_23 : Cond.methodLink RL 23 yX4_base ∈ wsG := wG_t 202 (by decide +kernel) (by decide +kernel)
theorem wm_X4_base : Cond.instanceMethod yX4_base ∈ wsG := wG_t 203 (by decide +kernel) (by decide +kernel)
theorem wx_X4_base : Cond.selects RX4 yX4_base yX4_base ∈ wsG := wG_t 204 (by decide +kernel) (by decide +kernel)
theorem wo_X4_base : Cond.code yX4_base cX4_base 5 (some .boolean) ∈ wsG := wG_t 205 (by decide +kernel) (by decide +kernel)
theorem wl_L_28 : Cond.methodLink RL 28 yX4_buy ∈ wsG := wG_t 206 (by decide +kernel) (by decide +kernel)
theorem wm_X4_buy : Cond.instanceMethod yX4_buy ∈ wsG := wG_t 207 (by decide +kernel) (by decide +kernel)
theorem wx_X4_buy : Cond.selects RX4 yX4_buy yX4_buy ∈ wsG := wG_t 208 (by decide +kernel) (by decide +kernel)
theorem wo_X4_buy : Cond.code yX4_buy cX4_buy 3 (some .boolean) ∈ wsG := wG_t 209 (by decide +kernel) (by decide +kernel)
theorem wc_X4_77 : Cond.constant RX4 77 (1000000) ∈ wsG := wG_t 210 (by decide +kernel) (by decide +kernel)
theorem wc_X4_81 : Cond.constant RX4 81 (100000000) ∈ wsG := wG_t 211 (by decide +kernel) (by decide +kernel)
theorem wl_L_33 : Cond.methodLink RL 33 yX4_cast ∈ wsG := wG_t 212 (by decide +kernel) (by decide +kernel)
theorem wm_X4_cast : Cond.instanceMethod yX4_cast ∈ wsG := wG_t 213 (by decide +kernel) (by decide +kernel)
theorem wx_X4_cast : Cond.selects RX4 yX4_cast yX4_cast ∈ wsG := wG_t 214 (by decide +kernel) (by decide +kernel)
theorem wo_X4_cast : Cond.code yX4_cast cX4_cast 3 (some .int) ∈ wsG := wG_t 215 (by decide +kernel) (by decide +kernel)
theorem wl_X4_88 : Cond.methodLink RX4 88 yX2_castWeight ∈ wsG := wG_t 216 (by decide +kernel) (by decide +kernel)
theorem wm_X2_castWeight : Cond.instanceMethod yX2_castWeight ∈ wsG := wG_t 217 (by decide +kernel) (by decide +kernel)
theorem wx_X2_castWeight : Cond.selects RX2 yX2_castWeight yX2_castWeight ∈ wsG := wG_t 218 (by decide +kernel) (by decide +kernel)
theorem wo_X2_castWeight : Cond.code yX2_castWeight cX2_castWeight 1 (some .int) ∈ wsG := wG_t 219 (by decide +kernel) (by decide +kernel)
theorem wl_X2_46 : Cond.methodLink RX2 46 yX2_weightWith ∈ wsG := wG_t 220 (by decide +kernel) (by decide +kernel)
theorem wm_X2_weightWith : Cond.instanceMethod yX2_weightWith ∈ wsG := wG_t 221 (by decide +kernel) (by decide +kernel)
theorem wx_X2_weightWith : Cond.selects RX2 yX2_weightWith yX2_weightWith ∈ wsG := wG_t 222 (by decide +kernel) (by decide +kernel)
theorem wo_X2_weightWith : Cond.code yX2_weightWith cX2_weightWith 4 (some .int) ∈ wsG := wG_t 223 (by decide +kernel) (by decide +kernel)
theorem wl_X4_92 : Cond.methodLink RX4 92 yX4_charge ∈ wsG := wG_t 224 (by decide +kernel) (by decide +kernel)
theorem wm_X4_charge : Cond.instanceMethod yX4_charge ∈ wsG := wG_t 226 (by decide +kernel) (by decide +kernel)
theorem wo_X4_charge : Cond.code yX4_charge cX4_charge 6 (some .boolean) ∈ wsG := wG_t 227 (by decide +kernel) (by decide +kernel)
theorem wl_X4_199 : Cond.methodLink RX4 199 Lib.Math.min.name ∈ wsG := wG_t 228 (by decide +kernel) (by decide +kernel)
theorem ws_J9_min_7cf53 : Cond.static Lib.Math.min.name ∈ wsG := wG_t 229 (by decide +kernel) (by decide +kernel)
theorem wo_min : Cond.code Lib.Math.min.name Lib.Math.min.code 2 (some .int) ∈ wsG := wG_t 230 (by decide +kernel) (by decide +kernel)
theorem wn_X0 : Cond.instantiable RX0 9 ∈ wsG := wG_t 231 (by decide +kernel) (by decide +kernel)
theorem wl_X4_95 : Cond.methodLink RX4 95 yX0_init ∈ wsG := wG_t 232 (by decide +kernel) (by decide +kernel)
theorem wm_X0_init : Cond.instanceMethod yX0_init ∈ wsG := wG_t 233 (by decide +kernel) (by decide +kernel)
theorem wo_X0_init : Cond.code yX0_init cX0_init 3 none ∈ wsG := wG_t 234 (by decide +kernel) (by decide +kernel)
theorem wl_X0_3 : Cond.methodLink RX0 3 objectInit ∈ wsG := wG_t 235 (by decide +kernel) (by decide +kernel)
theorem wk_X0_15 : Cond.classLink RX0 15 RX2 ∈ wsG := wG_t 236 (by decide +kernel) (by decide +kernel)
theorem wl_X0_17 : Cond.methodLink RX0 17 yX2_init_ ∈ wsG := wG_t 237 (by decide +kernel) (by decide +kernel)
theorem wm_X2_init_ : Cond.instanceMethod yX2_init_ ∈ wsG := wG_t 238 (by decide +kernel) (by decide +kernel)
theorem wo_X2_init_ : Cond.code yX2_init_ cX2_init_ 2 none ∈ wsG := wG_t 239 (by decide +kernel) (by decide +kernel)
theorem wl_X2_37 : Cond.methodLink RX2 37 ⟨"[I", "clone", "()Ljava/lang/Object;"⟩ ∈ wsG := wG_t 240 (by decide +kernel) (by decide +kernel)
theorem wq_clone : Cond.sameMethod "[I" "java/lang/Object" "clone" "()Ljava/lang/Object;" ∈ wsG := wG_t 241 (by decide +kernel) (by decide +kernel)
theorem wv_clone : Cond.native ⟨"java/lang/Object", "clone", "()Ljava/lang/Object;"⟩ ∈ wsG := wG_t 242 (by decide +kernel) (by decide +kernel)
theorem wm_O_clone : Cond.instanceMethod ⟨"java/lang/Object", "clone", "()Ljava/lang/Object;"⟩ ∈ wsG := wG_t 243 (by decide +kernel) (by decide +kernel)
theorem wx_clone : Cond.selects "[I" ⟨"[I", "clone", "()Ljava/lang/Object;"⟩ ⟨"java/lang/Object", "clone", "()Ljava/lang/Object;"⟩ ∈ wsG := wG_t 244 (by decide +kernel) (by decide +kernel)
theorem wz_cast : Cond.castable "[I" "java/lang/Cloneable" ∈ lw_tbl := wT_t 245 (by decide +kernel)
theorem wk_X2_38 : Cond.classLink RX2 38 "[I" ∈ wsG := wG_t 246 (by decide +kernel) (by decide +kernel)
theorem wl_X0_28 : Cond.methodLink RX0 28 ⟨"[I", "clone", "()Ljava/lang/Object;"⟩ ∈ wsG := wG_t 247 (by decide +kernel) (by decide +kernel)
theorem wk_X0_29 : Cond.classLink RX0 29 "[I" ∈ wsG := wG_t 248 (by decide +kernel) (by decide +kernel)
theorem wf_X0_9 : Cond.fieldLink RX0 9 "BellFoundry$Bell" "profileNumber" "I" ∈ wsG := wG_t 249 (by decide +kernel) (by decide +kernel)
theorem wf_X4_147 : Cond.fieldLink RX4 147 "BellFoundry$Bell" "profileNumber" "I" ∈ wsG := wG_t 250 (by decide +kernel) (by decide +kernel)
theorem wf_X0_20 : Cond.fieldLink RX0 20 "BellFoundry$Bell" "mould" "LBellFoundry$Profile;" ∈ wsG := wG_t 251 (by decide +kernel) (by decide +kernel)
theorem wf_X0_33 : Cond.fieldLink RX0 33 "BellFoundry$Bell" "thicknesses" "[I" ∈ wsG := wG_t 252 (by decide +kernel) (by decide +kernel)
theorem wf_X4_117 : Cond.fieldLink RX4 117 "BellFoundry$Bell" "thicknesses" "[I" ∈ wsG := wG_t 253 (by decide +kernel) (by decide +kernel)
theorem wf_X0_54 : Cond.fieldLink RX0 54 "BellFoundry$Bell" "isOld" "Z" ∈ wsG := wG_t 254 (by decide +kernel) (by decide +kernel)
theorem wf_X4_120 : Cond.fieldLink RX4 120 "BellFoundry$Bell" "isOld" "Z" ∈ wsG := wG_t 255 (by decide +kernel) (by decide +kernel)
theorem wf_X0_58 : Cond.fieldLink RX0 58 "BellFoundry$Bell" "isCracked" "Z" ∈ wsG := wG_t 256 (by decide +kernel) (by decide +kernel)
theorem wf_X4_124 : Cond.fieldLink RX4 124 "BellFoundry$Bell" "isCracked" "Z" ∈ wsG := wG_t 257 (by decide +kernel) (by decide +kernel)
theorem wf_X1_74 : Cond.fieldLink RX1 74 "BellFoundry$Bell" "isCracked" "Z" ∈ wsG := wG_t 258 (by decide +kernel) (by decide +kernel)
theorem wf_X0_34 : Cond.fieldLink RX0 34 "BellFoundry$Bell" "way" "I" ∈ wsG := wG_t 259 (by decide +kernel) (by decide +kernel)
theorem wf_X4_127 : Cond.fieldLink RX4 127 "BellFoundry$Bell" "way" "I" ∈ wsG := wG_t 260 (by decide +kernel) (by decide +kernel)
theorem wf_X0_37 : Cond.fieldLink RX0 37 "BellFoundry$Bell" "plan" "[I" ∈ wsG := wG_t 261 (by decide +kernel) (by decide +kernel)
theorem wf_X3_48 : Cond.fieldLink RX3 48 "BellFoundry$Bell" "plan" "[I" ∈ wsG := wG_t 262 (by decide +kernel) (by decide +kernel)
theorem wf_X4_158 : Cond.fieldLink RX4 158 "BellFoundry$Bell" "plan" "[I" ∈ wsG := wG_t 263 (by decide +kernel) (by decide +kernel)
theorem wf_X0_40 : Cond.fieldLink RX0 40 "BellFoundry$Bell" "planned" "I" ∈ wsG := wG_t 264 (by decide +kernel) (by decide +kernel)
theorem wf_X3_45 : Cond.fieldLink RX3 45 "BellFoundry$Bell" "planned" "I" ∈ wsG := wG_t 265 (by decide +kernel) (by decide +kernel)
theorem wf_X4_210 : Cond.fieldLink RX4 210 "BellFoundry$Bell" "planned" "I" ∈ wsG := wG_t 266 (by decide +kernel) (by decide +kernel)
theorem wf_X0_43 : Cond.fieldLink RX0 43 "BellFoundry$Bell" "plannedFor" "I" ∈ wsG := wG_t 267 (by decide +kernel) (by decide +kernel)
theorem wf_X3_40 : Cond.fieldLink RX3 40 "BellFoundry$Bell" "plannedFor" "I" ∈ wsG := wG_t 268 (by decide +kernel) (by decide +kernel)
theorem wl_X4_98 : Cond.methodLink RX4 98 yX1_forget ∈ wsG := wG_t 288 (by decide +kernel) (by decide +kernel)
theorem wm_X1_forget : Cond.instanceMethod yX1_forget ∈ wsG := wG_t 289 (by decide +kernel) (by decide +kernel)
theorem wx_X1_forget : Cond.selects RX1 yX1_forget yX1_forget ∈ wsG := wG_t 290 (by decide +kernel) (by decide +kernel)
theorem wo_X1_forget : Cond.code yX1_forget cX1_forget 1 none ∈ wsG := wG_t 291 (by decide +kernel) (by decide +kernel)
theorem wl_L_37 : Cond.methodLink RL 37 yX4_cut ∈ wsG := wG_t 292 (by decide +kernel) (by decide +kernel)
theorem wm_X4_cut : Cond.instanceMethod yX4_cut ∈ wsG := wG_t 293 (by decide +kernel) (by decide +kernel)
theorem wx_X4_cut : Cond.selects RX4 yX4_cut yX4_cut ∈ wsG := wG_t 294 (by decide +kernel) (by decide +kernel)
theorem wo_X4_cut : Cond.code yX4_cut cX4_cut 4 (some .int) ∈ wsG := wG_t 295 (by decide +kernel) (by decide +kernel)
theorem wl_X4_101 : Cond.methodLink RX4 101 yX4_bellAt ∈ wsG := wG_t 296 (by decide +kernel) (by decide +kernel)
theorem wm_X4_bellAt : Cond.instanceMethod yX4_bellAt ∈ wsG := wG_t 298 (by decide +kernel) (by decide +kernel)
theorem wo_X4_bellAt : Cond.code yX4_bellAt cX4_bellAt 2 (some (.object "BellFoundry$Bell")) ∈ wsG := wG_t 299 (by decide +kernel) (by decide +kernel)
theorem wl_X4_105 : Cond.methodLink RX4 105 yX0_canBeTuned ∈ wsG := wG_t 300 (by decide +kernel) (by decide +kernel)
theorem wm_X0_canBeTuned : Cond.instanceMethod yX0_canBeTuned ∈ wsG := wG_t 301 (by decide +kernel) (by decide +kernel)
theorem wx_X0_canBeTuned : Cond.selects RX0 yX0_canBeTuned yX0_canBeTuned ∈ wsG := wG_t 302 (by decide +kernel) (by decide +kernel)
theorem wo_X0_canBeTuned : Cond.code yX0_canBeTuned cX0_canBeTuned 1 (some .boolean) ∈ wsG := wG_t 303 (by decide +kernel) (by decide +kernel)
theorem wl_X4_109 : Cond.methodLink RX4 109 yX0_roomAt ∈ wsG := wG_t 304 (by decide +kernel) (by decide +kernel)
theorem wm_X0_roomAt : Cond.instanceMethod yX0_roomAt ∈ wsG := wG_t 305 (by decide +kernel) (by decide +kernel)
theorem wx_X0_roomAt : Cond.selects RX0 yX0_roomAt yX0_roomAt ∈ wsG := wG_t 306 (by decide +kernel) (by decide +kernel)
theorem wo_X0_roomAt : Cond.code yX0_roomAt cX0_roomAt 2 (some .int) ∈ wsG := wG_t 307 (by decide +kernel) (by decide +kernel)
theorem wl_X4_113 : Cond.methodLink RX4 113 yX4_trim ∈ wsG := wG_t 308 (by decide +kernel) (by decide +kernel)
theorem wm_X4_trim : Cond.instanceMethod yX4_trim ∈ wsG := wG_t 310 (by decide +kernel) (by decide +kernel)
theorem wo_X4_trim : Cond.code yX4_trim cX4_trim 4 none ∈ wsG := wG_t 311 (by decide +kernel) (by decide +kernel)
theorem wl_X4_204 : Cond.methodLink RX4 204 yX0_takeOff ∈ wsG := wG_t 312 (by decide +kernel) (by decide +kernel)
theorem wm_X0_takeOff : Cond.instanceMethod yX0_takeOff ∈ wsG := wG_t 313 (by decide +kernel) (by decide +kernel)
theorem wx_X0_takeOff : Cond.selects RX0 yX0_takeOff yX0_takeOff ∈ wsG := wG_t 314 (by decide +kernel) (by decide +kernel)
theorem wo_X0_takeOff : Cond.code yX0_takeOff cX0_takeOff 3 (some .int) ∈ wsG := wG_t 315 (by decide +kernel) (by decide +kernel)
theorem wl_L_42 : Cond.methodLink RL 42 yX4_old ∈ wsG := wG_t 316 (by decide +kernel) (by decide +kernel)
theorem wm_X4_old : Cond.instanceMethod yX4_old ∈ wsG := wG_t 317 (by decide +kernel) (by decide +kernel)
theorem wx_X4_old : Cond.selects RX4 yX4_old yX4_old ∈ wsG := wG_t 318 (by decide +kernel) (by decide +kernel)
theorem wo_X4_old : Cond.code yX4_old cX4_old 3 (some .boolean) ∈ wsG := wG_t 319 (by decide +kernel) (by decide +kernel)
theorem wl_L_47 : Cond.methodLink RL 47 yX4_crack ∈ wsG := wG_t 320 (by decide +kernel) (by decide +kernel)
theorem wm_X4_crack : Cond.instanceMethod yX4_crack ∈ wsG := wG_t 321 (by decide +kernel) (by decide +kernel)
theorem wx_X4_crack : Cond.selects RX4 yX4_crack yX4_crack ∈ wsG := wG_t 322 (by decide +kernel) (by decide +kernel)
theorem wo_X4_crack : Cond.code yX4_crack cX4_crack 3 (some .boolean) ∈ wsG := wG_t 323 (by decide +kernel) (by decide +kernel)
theorem wl_X4_133 : Cond.methodLink RX4 133 yX0_weightNow ∈ wsG := wG_t 324 (by decide +kernel) (by decide +kernel)
theorem wm_X0_weightNow : Cond.instanceMethod yX0_weightNow ∈ wsG := wG_t 325 (by decide +kernel) (by decide +kernel)
theorem wx_X0_weightNow : Cond.selects RX0 yX0_weightNow yX0_weightNow ∈ wsG := wG_t 326 (by decide +kernel) (by decide +kernel)
theorem wo_X0_weightNow : Cond.code yX0_weightNow cX0_weightNow 1 (some .int) ∈ wsG := wG_t 327 (by decide +kernel) (by decide +kernel)
theorem wl_X0_46 : Cond.methodLink RX0 46 yX2_weightWith ∈ wsG := wG_t 328 (by decide +kernel) (by decide +kernel)
theorem wl_L_51 : Cond.methodLink RL 51 yX4_bellOf ∈ wsG := wG_t 329 (by decide +kernel) (by decide +kernel)
theorem wm_X4_bellOf : Cond.instanceMethod yX4_bellOf ∈ wsG := wG_t 330 (by decide +kernel) (by decide +kernel)
theorem wx_X4_bellOf : Cond.selects RX4 yX4_bellOf yX4_bellOf ∈ wsG := wG_t 331 (by decide +kernel) (by decide +kernel)
theorem wo_X4_bellOf : Cond.code yX4_bellOf cX4_bellOf 4 (some .int) ∈ wsG := wG_t 332 (by decide +kernel) (by decide +kernel)
theorem wc_X4_136 : Cond.constant RX4 136 (-100000) ∈ wsG := wG_t 333 (by decide +kernel) (by decide +kernel)
theorem wl_X4_137 : Cond.methodLink RX4 137 yX0_partNow ∈ wsG := wG_t 334 (by decide +kernel) (by decide +kernel)
theorem wm_X0_partNow : Cond.instanceMethod yX0_partNow ∈ wsG := wG_t 335 (by decide +kernel) (by decide +kernel)
theorem wx_X0_partNow : Cond.selects RX0 yX0_partNow yX0_partNow ∈ wsG := wG_t 336 (by decide +kernel) (by decide +kernel)
theorem wo_X0_partNow : Cond.code yX0_partNow cX0_partNow 2 (some .int) ∈ wsG := wG_t 337 (by decide +kernel) (by decide +kernel)
theorem wl_X0_50 : Cond.methodLink RX0 50 yX2_partWith ∈ wsG := wG_t 338 (by decide +kernel) (by decide +kernel)
theorem wm_X2_partWith : Cond.instanceMethod yX2_partWith ∈ wsG := wG_t 339 (by decide +kernel) (by decide +kernel)
theorem wx_X2_partWith : Cond.selects RX2 yX2_partWith yX2_partWith ∈ wsG := wG_t 340 (by decide +kernel) (by decide +kernel)
theorem wo_X2_partWith : Cond.code yX2_partWith cX2_partWith 5 (some .int) ∈ wsG := wG_t 341 (by decide +kernel) (by decide +kernel)
theorem wl_X4_140 : Cond.methodLink RX4 140 yX4_shareOf ∈ wsG := wG_t 342 (by decide +kernel) (by decide +kernel)
theorem wm_X4_shareOf : Cond.instanceMethod yX4_shareOf ∈ wsG := wG_t 344 (by decide +kernel) (by decide +kernel)
theorem wo_X4_shareOf : Cond.code yX4_shareOf cX4_shareOf 2 (some .int) ∈ wsG := wG_t 345 (by decide +kernel) (by decide +kernel)
theorem wl_X4_180 : Cond.methodLink RX4 180 yX4_isWay ∈ wsG := wG_t 346 (by decide +kernel) (by decide +kernel)
theorem ws_X4_isWay : Cond.static yX4_isWay ∈ wsG := wG_t 347 (by decide +kernel) (by decide +kernel)
theorem wo_X4_isWay : Cond.code yX4_isWay cX4_isWay 1 (some .boolean) ∈ wsG := wG_t 348 (by decide +kernel) (by decide +kernel)
theorem wl_X4_143 : Cond.methodLink RX4 143 yX4_pullBy ∈ wsG := wG_t 349 (by decide +kernel) (by decide +kernel)
theorem ws_X4_pullBy : Cond.static yX4_pullBy ∈ wsG := wG_t 350 (by decide +kernel) (by decide +kernel)
theorem wo_X4_pullBy : Cond.code yX4_pullBy cX4_pullBy 3 (some .int) ∈ wsG := wG_t 351 (by decide +kernel) (by decide +kernel)
theorem wl_L_55 : Cond.methodLink RL 55 yX4_span ∈ wsG := wG_t 352 (by decide +kernel) (by decide +kernel)
theorem wm_X4_span : Cond.instanceMethod yX4_span ∈ wsG := wG_t 353 (by decide +kernel) (by decide +kernel)
theorem wx_X4_span : Cond.selects RX4 yX4_span yX4_span ∈ wsG := wG_t 354 (by decide +kernel) (by decide +kernel)
theorem wo_X4_span : Cond.code yX4_span cX4_span 4 (some .boolean) ∈ wsG := wG_t 355 (by decide +kernel) (by decide +kernel)
theorem wl_X4_150 : Cond.methodLink RX4 150 yX3_setSpan ∈ wsG := wG_t 356 (by decide +kernel) (by decide +kernel)
theorem wm_X3_setSpan : Cond.instanceMethod yX3_setSpan ∈ wsG := wG_t 357 (by decide +kernel) (by decide +kernel)
theorem wx_X3_setSpan : Cond.selects RX3 yX3_setSpan yX3_setSpan ∈ wsG := wG_t 358 (by decide +kernel) (by decide +kernel)
theorem wo_X3_setSpan : Cond.code yX3_setSpan cX3_setSpan 4 none ∈ wsG := wG_t 359 (by decide +kernel) (by decide +kernel)
theorem wl_L_59 : Cond.methodLink RL 59 yX4_tuning ∈ wsG := wG_t 360 (by decide +kernel) (by decide +kernel)
theorem wm_X4_tuning : Cond.instanceMethod yX4_tuning ∈ wsG := wG_t 361 (by decide +kernel) (by decide +kernel)
theorem wx_X4_tuning : Cond.selects RX4 yX4_tuning yX4_tuning ∈ wsG := wG_t 362 (by decide +kernel) (by decide +kernel)
theorem wo_X4_tuning : Cond.code yX4_tuning cX4_tuning 2 (some .int) ∈ wsG := wG_t 363 (by decide +kernel) (by decide +kernel)
theorem wl_X4_154 : Cond.methodLink RX4 154 yX4_plannedCuts ∈ wsG := wG_t 364 (by decide +kernel) (by decide +kernel)
theorem wm_X4_plannedCuts : Cond.instanceMethod yX4_plannedCuts ∈ wsG := wG_t 366 (by decide +kernel) (by decide +kernel)
theorem wo_X4_plannedCuts : Cond.code yX4_plannedCuts cX4_plannedCuts 2 (some .int) ∈ wsG := wG_t 367 (by decide +kernel) (by decide +kernel)
theorem wl_X4_207 : Cond.methodLink RX4 207 yX3_plan ∈ wsG := wG_t 368 (by decide +kernel) (by decide +kernel)
theorem wm_X3_plan : Cond.instanceMethod yX3_plan ∈ wsG := wG_t 369 (by decide +kernel) (by decide +kernel)
theorem wx_X3_plan : Cond.selects RX3 yX3_plan yX3_plan ∈ wsG := wG_t 370 (by decide +kernel) (by decide +kernel)
theorem wo_X3_plan : Cond.code yX3_plan cX3_plan 4 none ∈ wsG := wG_t 371 (by decide +kernel) (by decide +kernel)
theorem wl_X3_51 : Cond.methodLink RX3 51 yX3_prepare ∈ wsG := wG_t 372 (by decide +kernel) (by decide +kernel)
theorem wm_X3_prepare : Cond.instanceMethod yX3_prepare ∈ wsG := wG_t 374 (by decide +kernel) (by decide +kernel)
theorem wo_X3_prepare : Cond.code yX3_prepare cX3_prepare 4 none ∈ wsG := wG_t 375 (by decide +kernel) (by decide +kernel)
theorem wl_X3_65 : Cond.methodLink RX3 65 yX0_partNow ∈ wsG := wG_t 376 (by decide +kernel) (by decide +kernel)
theorem wl_X3_69 : Cond.methodLink RX3 69 yX3_boundTables ∈ wsG := wG_t 377 (by decide +kernel) (by decide +kernel)
theorem wm_X3_boundTables : Cond.instanceMethod yX3_boundTables ∈ wsG := wG_t 379 (by decide +kernel) (by decide +kernel)
theorem wo_X3_boundTables : Cond.code yX3_boundTables cX3_boundTables 9 none ∈ wsG := wG_t 380 (by decide +kernel) (by decide +kernel)
theorem wl_X3_76 : Cond.methodLink RX3 76 yX0_tableAt ∈ wsG := wG_t 381 (by decide +kernel) (by decide +kernel)
theorem wm_X0_tableAt : Cond.instanceMethod yX0_tableAt ∈ wsG := wG_t 382 (by decide +kernel) (by decide +kernel)
theorem wx_X0_tableAt : Cond.selects RX0 yX0_tableAt yX0_tableAt ∈ wsG := wG_t 383 (by decide +kernel) (by decide +kernel)
theorem wo_X0_tableAt : Cond.code yX0_tableAt cX0_tableAt 3 (some .int) ∈ wsG := wG_t 384 (by decide +kernel) (by decide +kernel)
theorem wl_X3_73 : Cond.methodLink RX3 73 yX0_roomAt ∈ wsG := wG_t 385 (by decide +kernel) (by decide +kernel)
theorem wl_X3_79 : Cond.methodLink RX3 79 Lib.Math.max.name ∈ wsG := wG_t 386 (by decide +kernel) (by decide +kernel)
theorem ws_J9_max_7cf53 : Cond.static Lib.Math.max.name ∈ wsG := wG_t 387 (by decide +kernel) (by decide +kernel)
theorem wo_max : Cond.code Lib.Math.max.name Lib.Math.max.code 2 (some .int) ∈ wsG := wG_t 388 (by decide +kernel) (by decide +kernel)
theorem wl_X3_55 : Cond.methodLink RX3 55 Lib.Math.min.name ∈ wsG := wG_t 389 (by decide +kernel) (by decide +kernel)
theorem wl_X3_61 : Cond.methodLink RX3 61 yX3_search ∈ wsG := wG_t 390 (by decide +kernel) (by decide +kernel)
theorem ws_X3_search : Cond.static yX3_search ∈ wsG := wG_t 391 (by decide +kernel) (by decide +kernel)
theorem wo_X3_search : Cond.code yX3_search cX3_search 6 (some .boolean) ∈ wsG := wG_t 392 (by decide +kernel) (by decide +kernel)
theorem wl_X3_82 : Cond.methodLink RX3 82 yX3_mayReach ∈ wsG := wG_t 393 (by decide +kernel) (by decide +kernel)
theorem wm_X3_mayReach : Cond.instanceMethod yX3_mayReach ∈ wsG := wG_t 395 (by decide +kernel) (by decide +kernel)
theorem wo_X3_mayReach : Cond.code yX3_mayReach cX3_mayReach 5 (some .boolean) ∈ wsG := wG_t 396 (by decide +kernel) (by decide +kernel)
theorem wl_X3_86 : Cond.methodLink RX3 86 yX3_lower ∈ wsG := wG_t 397 (by decide +kernel) (by decide +kernel)
theorem wm_X3_lower : Cond.instanceMethod yX3_lower ∈ wsG := wG_t 399 (by decide +kernel) (by decide +kernel)
theorem wo_X3_lower : Cond.code yX3_lower cX3_lower 5 none ∈ wsG := wG_t 400 (by decide +kernel) (by decide +kernel)
theorem wl_L_63 : Cond.methodLink RL 63 yX4_tune ∈ wsG := wG_t 401 (by decide +kernel) (by decide +kernel)
theorem wm_X4_tune : Cond.instanceMethod yX4_tune ∈ wsG := wG_t 402 (by decide +kernel) (by decide +kernel)
theorem wx_X4_tune : Cond.selects RX4 yX4_tune yX4_tune ∈ wsG := wG_t 403 (by decide +kernel) (by decide +kernel)
theorem wo_X4_tune : Cond.code yX4_tune cX4_tune 5 (some .int) ∈ wsG := wG_t 404 (by decide +kernel) (by decide +kernel)
theorem wl_L_67 : Cond.methodLink RL 67 yX4_tuningAt ∈ wsG := wG_t 405 (by decide +kernel) (by decide +kernel)
theorem wm_X4_tuningAt : Cond.instanceMethod yX4_tuningAt ∈ wsG := wG_t 406 (by decide +kernel) (by decide +kernel)
theorem wx_X4_tuningAt : Cond.selects RX4 yX4_tuningAt yX4_tuningAt ∈ wsG := wG_t 407 (by decide +kernel) (by decide +kernel)
theorem wo_X4_tuningAt : Cond.code yX4_tuningAt cX4_tuningAt 4 (some .int) ∈ wsG := wG_t 408 (by decide +kernel) (by decide +kernel)
theorem wl_L_71 : Cond.methodLink RL 71 yX4_note ∈ wsG := wG_t 409 (by decide +kernel) (by decide +kernel)
theorem wm_X4_note : Cond.instanceMethod yX4_note ∈ wsG := wG_t 410 (by decide +kernel) (by decide +kernel)
theorem wx_X4_note : Cond.selects RX4 yX4_note yX4_note ∈ wsG := wG_t 411 (by decide +kernel) (by decide +kernel)
theorem wo_X4_note : Cond.code yX4_note cX4_note 2 (some .int) ∈ wsG := wG_t 412 (by decide +kernel) (by decide +kernel)
theorem wl_X4_164 : Cond.methodLink RX4 164 yX1_addNote ∈ wsG := wG_t 413 (by decide +kernel) (by decide +kernel)
theorem wm_X1_addNote : Cond.instanceMethod yX1_addNote ∈ wsG := wG_t 414 (by decide +kernel) (by decide +kernel)
theorem wx_X1_addNote : Cond.selects RX1 yX1_addNote yX1_addNote ∈ wsG := wG_t 415 (by decide +kernel) (by decide +kernel)
theorem wo_X1_addNote : Cond.code yX1_addNote cX1_addNote 2 none ∈ wsG := wG_t 416 (by decide +kernel) (by decide +kernel)
theorem wl_L_75 : Cond.methodLink RL 75 yX4_ring ∈ wsG := wG_t 417 (by decide +kernel) (by decide +kernel)
theorem wm_X4_ring : Cond.instanceMethod yX4_ring ∈ wsG := wG_t 418 (by decide +kernel) (by decide +kernel)
theorem wx_X4_ring : Cond.selects RX4 yX4_ring yX4_ring ∈ wsG := wG_t 419 (by decide +kernel) (by decide +kernel)
theorem wo_X4_ring : Cond.code yX4_ring cX4_ring 2 (some .boolean) ∈ wsG := wG_t 420 (by decide +kernel) (by decide +kernel)
theorem wl_X4_167 : Cond.methodLink RX4 167 yX1_startAnew ∈ wsG := wG_t 421 (by decide +kernel) (by decide +kernel)
theorem wm_X1_startAnew : Cond.instanceMethod yX1_startAnew ∈ wsG := wG_t 422 (by decide +kernel) (by decide +kernel)
theorem wx_X1_startAnew : Cond.selects RX1 yX1_startAnew yX1_startAnew ∈ wsG := wG_t 423 (by decide +kernel) (by decide +kernel)
theorem wo_X1_startAnew : Cond.code yX1_startAnew cX1_startAnew 2 none ∈ wsG := wG_t 424 (by decide +kernel) (by decide +kernel)
theorem wl_L_79 : Cond.methodLink RL 79 yX4_ringWeight ∈ wsG := wG_t 425 (by decide +kernel) (by decide +kernel)
theorem wm_X4_ringWeight : Cond.instanceMethod yX4_ringWeight ∈ wsG := wG_t 426 (by decide +kernel) (by decide +kernel)
theorem wx_X4_ringWeight : Cond.selects RX4 yX4_ringWeight yX4_ringWeight ∈ wsG := wG_t 427 (by decide +kernel) (by decide +kernel)
theorem wo_X4_ringWeight : Cond.code yX4_ringWeight cX4_ringWeight 1 (some .int) ∈ wsG := wG_t 428 (by decide +kernel) (by decide +kernel)
theorem wl_X4_170 : Cond.methodLink RX4 170 yX1_choose ∈ wsG := wG_t 429 (by decide +kernel) (by decide +kernel)
theorem wm_X1_choose : Cond.instanceMethod yX1_choose ∈ wsG := wG_t 430 (by decide +kernel) (by decide +kernel)
theorem wx_X1_choose : Cond.selects RX1 yX1_choose yX1_choose ∈ wsG := wG_t 431 (by decide +kernel) (by decide +kernel)
theorem wo_X1_choose : Cond.code yX1_choose cX1_choose 4 none ∈ wsG := wG_t 432 (by decide +kernel) (by decide +kernel)
theorem wl_X1_57 : Cond.methodLink RX1 57 yX1_weigh ∈ wsG := wG_t 433 (by decide +kernel) (by decide +kernel)
theorem wm_X1_weigh : Cond.instanceMethod yX1_weigh ∈ wsG := wG_t 435 (by decide +kernel) (by decide +kernel)
theorem wo_X1_weigh : Cond.code yX1_weigh cX1_weigh 5 none ∈ wsG := wG_t 436 (by decide +kernel) (by decide +kernel)
theorem wl_X1_79 : Cond.methodLink RX1 79 yX0_weightNow ∈ wsG := wG_t 437 (by decide +kernel) (by decide +kernel)
theorem wl_X1_83 : Cond.methodLink RX1 83 yX0_partNow ∈ wsG := wG_t 438 (by decide +kernel) (by decide +kernel)
theorem wl_X1_64 : Cond.methodLink RX1 64 yX1_leastWithFirst ∈ wsG := wG_t 439 (by decide +kernel) (by decide +kernel)
theorem wm_X1_leastWithFirst : Cond.instanceMethod yX1_leastWithFirst ∈ wsG := wG_t 441 (by decide +kernel) (by decide +kernel)
theorem wo_X1_leastWithFirst : Cond.code yX1_leastWithFirst cX1_leastWithFirst 7 (some .long) ∈ wsG := wG_t 442 (by decide +kernel) (by decide +kernel)
theorem wl_X1_86 : Cond.methodLink RX1 86 yJ7_fill_53178 ∈ wsG := wG_t 443 (by decide +kernel) (by decide +kernel)
theorem wl_X1_92 : Cond.methodLink RX1 92 yX1_numberOf ∈ wsG := wG_t 444 (by decide +kernel) (by decide +kernel)
theorem wm_X1_numberOf : Cond.instanceMethod yX1_numberOf ∈ wsG := wG_t 446 (by decide +kernel) (by decide +kernel)
theorem wo_X1_numberOf : Cond.code yX1_numberOf cX1_numberOf 3 (some .long) ∈ wsG := wG_t 447 (by decide +kernel) (by decide +kernel)
theorem wl_X1_53 : Cond.methodLink RX1 53 yX1_placeOf ∈ wsG := wG_t 448 (by decide +kernel) (by decide +kernel)
theorem ws_X1_placeOf : Cond.static yX1_placeOf ∈ wsG := wG_t 449 (by decide +kernel) (by decide +kernel)
theorem wo_X1_placeOf : Cond.code yX1_placeOf cX1_placeOf 1 (some .int) ∈ wsG := wG_t 450 (by decide +kernel) (by decide +kernel)
theorem wl_X1_96 : Cond.methodLink RX1 96 yX1_seat ∈ wsG := wG_t 451 (by decide +kernel) (by decide +kernel)
theorem wm_X1_seat : Cond.instanceMethod yX1_seat ∈ wsG := wG_t 453 (by decide +kernel) (by decide +kernel)
theorem wo_X1_seat : Cond.code yX1_seat cX1_seat 5 (some .long) ∈ wsG := wG_t 454 (by decide +kernel) (by decide +kernel)
theorem wl_X1_99 : Cond.methodLink RX1 99 yJ7_fill_d0a16 ∈ wsG := wG_t 455 (by decide +kernel) (by decide +kernel)
theorem ws_J7_fill_d0a16 : Cond.static yJ7_fill_d0a16 ∈ wsG := wG_t 456 (by decide +kernel) (by decide +kernel)
theorem wo_J7_fill_d0a16 : Cond.code yJ7_fill_d0a16 cJ7_fill_d0a16 5 none ∈ wsG := wG_t 457 (by decide +kernel) (by decide +kernel)
theorem wl_X1_102 : Cond.methodLink RX1 102 yX1_reachFrom ∈ wsG := wG_t 458 (by decide +kernel) (by decide +kernel)
theorem wm_X1_reachFrom : Cond.instanceMethod yX1_reachFrom ∈ wsG := wG_t 460 (by decide +kernel) (by decide +kernel)
theorem wo_X1_reachFrom : Cond.code yX1_reachFrom cX1_reachFrom 12 (some .boolean) ∈ wsG := wG_t 461 (by decide +kernel) (by decide +kernel)
theorem wz_X1_117 : Cond.methodLinkNest RX1 117 yX4_within RX4 ∈ lw_tbl := wT_t 462 (by decide +kernel)
theorem wl_X1_106 : Cond.methodLink RX1 106 yX1_moveHolders ∈ wsG := wG_t 463 (by decide +kernel) (by decide +kernel)
theorem wm_X1_moveHolders : Cond.instanceMethod yX1_moveHolders ∈ wsG := wG_t 465 (by decide +kernel) (by decide +kernel)
theorem wo_X1_moveHolders : Cond.code yX1_moveHolders cX1_moveHolders 6 (some .boolean) ∈ wsG := wG_t 466 (by decide +kernel) (by decide +kernel)
theorem wl_X1_110 : Cond.methodLink RX1 110 yX1_nearestFree ∈ wsG := wG_t 467 (by decide +kernel) (by decide +kernel)
theorem wm_X1_nearestFree : Cond.instanceMethod yX1_nearestFree ∈ wsG := wG_t 469 (by decide +kernel) (by decide +kernel)
theorem wo_X1_nearestFree : Cond.code yX1_nearestFree cX1_nearestFree 4 (some .int) ∈ wsG := wG_t 470 (by decide +kernel) (by decide +kernel)
theorem wl_X1_113 : Cond.methodLink RX1 113 yX1_passAlong ∈ wsG := wG_t 471 (by decide +kernel) (by decide +kernel)
theorem wm_X1_passAlong : Cond.instanceMethod yX1_passAlong ∈ wsG := wG_t 473 (by decide +kernel) (by decide +kernel)
theorem wo_X1_passAlong : Cond.code yX1_passAlong cX1_passAlong 6 none ∈ wsG := wG_t 474 (by decide +kernel) (by decide +kernel)
theorem wl_X1_68 : Cond.methodLink RX1 68 Lib.MathLoose.min_long.x ∈ wsG := wG_t 475 (by decide +kernel) (by decide +kernel)
theorem ws_J9_min_f86c9 : Cond.static Lib.MathLoose.min_long.x ∈ wsG := wG_t 476 (by decide +kernel) (by decide +kernel)
theorem wo_minl : Cond.code Lib.MathLoose.min_long.x Lib.MathLoose.min_long.code 4 (some .long) ∈ wsG := wG_t 477 (by decide +kernel) (by decide +kernel)
theorem wl_X4_174 : Cond.methodLink RX4 174 yX1_chosenWeight ∈ wsG := wG_t 478 (by decide +kernel) (by decide +kernel)
theorem wm_X1_chosenWeight : Cond.instanceMethod yX1_chosenWeight ∈ wsG := wG_t 479 (by decide +kernel) (by decide +kernel)
theorem wx_X1_chosenWeight : Cond.selects RX1 yX1_chosenWeight yX1_chosenWeight ∈ wsG := wG_t 480 (by decide +kernel) (by decide +kernel)
theorem wo_X1_chosenWeight : Cond.code yX1_chosenWeight cX1_chosenWeight 1 (some .int) ∈ wsG := wG_t 481 (by decide +kernel) (by decide +kernel)
theorem wl_L_84 : Cond.methodLink RL 84 yX4_ringBell ∈ wsG := wG_t 482 (by decide +kernel) (by decide +kernel)
theorem wm_X4_ringBell : Cond.instanceMethod yX4_ringBell ∈ wsG := wG_t 483 (by decide +kernel) (by decide +kernel)
theorem wx_X4_ringBell : Cond.selects RX4 yX4_ringBell yX4_ringBell ∈ wsG := wG_t 484 (by decide +kernel) (by decide +kernel)
theorem wo_X4_ringBell : Cond.code yX4_ringBell cX4_ringBell 2 (some .int) ∈ wsG := wG_t 485 (by decide +kernel) (by decide +kernel)
theorem wl_X4_177 : Cond.methodLink RX4 177 yX1_chosenBell ∈ wsG := wG_t 486 (by decide +kernel) (by decide +kernel)
theorem wm_X1_chosenBell : Cond.instanceMethod yX1_chosenBell ∈ wsG := wG_t 487 (by decide +kernel) (by decide +kernel)
theorem wx_X1_chosenBell : Cond.selects RX1 yX1_chosenBell yX1_chosenBell ∈ wsG := wG_t 488 (by decide +kernel) (by decide +kernel)
theorem wo_X1_chosenBell : Cond.code yX1_chosenBell cX1_chosenBell 2 (some .int) ∈ wsG := wG_t 489 (by decide +kernel) (by decide +kernel)
theorem wl_L_88 : Cond.methodLink RL 88 yX4_tower ∈ wsG := wG_t 490 (by decide +kernel) (by decide +kernel)
theorem wm_X4_tower : Cond.instanceMethod yX4_tower ∈ wsG := wG_t 491 (by decide +kernel) (by decide +kernel)
theorem wx_X4_tower : Cond.selects RX4 yX4_tower yX4_tower ∈ wsG := wG_t 492 (by decide +kernel) (by decide +kernel)
theorem wo_X4_tower : Cond.code yX4_tower cX4_tower 4 (some .boolean) ∈ wsG := wG_t 493 (by decide +kernel) (by decide +kernel)
theorem wl_X4_183 : Cond.methodLink RX4 183 yX4_pullsIf ∈ wsG := wG_t 494 (by decide +kernel) (by decide +kernel)
theorem wm_X4_pullsIf : Cond.instanceMethod yX4_pullsIf ∈ wsG := wG_t 496 (by decide +kernel) (by decide +kernel)
theorem wo_X4_pullsIf : Cond.code yX4_pullsIf cX4_pullsIf 6 (some .int) ∈ wsG := wG_t 497 (by decide +kernel) (by decide +kernel)
theorem wl_L_92 : Cond.methodLink RL 92 yX4_hang ∈ wsG := wG_t 498 (by decide +kernel) (by decide +kernel)
theorem wm_X4_hang : Cond.instanceMethod yX4_hang ∈ wsG := wG_t 499 (by decide +kernel) (by decide +kernel)
theorem wx_X4_hang : Cond.selects RX4 yX4_hang yX4_hang ∈ wsG := wG_t 500 (by decide +kernel) (by decide +kernel)
theorem wo_X4_hang : Cond.code yX4_hang cX4_hang 5 (some .boolean) ∈ wsG := wG_t 501 (by decide +kernel) (by decide +kernel)
theorem wl_X4_190 : Cond.methodLink RX4 190 yX4_pullsTogether ∈ wsG := wG_t 502 (by decide +kernel) (by decide +kernel)
theorem wm_X4_pullsTogether : Cond.instanceMethod yX4_pullsTogether ∈ wsG := wG_t 504 (by decide +kernel) (by decide +kernel)
theorem wo_X4_pullsTogether : Cond.code yX4_pullsTogether cX4_pullsTogether 1 (some .int) ∈ wsG := wG_t 505 (by decide +kernel) (by decide +kernel)
theorem wl_L_96 : Cond.methodLink RL 96 yX4_about ∈ wsG := wG_t 506 (by decide +kernel) (by decide +kernel)
theorem wm_X4_about : Cond.instanceMethod yX4_about ∈ wsG := wG_t 507 (by decide +kernel) (by decide +kernel)
theorem wx_X4_about : Cond.selects RX4 yX4_about yX4_about ∈ wsG := wG_t 508 (by decide +kernel) (by decide +kernel)
theorem wo_X4_about : Cond.code yX4_about cX4_about 2 (some .int) ∈ wsG := wG_t 509 (by decide +kernel) (by decide +kernel)
theorem wl_X4_193 : Cond.methodLink RX4 193 yX4_soundMetal ∈ wsG := wG_t 510 (by decide +kernel) (by decide +kernel)
theorem wm_X4_soundMetal : Cond.instanceMethod yX4_soundMetal ∈ wsG := wG_t 512 (by decide +kernel) (by decide +kernel)
theorem wo_X4_soundMetal : Cond.code yX4_soundMetal cX4_soundMetal 4 (some .int) ∈ wsG := wG_t 513 (by decide +kernel) (by decide +kernel)
theorem wk_L_10 : Cond.classLink RL 10 RX5 ∈ wsG := wG_t 514 (by decide +kernel) (by decide +kernel)
theorem wn_X5 : Cond.instantiable RX5 33 ∈ wsG := wG_t 515 (by decide +kernel) (by decide +kernel)
theorem wl_L_12 : Cond.methodLink RL 12 yX5_init ∈ wsG := wG_t 516 (by decide +kernel) (by decide +kernel)
theorem wm_X5_init : Cond.instanceMethod yX5_init ∈ wsG := wG_t 517 (by decide +kernel) (by decide +kernel)
theorem wo_X5_init : Cond.code yX5_init cX5_init 1 none ∈ wsG := wG_t 518 (by decide +kernel) (by decide +kernel)
theorem wl_X5_1 : Cond.methodLink RX5 1 objectInit ∈ wsG := wG_t 519 (by decide +kernel) (by decide +kernel)
theorem wf_X5_94 : Cond.fieldLink RX5 94 "BellFoundryModel" "profiles" "I" ∈ wsG := wG_t 520 (by decide +kernel) (by decide +kernel)
theorem wf_X5_7 : Cond.fieldLink RX5 7 "BellFoundryModel" "rest" "[I" ∈ wsG := wG_t 521 (by decide +kernel) (by decide +kernel)
theorem wf_X5_13 : Cond.fieldLink RX5 13 "BellFoundryModel" "thick" "[I" ∈ wsG := wG_t 522 (by decide +kernel) (by decide +kernel)
theorem wf_X5_16 : Cond.fieldLink RX5 16 "BellFoundryModel" "least" "[I" ∈ wsG := wG_t 523 (by decide +kernel) (by decide +kernel)
theorem wf_X5_19 : Cond.fieldLink RX5 19 "BellFoundryModel" "metal" "[I" ∈ wsG := wG_t 524 (by decide +kernel) (by decide +kernel)
theorem wf_X5_22 : Cond.fieldLink RX5 22 "BellFoundryModel" "base" "[I" ∈ wsG := wG_t 525 (by decide +kernel) (by decide +kernel)
theorem wf_X5_25 : Cond.fieldLink RX5 25 "BellFoundryModel" "table" "[I" ∈ wsG := wG_t 526 (by decide +kernel) (by decide +kernel)
theorem wf_X5_86 : Cond.fieldLink RX5 86 "BellFoundryModel" "bells" "I" ∈ wsG := wG_t 527 (by decide +kernel) (by decide +kernel)
theorem wf_X5_28 : Cond.fieldLink RX5 28 "BellFoundryModel" "bellProfile" "[I" ∈ wsG := wG_t 528 (by decide +kernel) (by decide +kernel)
theorem wf_X5_31 : Cond.fieldLink RX5 31 "BellFoundryModel" "bellRest" "[I" ∈ wsG := wG_t 529 (by decide +kernel) (by decide +kernel)
theorem wf_X5_34 : Cond.fieldLink RX5 34 "BellFoundryModel" "bellThick" "[I" ∈ wsG := wG_t 530 (by decide +kernel) (by decide +kernel)
theorem wf_X5_37 : Cond.fieldLink RX5 37 "BellFoundryModel" "bellLeast" "[I" ∈ wsG := wG_t 531 (by decide +kernel) (by decide +kernel)
theorem wf_X5_40 : Cond.fieldLink RX5 40 "BellFoundryModel" "bellMetal" "[I" ∈ wsG := wG_t 532 (by decide +kernel) (by decide +kernel)
theorem wf_X5_43 : Cond.fieldLink RX5 43 "BellFoundryModel" "bellBase" "[I" ∈ wsG := wG_t 533 (by decide +kernel) (by decide +kernel)
theorem wf_X5_46 : Cond.fieldLink RX5 46 "BellFoundryModel" "bellTable" "[I" ∈ wsG := wG_t 534 (by decide +kernel) (by decide +kernel)
theorem wf_X5_49 : Cond.fieldLink RX5 49 "BellFoundryModel" "isOld" "[Z" ∈ wsG := wG_t 535 (by decide +kernel) (by decide +kernel)
theorem wf_X5_53 : Cond.fieldLink RX5 53 "BellFoundryModel" "isCracked" "[Z" ∈ wsG := wG_t 536 (by decide +kernel) (by decide +kernel)
theorem wf_X5_56 : Cond.fieldLink RX5 56 "BellFoundryModel" "hangs" "[I" ∈ wsG := wG_t 537 (by decide +kernel) (by decide +kernel)
theorem wf_X5_98 : Cond.fieldLink RX5 98 "BellFoundryModel" "copper" "I" ∈ wsG := wG_t 538 (by decide +kernel) (by decide +kernel)
theorem wf_X5_102 : Cond.fieldLink RX5 102 "BellFoundryModel" "tin" "I" ∈ wsG := wG_t 539 (by decide +kernel) (by decide +kernel)
theorem wf_X5_105 : Cond.fieldLink RX5 105 "BellFoundryModel" "heap" "I" ∈ wsG := wG_t 540 (by decide +kernel) (by decide +kernel)
theorem wf_X5_59 : Cond.fieldLink RX5 59 "BellFoundryModel" "from" "[I" ∈ wsG := wG_t 541 (by decide +kernel) (by decide +kernel)
theorem wf_X5_62 : Cond.fieldLink RX5 62 "BellFoundryModel" "to" "[I" ∈ wsG := wG_t 542 (by decide +kernel) (by decide +kernel)
theorem wf_X5_140 : Cond.fieldLink RX5 140 "BellFoundryModel" "notes" "I" ∈ wsG := wG_t 543 (by decide +kernel) (by decide +kernel)
theorem wf_X5_65 : Cond.fieldLink RX5 65 "BellFoundryModel" "step" "[I" ∈ wsG := wG_t 544 (by decide +kernel) (by decide +kernel)
theorem wf_X5_143 : Cond.fieldLink RX5 143 "BellFoundryModel" "awry" "I" ∈ wsG := wG_t 545 (by decide +kernel) (by decide +kernel)
theorem wf_X5_68 : Cond.fieldLink RX5 68 "BellFoundryModel" "share" "[I" ∈ wsG := wG_t 546 (by decide +kernel) (by decide +kernel)
theorem wf_X5_164 : Cond.fieldLink RX5 164 "BellFoundryModel" "bears" "I" ∈ wsG := wG_t 547 (by decide +kernel) (by decide +kernel)
theorem wf_X5_71 : Cond.fieldLink RX5 71 "BellFoundryModel" "cuts" "[I" ∈ wsG := wG_t 548 (by decide +kernel) (by decide +kernel)
theorem wf_X5_74 : Cond.fieldLink RX5 74 "BellFoundryModel" "ringBell" "[I" ∈ wsG := wG_t 549 (by decide +kernel) (by decide +kernel)
theorem wf_X5_77 : Cond.fieldLink RX5 77 "BellFoundryModel" "weights" "[I" ∈ wsG := wG_t 550 (by decide +kernel) (by decide +kernel)
theorem wf_X5_80 : Cond.fieldLink RX5 80 "BellFoundryModel" "parts" "[I" ∈ wsG := wG_t 551 (by decide +kernel) (by decide +kernel)
theorem wf_X5_83 : Cond.fieldLink RX5 83 "BellFoundryModel" "filled" "[I" ∈ wsG := wG_t 552 (by decide +kernel) (by decide +kernel)
theorem wa_boolean : Cond.arrayClass .boolean ∈ wsG := wG_t 620 (by decide +kernel) (by decide +kernel)
theorem wl_L_17 : Cond.methodLink RL 17 yX5_profile ∈ wsG := wG_t 621 (by decide +kernel) (by decide +kernel)
theorem wm_X5_profile : Cond.instanceMethod yX5_profile ∈ wsG := wG_t 622 (by decide +kernel) (by decide +kernel)
theorem wx_X5_profile : Cond.selects RX5 yX5_profile yX5_profile ∈ wsG := wG_t 623 (by decide +kernel) (by decide +kernel)
theorem wo_X5_profile : Cond.code yX5_profile cX5_profile 3 (some .int) ∈ wsG := wG_t 624 (by decide +kernel) (by decide +kernel)
theorem wl_X5_90 : Cond.methodLink RX5 90 yX5_in ∈ wsG := wG_t 625 (by decide +kernel) (by decide +kernel)
theorem ws_X5_in : Cond.static yX5_in ∈ wsG := wG_t 626 (by decide +kernel) (by decide +kernel)
theorem wo_X5_in : Cond.code yX5_in cX5_in 3 (some .boolean) ∈ wsG := wG_t 627 (by decide +kernel) (by decide +kernel)
theorem wl_L_22 : Cond.methodLink RL 22 yX5_shape ∈ wsG := wG_t 628 (by decide +kernel) (by decide +kernel)
theorem wm_X5_shape : Cond.instanceMethod yX5_shape ∈ wsG := wG_t 629 (by decide +kernel) (by decide +kernel)
theorem wx_X5_shape : Cond.selects RX5 yX5_shape yX5_shape ∈ wsG := wG_t 630 (by decide +kernel) (by decide +kernel)
theorem wo_X5_shape : Cond.code yX5_shape cX5_shape 7 (some .boolean) ∈ wsG := wG_t 631 (by decide +kernel) (by decide +kernel)
theorem wl_L_27 : Cond.methodLink RL 27 yX5_base ∈ wsG := wG_t 632 (by decide +kernel) (by decide +kernel)
theorem wm_X5_base : Cond.instanceMethod yX5_base ∈ wsG := wG_t 633 (by decide +kernel) (by decide +kernel)
theorem wx_X5_base : Cond.selects RX5 yX5_base yX5_base ∈ wsG := wG_t 634 (by decide +kernel) (by decide +kernel)
theorem wo_X5_base : Cond.code yX5_base cX5_base 4 (some .boolean) ∈ wsG := wG_t 635 (by decide +kernel) (by decide +kernel)
theorem wl_L_32 : Cond.methodLink RL 32 yX5_buy ∈ wsG := wG_t 636 (by decide +kernel) (by decide +kernel)
theorem wm_X5_buy : Cond.instanceMethod yX5_buy ∈ wsG := wG_t 637 (by decide +kernel) (by decide +kernel)
theorem wx_X5_buy : Cond.selects RX5 yX5_buy yX5_buy ∈ wsG := wG_t 638 (by decide +kernel) (by decide +kernel)
theorem wo_X5_buy : Cond.code yX5_buy cX5_buy 3 (some .boolean) ∈ wsG := wG_t 639 (by decide +kernel) (by decide +kernel)
theorem wc_X5_97 : Cond.constant RX5 97 (1000000) ∈ wsG := wG_t 640 (by decide +kernel) (by decide +kernel)
theorem wc_X5_101 : Cond.constant RX5 101 (100000000) ∈ wsG := wG_t 641 (by decide +kernel) (by decide +kernel)
theorem wl_L_36 : Cond.methodLink RL 36 yX5_cast ∈ wsG := wG_t 642 (by decide +kernel) (by decide +kernel)
theorem wm_X5_cast : Cond.instanceMethod yX5_cast ∈ wsG := wG_t 643 (by decide +kernel) (by decide +kernel)
theorem wx_X5_cast : Cond.selects RX5 yX5_cast yX5_cast ∈ wsG := wG_t 644 (by decide +kernel) (by decide +kernel)
theorem wo_X5_cast : Cond.code yX5_cast cX5_cast 8 (some .int) ∈ wsG := wG_t 645 (by decide +kernel) (by decide +kernel)
theorem wl_L_41 : Cond.methodLink RL 41 yX5_cut ∈ wsG := wG_t 646 (by decide +kernel) (by decide +kernel)
theorem wm_X5_cut : Cond.instanceMethod yX5_cut ∈ wsG := wG_t 647 (by decide +kernel) (by decide +kernel)
theorem wx_X5_cut : Cond.selects RX5 yX5_cut yX5_cut ∈ wsG := wG_t 648 (by decide +kernel) (by decide +kernel)
theorem wo_X5_cut : Cond.code yX5_cut cX5_cut 3 (some .int) ∈ wsG := wG_t 649 (by decide +kernel) (by decide +kernel)
theorem wl_X5_112 : Cond.methodLink RX5 112 yX5_canCut ∈ wsG := wG_t 650 (by decide +kernel) (by decide +kernel)
theorem wm_X5_canCut : Cond.instanceMethod yX5_canCut ∈ wsG := wG_t 652 (by decide +kernel) (by decide +kernel)
theorem wo_X5_canCut : Cond.code yX5_canCut cX5_canCut 2 (some .boolean) ∈ wsG := wG_t 653 (by decide +kernel) (by decide +kernel)
theorem wl_X5_108 : Cond.methodLink RX5 108 yX5_isBell ∈ wsG := wG_t 654 (by decide +kernel) (by decide +kernel)
theorem wm_X5_isBell : Cond.instanceMethod yX5_isBell ∈ wsG := wG_t 656 (by decide +kernel) (by decide +kernel)
theorem wo_X5_isBell : Cond.code yX5_isBell cX5_isBell 2 (some .boolean) ∈ wsG := wG_t 657 (by decide +kernel) (by decide +kernel)
theorem wl_L_46 : Cond.methodLink RL 46 yX5_old ∈ wsG := wG_t 658 (by decide +kernel) (by decide +kernel)
theorem wm_X5_old : Cond.instanceMethod yX5_old ∈ wsG := wG_t 659 (by decide +kernel) (by decide +kernel)
theorem wx_X5_old : Cond.selects RX5 yX5_old yX5_old ∈ wsG := wG_t 660 (by decide +kernel) (by decide +kernel)
theorem wo_X5_old : Cond.code yX5_old cX5_old 2 (some .boolean) ∈ wsG := wG_t 661 (by decide +kernel) (by decide +kernel)
theorem wl_L_50 : Cond.methodLink RL 50 yX5_crack ∈ wsG := wG_t 662 (by decide +kernel) (by decide +kernel)
theorem wm_X5_crack : Cond.instanceMethod yX5_crack ∈ wsG := wG_t 663 (by decide +kernel) (by decide +kernel)
theorem wx_X5_crack : Cond.selects RX5 yX5_crack yX5_crack ∈ wsG := wG_t 664 (by decide +kernel) (by decide +kernel)
theorem wo_X5_crack : Cond.code yX5_crack cX5_crack 2 (some .boolean) ∈ wsG := wG_t 665 (by decide +kernel) (by decide +kernel)
theorem wl_X5_115 : Cond.methodLink RX5 115 yX5_weightOf ∈ wsG := wG_t 666 (by decide +kernel) (by decide +kernel)
theorem wm_X5_weightOf : Cond.instanceMethod yX5_weightOf ∈ wsG := wG_t 668 (by decide +kernel) (by decide +kernel)
theorem wo_X5_weightOf : Cond.code yX5_weightOf cX5_weightOf 4 (some .int) ∈ wsG := wG_t 669 (by decide +kernel) (by decide +kernel)
theorem wl_L_54 : Cond.methodLink RL 54 yX5_bellOf ∈ wsG := wG_t 670 (by decide +kernel) (by decide +kernel)
theorem wm_X5_bellOf : Cond.instanceMethod yX5_bellOf ∈ wsG := wG_t 671 (by decide +kernel) (by decide +kernel)
theorem wx_X5_bellOf : Cond.selects RX5 yX5_bellOf yX5_bellOf ∈ wsG := wG_t 672 (by decide +kernel) (by decide +kernel)
theorem wo_X5_bellOf : Cond.code yX5_bellOf cX5_bellOf 3 (some .int) ∈ wsG := wG_t 673 (by decide +kernel) (by decide +kernel)
theorem wc_X5_119 : Cond.constant RX5 119 (-100000) ∈ wsG := wG_t 674 (by decide +kernel) (by decide +kernel)
theorem wl_X5_120 : Cond.methodLink RX5 120 yX5_partOf ∈ wsG := wG_t 675 (by decide +kernel) (by decide +kernel)
theorem wm_X5_partOf : Cond.instanceMethod yX5_partOf ∈ wsG := wG_t 677 (by decide +kernel) (by decide +kernel)
theorem wo_X5_partOf : Cond.code yX5_partOf cX5_partOf 5 (some .int) ∈ wsG := wG_t 678 (by decide +kernel) (by decide +kernel)
theorem wl_X5_124 : Cond.methodLink RX5 124 yX5_pull ∈ wsG := wG_t 679 (by decide +kernel) (by decide +kernel)
theorem wm_X5_pull : Cond.instanceMethod yX5_pull ∈ wsG := wG_t 681 (by decide +kernel) (by decide +kernel)
theorem wo_X5_pull : Cond.code yX5_pull cX5_pull 3 (some .int) ∈ wsG := wG_t 682 (by decide +kernel) (by decide +kernel)
theorem wl_L_58 : Cond.methodLink RL 58 yX5_span ∈ wsG := wG_t 683 (by decide +kernel) (by decide +kernel)
theorem wm_X5_span : Cond.instanceMethod yX5_span ∈ wsG := wG_t 684 (by decide +kernel) (by decide +kernel)
theorem wx_X5_span : Cond.selects RX5 yX5_span yX5_span ∈ wsG := wG_t 685 (by decide +kernel) (by decide +kernel)
theorem wo_X5_span : Cond.code yX5_span cX5_span 4 (some .boolean) ∈ wsG := wG_t 686 (by decide +kernel) (by decide +kernel)
theorem wl_L_62 : Cond.methodLink RL 62 yX5_tuning ∈ wsG := wG_t 687 (by decide +kernel) (by decide +kernel)
theorem wm_X5_tuning : Cond.instanceMethod yX5_tuning ∈ wsG := wG_t 688 (by decide +kernel) (by decide +kernel)
theorem wx_X5_tuning : Cond.selects RX5 yX5_tuning yX5_tuning ∈ wsG := wG_t 689 (by decide +kernel) (by decide +kernel)
theorem wo_X5_tuning : Cond.code yX5_tuning cX5_tuning 2 (some .int) ∈ wsG := wG_t 690 (by decide +kernel) (by decide +kernel)
theorem wl_X5_134 : Cond.methodLink RX5 134 yX5_seeks ∈ wsG := wG_t 691 (by decide +kernel) (by decide +kernel)
theorem wm_X5_seeks : Cond.instanceMethod yX5_seeks ∈ wsG := wG_t 693 (by decide +kernel) (by decide +kernel)
theorem wo_X5_seeks : Cond.code yX5_seeks cX5_seeks 4 (some .int) ∈ wsG := wG_t 694 (by decide +kernel) (by decide +kernel)
theorem wl_X5_127 : Cond.methodLink RX5 127 yX5_isTuned ∈ wsG := wG_t 695 (by decide +kernel) (by decide +kernel)
theorem wm_X5_isTuned : Cond.instanceMethod yX5_isTuned ∈ wsG := wG_t 697 (by decide +kernel) (by decide +kernel)
theorem wo_X5_isTuned : Cond.code yX5_isTuned cX5_isTuned 5 (some .boolean) ∈ wsG := wG_t 698 (by decide +kernel) (by decide +kernel)
theorem wl_X5_130 : Cond.methodLink RX5 130 yX5_nextCuts ∈ wsG := wG_t 699 (by decide +kernel) (by decide +kernel)
theorem wm_X5_nextCuts : Cond.instanceMethod yX5_nextCuts ∈ wsG := wG_t 701 (by decide +kernel) (by decide +kernel)
theorem wo_X5_nextCuts : Cond.code yX5_nextCuts cX5_nextCuts 4 (some .boolean) ∈ wsG := wG_t 702 (by decide +kernel) (by decide +kernel)
theorem wl_L_66 : Cond.methodLink RL 66 yX5_tune ∈ wsG := wG_t 703 (by decide +kernel) (by decide +kernel)
theorem wm_X5_tune : Cond.instanceMethod yX5_tune ∈ wsG := wG_t 704 (by decide +kernel) (by decide +kernel)
theorem wx_X5_tune : Cond.selects RX5 yX5_tune yX5_tune ∈ wsG := wG_t 705 (by decide +kernel) (by decide +kernel)
theorem wo_X5_tune : Cond.code yX5_tune cX5_tune 4 (some .int) ∈ wsG := wG_t 706 (by decide +kernel) (by decide +kernel)
theorem wl_X5_137 : Cond.methodLink RX5 137 yX5_tuning ∈ wsG := wG_t 707 (by decide +kernel) (by decide +kernel)
theorem wl_L_70 : Cond.methodLink RL 70 yX5_tuningAt ∈ wsG := wG_t 708 (by decide +kernel) (by decide +kernel)
theorem wm_X5_tuningAt : Cond.instanceMethod yX5_tuningAt ∈ wsG := wG_t 709 (by decide +kernel) (by decide +kernel)
theorem wx_X5_tuningAt : Cond.selects RX5 yX5_tuningAt yX5_tuningAt ∈ wsG := wG_t 710 (by decide +kernel) (by decide +kernel)
theorem wo_X5_tuningAt : Cond.code yX5_tuningAt cX5_tuningAt 3 (some .int) ∈ wsG := wG_t 711 (by decide +kernel) (by decide +kernel)
theorem wl_L_74 : Cond.methodLink RL 74 yX5_note ∈ wsG := wG_t 712 (by decide +kernel) (by decide +kernel)
theorem wm_X5_note : Cond.instanceMethod yX5_note ∈ wsG := wG_t 713 (by decide +kernel) (by decide +kernel)
theorem wx_X5_note : Cond.selects RX5 yX5_note yX5_note ∈ wsG := wG_t 714 (by decide +kernel) (by decide +kernel)
theorem wo_X5_note : Cond.code yX5_note cX5_note 2 (some .int) ∈ wsG := wG_t 715 (by decide +kernel) (by decide +kernel)
theorem wl_L_78 : Cond.methodLink RL 78 yX5_ring ∈ wsG := wG_t 716 (by decide +kernel) (by decide +kernel)
theorem wm_X5_ring : Cond.instanceMethod yX5_ring ∈ wsG := wG_t 717 (by decide +kernel) (by decide +kernel)
theorem wx_X5_ring : Cond.selects RX5 yX5_ring yX5_ring ∈ wsG := wG_t 718 (by decide +kernel) (by decide +kernel)
theorem wo_X5_ring : Cond.code yX5_ring cX5_ring 2 (some .boolean) ∈ wsG := wG_t 719 (by decide +kernel) (by decide +kernel)
theorem wl_L_83 : Cond.methodLink RL 83 yX5_ringWeight ∈ wsG := wG_t 720 (by decide +kernel) (by decide +kernel)
theorem wm_X5_ringWeight : Cond.instanceMethod yX5_ringWeight ∈ wsG := wG_t 721 (by decide +kernel) (by decide +kernel)
theorem wx_X5_ringWeight : Cond.selects RX5 yX5_ringWeight yX5_ringWeight ∈ wsG := wG_t 722 (by decide +kernel) (by decide +kernel)
theorem wo_X5_ringWeight : Cond.code yX5_ringWeight cX5_ringWeight 1 (some .int) ∈ wsG := wG_t 723 (by decide +kernel) (by decide +kernel)
theorem wl_X5_157 : Cond.methodLink RX5 157 yX5_rings ∈ wsG := wG_t 724 (by decide +kernel) (by decide +kernel)
theorem wm_X5_rings : Cond.instanceMethod yX5_rings ∈ wsG := wG_t 726 (by decide +kernel) (by decide +kernel)
theorem wo_X5_rings : Cond.code yX5_rings cX5_rings 7 (some .int) ∈ wsG := wG_t 727 (by decide +kernel) (by decide +kernel)
theorem wl_X5_149 : Cond.methodLink RX5 149 yX5_lightest ∈ wsG := wG_t 728 (by decide +kernel) (by decide +kernel)
theorem wm_X5_lightest : Cond.instanceMethod yX5_lightest ∈ wsG := wG_t 730 (by decide +kernel) (by decide +kernel)
theorem wo_X5_lightest : Cond.code yX5_lightest cX5_lightest 10 (some .int) ∈ wsG := wG_t 731 (by decide +kernel) (by decide +kernel)
theorem wl_X5_146 : Cond.methodLink RX5 146 yX5_agrees ∈ wsG := wG_t 732 (by decide +kernel) (by decide +kernel)
theorem wm_X5_agrees : Cond.instanceMethod yX5_agrees ∈ wsG := wG_t 734 (by decide +kernel) (by decide +kernel)
theorem wo_X5_agrees : Cond.code yX5_agrees cX5_agrees 5 (some .boolean) ∈ wsG := wG_t 735 (by decide +kernel) (by decide +kernel)
theorem wl_X5_153 : Cond.methodLink RX5 153 yX5_fits ∈ wsG := wG_t 736 (by decide +kernel) (by decide +kernel)
theorem wm_X5_fits : Cond.instanceMethod yX5_fits ∈ wsG := wG_t 738 (by decide +kernel) (by decide +kernel)
theorem wo_X5_fits : Cond.code yX5_fits cX5_fits 7 (some .boolean) ∈ wsG := wG_t 739 (by decide +kernel) (by decide +kernel)
theorem wl_L_87 : Cond.methodLink RL 87 yX5_ringBell ∈ wsG := wG_t 740 (by decide +kernel) (by decide +kernel)
theorem wm_X5_ringBell : Cond.instanceMethod yX5_ringBell ∈ wsG := wG_t 741 (by decide +kernel) (by decide +kernel)
theorem wx_X5_ringBell : Cond.selects RX5 yX5_ringBell yX5_ringBell ∈ wsG := wG_t 742 (by decide +kernel) (by decide +kernel)
theorem wo_X5_ringBell : Cond.code yX5_ringBell cX5_ringBell 2 (some .int) ∈ wsG := wG_t 743 (by decide +kernel) (by decide +kernel)
theorem wl_L_91 : Cond.methodLink RL 91 yX5_tower ∈ wsG := wG_t 744 (by decide +kernel) (by decide +kernel)
theorem wm_X5_tower : Cond.instanceMethod yX5_tower ∈ wsG := wG_t 745 (by decide +kernel) (by decide +kernel)
theorem wx_X5_tower : Cond.selects RX5 yX5_tower yX5_tower ∈ wsG := wG_t 746 (by decide +kernel) (by decide +kernel)
theorem wo_X5_tower : Cond.code yX5_tower cX5_tower 5 (some .boolean) ∈ wsG := wG_t 747 (by decide +kernel) (by decide +kernel)
theorem wl_X5_161 : Cond.methodLink RX5 161 yX5_pulls ∈ wsG := wG_t 748 (by decide +kernel) (by decide +kernel)
theorem wm_X5_pulls : Cond.instanceMethod yX5_pulls ∈ wsG := wG_t 750 (by decide +kernel) (by decide +kernel)
theorem wo_X5_pulls : Cond.code yX5_pulls cX5_pulls 3 (some .int) ∈ wsG := wG_t 751 (by decide +kernel) (by decide +kernel)
theorem wl_L_95 : Cond.methodLink RL 95 yX5_hang ∈ wsG := wG_t 752 (by decide +kernel) (by decide +kernel)
theorem wm_X5_hang : Cond.instanceMethod yX5_hang ∈ wsG := wG_t 753 (by decide +kernel) (by decide +kernel)
theorem wx_X5_hang : Cond.selects RX5 yX5_hang yX5_hang ∈ wsG := wG_t 754 (by decide +kernel) (by decide +kernel)
theorem wo_X5_hang : Cond.code yX5_hang cX5_hang 4 (some .boolean) ∈ wsG := wG_t 755 (by decide +kernel) (by decide +kernel)
theorem wl_L_99 : Cond.methodLink RL 99 yX5_about ∈ wsG := wG_t 756 (by decide +kernel) (by decide +kernel)
theorem wm_X5_about : Cond.instanceMethod yX5_about ∈ wsG := wG_t 757 (by decide +kernel) (by decide +kernel)
theorem wx_X5_about : Cond.selects RX5 yX5_about yX5_about ∈ wsG := wG_t 758 (by decide +kernel) (by decide +kernel)
theorem wo_X5_about : Cond.code yX5_about cX5_about 4 (some .int) ∈ wsG := wG_t 759 (by decide +kernel) (by decide +kernel)
theorem wx_X4_profileAt : Cond.selects RX4 yX4_profileAt yX4_profileAt ∈ wsG := wG_p 0 (by decide +kernel) (by decide +kernel)
theorem wx_X4_charge : Cond.selects RX4 yX4_charge yX4_charge ∈ wsG := wG_p 1 (by decide +kernel) (by decide +kernel)
theorem wx_X4_bellAt : Cond.selects RX4 yX4_bellAt yX4_bellAt ∈ wsG := wG_p 2 (by decide +kernel) (by decide +kernel)
theorem wx_X4_trim : Cond.selects RX4 yX4_trim yX4_trim ∈ wsG := wG_p 3 (by decide +kernel) (by decide +kernel)
theorem wx_X4_shareOf : Cond.selects RX4 yX4_shareOf yX4_shareOf ∈ wsG := wG_p 4 (by decide +kernel) (by decide +kernel)
theorem wx_X4_plannedCuts : Cond.selects RX4 yX4_plannedCuts yX4_plannedCuts ∈ wsG := wG_p 5 (by decide +kernel) (by decide +kernel)
theorem wx_X3_prepare : Cond.selects RX3 yX3_prepare yX3_prepare ∈ wsG := wG_p 6 (by decide +kernel) (by decide +kernel)
theorem wx_X3_boundTables : Cond.selects RX3 yX3_boundTables yX3_boundTables ∈ wsG := wG_p 7 (by decide +kernel) (by decide +kernel)
theorem wx_X3_mayReach : Cond.selects RX3 yX3_mayReach yX3_mayReach ∈ wsG := wG_p 8 (by decide +kernel) (by decide +kernel)
theorem wx_X3_lower : Cond.selects RX3 yX3_lower yX3_lower ∈ wsG := wG_p 9 (by decide +kernel) (by decide +kernel)
theorem wx_X1_weigh : Cond.selects RX1 yX1_weigh yX1_weigh ∈ wsG := wG_p 10 (by decide +kernel) (by decide +kernel)
theorem wx_X1_leastWithFirst : Cond.selects RX1 yX1_leastWithFirst yX1_leastWithFirst ∈ wsG := wG_p 11 (by decide +kernel) (by decide +kernel)
theorem wx_X1_numberOf : Cond.selects RX1 yX1_numberOf yX1_numberOf ∈ wsG := wG_p 12 (by decide +kernel) (by decide +kernel)
theorem wx_X1_seat : Cond.selects RX1 yX1_seat yX1_seat ∈ wsG := wG_p 13 (by decide +kernel) (by decide +kernel)
theorem wx_X1_reachFrom : Cond.selects RX1 yX1_reachFrom yX1_reachFrom ∈ wsG := wG_p 14 (by decide +kernel) (by decide +kernel)
theorem wx_X1_moveHolders : Cond.selects RX1 yX1_moveHolders yX1_moveHolders ∈ wsG := wG_p 15 (by decide +kernel) (by decide +kernel)
theorem wx_X1_nearestFree : Cond.selects RX1 yX1_nearestFree yX1_nearestFree ∈ wsG := wG_p 16 (by decide +kernel) (by decide +kernel)
theorem wx_X1_passAlong : Cond.selects RX1 yX1_passAlong yX1_passAlong ∈ wsG := wG_p 17 (by decide +kernel) (by decide +kernel)
theorem wx_X4_pullsIf : Cond.selects RX4 yX4_pullsIf yX4_pullsIf ∈ wsG := wG_p 18 (by decide +kernel) (by decide +kernel)
theorem wx_X4_pullsTogether : Cond.selects RX4 yX4_pullsTogether yX4_pullsTogether ∈ wsG := wG_p 19 (by decide +kernel) (by decide +kernel)
theorem wx_X4_soundMetal : Cond.selects RX4 yX4_soundMetal yX4_soundMetal ∈ wsG := wG_p 20 (by decide +kernel) (by decide +kernel)
theorem wx_X5_canCut : Cond.selects RX5 yX5_canCut yX5_canCut ∈ wsG := wG_p 21 (by decide +kernel) (by decide +kernel)
theorem wx_X5_isBell : Cond.selects RX5 yX5_isBell yX5_isBell ∈ wsG := wG_p 22 (by decide +kernel) (by decide +kernel)
theorem wx_X5_weightOf : Cond.selects RX5 yX5_weightOf yX5_weightOf ∈ wsG := wG_p 23 (by decide +kernel) (by decide +kernel)
theorem wx_X5_partOf : Cond.selects RX5 yX5_partOf yX5_partOf ∈ wsG := wG_p 24 (by decide +kernel) (by decide +kernel)
theorem wx_X5_pull : Cond.selects RX5 yX5_pull yX5_pull ∈ wsG := wG_p 25 (by decide +kernel) (by decide +kernel)
theorem wx_X5_seeks : Cond.selects RX5 yX5_seeks yX5_seeks ∈ wsG := wG_p 26 (by decide +kernel) (by decide +kernel)
theorem wx_X5_isTuned : Cond.selects RX5 yX5_isTuned yX5_isTuned ∈ wsG := wG_p 27 (by decide +kernel) (by decide +kernel)
theorem wx_X5_nextCuts : Cond.selects RX5 yX5_nextCuts yX5_nextCuts ∈ wsG := wG_p 28 (by decide +kernel) (by decide +kernel)
theorem wx_X5_rings : Cond.selects RX5 yX5_rings yX5_rings ∈ wsG := wG_p 29 (by decide +kernel) (by decide +kernel)
theorem wx_X5_lightest : Cond.selects RX5 yX5_lightest yX5_lightest ∈ wsG := wG_p 30 (by decide +kernel) (by decide +kernel)
theorem wx_X5_agrees : Cond.selects RX5 yX5_agrees yX5_agrees ∈ wsG := wG_p 31 (by decide +kernel) (by decide +kernel)
theorem wx_X5_fits : Cond.selects RX5 yX5_fits yX5_fits ∈ wsG := wG_p 32 (by decide +kernel) (by decide +kernel)
theorem wx_X5_pulls : Cond.selects RX5 yX5_pulls yX5_pulls ∈ wsG := wG_p 33 (by decide +kernel) (by decide +kernel)
theorem inX0 : ∀ w ∈ wsX00, w ∈ wsG := by decide +kernel
theorem inX1 : ∀ w ∈ wsX10, w ∈ wsG := by decide +kernel
theorem inX2 : ∀ w ∈ wsX20, w ∈ wsG := by decide +kernel
theorem inX3 : ∀ w ∈ wsX30, w ∈ wsG := by decide +kernel
theorem inX4 : ∀ w ∈ wsX40, w ∈ wsG := by decide +kernel
theorem inX5 : ∀ w ∈ wsX50, w ∈ wsG := by decide +kernel
end
section
/-! ===== the pure heap: addresses to cells, and what it says of the machine's ===== -/
abbrev AE : Type := (Nat × vp_A) ⊕ (Nat × List Value)
abbrev AH : Type := Nat → Option AE
abbrev GG : Type := va_G × (Nat → ClassId) × Nat
abbrev MI : Type := MethodName × ByteArray × Nat × Option FieldType
def ge (G : GG) (e : AE) : va_E := match e with
  | .inl x => .inl (G.2.1 x.1, x.2)
  | .inr o => .inr o
def hp (G : GG) (h : AH) (H : Heap) : Prop := ∀ (a : Nat) (e : AE), h a = some e → G.2.2 ≤ a ∧ va_at G.1 vwCl (a, ge G e) H
def upA (h : AH) (a : Nat) (e : AE) : AH := fun b => if b = a then some e else h b
theorem upA_self (h : AH) (a : Nat) (e : AE) : upA h a e a = some e := if_pos rfl
theorem upA_ne {h : AH} {a b : Nat} {e : AE} (hb : b ≠ a) : upA h a e b = h b := if_neg hb
abbrev tyG (G : GG) : List (ClassId × FieldType) := [(G.2.1 0, .int), (G.2.1 1, .long), (G.2.1 2, .boolean), (G.2.1 3, .object RX2), (G.2.1 4, .object RX0)]
def KG (G : GG) (U : State) : Prop := va_K G.1 vwCl (tyG G) U ∧ va_Nw (.methodLinkNest RX2 42 yX4_within RX4) U ∧ va_Nw (.methodLinkNest RX1 117 yX4_within RX4) U ∧ va_Nw (.castable "[I" "java/lang/Cloneable") U ∧ va_AO RX2 U ∧ va_AO RX0 U
theorem KG.warm {G : GG} {s U : State} (hW : s.WarmedH U.vm) (h : KG G s) : KG G U :=
  ⟨va_K.moved hW.alike h.1, va_Nw.warmM hW h.2.1, va_Nw.warmM hW h.2.2.1, va_Nw.warmC hW h.2.2.2.1, va_AO.moved hW.alike h.2.2.2.2.1, va_AO.moved hW.alike h.2.2.2.2.2⟩
def AN (G : GG) : Nat → Prop := fun q => G.2.2 ≤ q
def rmD (d kc ks : Nat) : Room := { frames := d, cells := kc, slots := ks, locals := 40 * d }
def QQ (G : GG) (post : Option Value → AH → Prop) : Array Value → State → Outcome → State → Prop := fun _ st o t => (∃ (v : Option Value) (h' : AH), o = .returned v ∧ post v h' ∧ hp G h' t.heap) ∧ va_F (AN G) st t
/-- A METHOD'S CONTRACT at a pure heap: it returns, with a value and a pure heap behind it of which 'post' holds -/
def Con (l : Launch) (G : GG) (M : MI) (d kc ks : Nat) (as : List Value) (h : AH) (post : Option Value → AH → Prop) : Prop :=
  Met l M.1 (.code M.1 M.2.1 M.2.2.1 M.2.2.2 :: wsG) (rmD d kc ks) (va_Pc as (fun U => hp G h U.heap ∧ KG G U ∧ G.2.2 ≤ U.heap.size)) (QQ G post) kc ks (AN G)
theorem hp.set {G : GG} {h : AH} {H H1 : Heap} {a : Nat} {e : AE} (hh : hp G h H) (ha : G.2.2 ≤ a) (he : va_at G.1 vwCl (a, ge G e) H1) (oq : ∀ q : Nat, q ≠ a → H1[q]? = H[q]?) : hp G (upA h a e) H1 := by
  intro b x hb
  by_cases hba : b = a
  · subst hba
    rw [upA_self] at hb
    cases hb
    exact ⟨ha, he⟩
  · rw [upA_ne hba] at hb
    exact ⟨(hh b x hb).1, (hh b x hb).2.kept (oq b hba)⟩
theorem hp.lt {G : GG} {h : AH} {H : Heap} (hh : hp G h H) {a : Nat} {e : AE} (ha : h a = some e) : a < H.size := (hh a e ha).2.lt
theorem hp.fresh {G : GG} {h : AH} {H : Heap} (hh : hp G h H) : ∀ b, H.size ≤ b → h b = none := by
  intro b hb
  cases hx : h b with
  | none => rfl
  | some e => exact absurd (hh.lt hx) (by omega)
theorem hp.new {G : GG} {h : AH} {H H1 : Heap} {e : AE} (hh : hp G h H) (hN : G.2.2 ≤ H.size) (he : va_at G.1 vwCl (H.size, ge G e) H1) (oq : ∀ q : Nat, q < H.size → H1[q]? = H[q]?) : hp G (upA h H.size e) H1 := by
  intro b x hb
  by_cases hba : b = H.size
  · subst hba
    rw [upA_self] at hb
    cases hb
    exact ⟨hN, he⟩
  · rw [upA_ne hba] at hb
    exact ⟨(hh b x hb).1, (hh b x hb).2.kept (oq b (hh.lt hb))⟩
/-! ===== locals: a list of what is known, place by place ===== -/
def lg : List (Option Value) → Nat → Option Value
  | [], _ => none
  | x :: _, 0 => x
  | _ :: l, n + 1 => lg l n
def lst : List (Option Value) → Nat → Option Value → List (Option Value)
  | [], _, _ => []
  | _ :: l, 0, v => v :: l
  | x :: l, n + 1, v => x :: lst l n v
theorem lg_lst : ∀ (l : List (Option Value)) (i j : Nat) (v : Option Value), lg (lst l i v) j = if j = i ∧ i < l.length then v else lg l j
  | [], i, j, v => by simp [lg, lst]
  | x :: l, 0, 0, v => by simp [lg, lst]
  | x :: l, 0, j + 1, v => by simp [lg, lst]
  | x :: l, i + 1, 0, v => by simp [lg, lst]
  | x :: l, i + 1, j + 1, v => by simp [lg, lst, lg_lst l i j v]
def lvh (ls : Array Slot) (nL : Nat) (lv : List (Option Value)) : Prop := ls.size = nL ∧ lv_wf ls ∧ ∀ (i : Nat) (v : Value), lg lv i = some v → ls[i]? = some (.val v)
/-- the value that stands just before place i is no long -/
def lvok (lv : List (Option Value)) (i : Nat) : Bool := match i with
  | 0 => true
  | i + 1 => match lg lv i with
    | some v => v.category == 1
    | none => true
def lvp (lv : List (Option Value)) (n : Nat) : List (Nat × Value) := (List.range n).filterMap (fun i => (lg lv i).map (fun v => (i, v)))
theorem lvp_mem {lv : List (Option Value)} {n i : Nat} {v : Value} : (i, v) ∈ lvp lv n ↔ i < n ∧ lg lv i = some v := by
  simp only [lvp, List.mem_filterMap, List.mem_range, Option.map_eq_some_iff, Prod.mk.injEq]
  constructor
  · rintro ⟨j, hj, w, hw, rfl, rfl⟩
    exact ⟨hj, hw⟩
  · rintro ⟨h1, h2⟩
    exact ⟨i, h1, v, h2, rfl, rfl⟩
theorem lvh.has {ls : Array Slot} {nL : Nat} {lv : List (Option Value)} (h : lvh ls nL lv) (n : Nat) : lv_has ls nL (lvp lv n) := ⟨h.1, h.2.1, fun q hq => h.2.2 q.1 q.2 (lvp_mem.mp hq).2⟩
theorem lg_len : ∀ (l : List (Option Value)) (n : Nat) (x : Value), lg l n = some x → n < l.length
  | [], n, x, hx => by cases hx
  | y :: l, 0, x, hx => by simp
  | y :: l, n + 1, x, hx => by have := lg_len l n x hx; simp; omega
theorem lst_len : ∀ (l : List (Option Value)) (i : Nat) (v : Option Value), (lst l i v).length = l.length
  | [], i, v => rfl
  | x :: l, 0, v => rfl
  | x :: l, i + 1, v => by simp [lst, lst_len l i v]
theorem lvh.has_cons {ls : Array Slot} {nL n i : Nat} {x : Value} {lv : List (Option Value)} (h : lvh ls nL lv) (hx : lg lv i = some x) : lv_has ls nL ((i, x) :: lvp lv n) := ⟨h.1, h.2.1, fun q hq => by
  rcases List.mem_cons.mp hq with rfl | hq
  · exact h.2.2 _ _ hx
  · exact (h.has n).2.2 q hq⟩
theorem lvh.of1' {ls' : Array Slot} {nL : Nat} {lv : List (Option Value)} {i : Nat} {v : Value} {L : List (Nat × Value)} (h' : lv_has ls' nL ((i, v) :: L.filter (fun q => !(q.1 == i) && !(q.1 + 1 == i && q.2.category == 2)))) (hL : ∀ q ∈ lvp lv (lv.length + i + 2), q ∈ L) (hok : lvok lv i = true) : lvh ls' nL (lst lv i (some v)) := by
  refine ⟨h'.1, h'.2.1, fun j w hj => ?_⟩
  have hjl := lg_len _ _ _ hj
  rw [lst_len] at hjl
  rw [lg_lst] at hj
  by_cases hji : j = i
  · subst hji
    rw [if_pos ⟨rfl, hjl⟩] at hj
    cases hj
    exact h'.2.2 (j, v) List.mem_cons_self
  · rw [if_neg (fun q => hji q.1)] at hj
    refine h'.2.2 (j, w) (List.mem_cons_of_mem _ (List.mem_filter.mpr ⟨hL _ (lvp_mem.mpr ⟨by omega, hj⟩), ?_⟩))
    simp only [Bool.and_eq_true, Bool.not_eq_true', beq_eq_false_iff_ne, ne_eq, Bool.and_eq_false_iff]
    refine ⟨hji, ?_⟩
    by_cases hj1 : j + 1 = i
    · subst hj1
      right
      simp only [lvok, hj, beq_iff_eq] at hok
      omega
    · exact Or.inl hj1
theorem lvh.of1 {ls' : Array Slot} {nL : Nat} {lv : List (Option Value)} {i : Nat} {v : Value} (h' : lv_has ls' nL ((i, v) :: (lvp lv (lv.length + i + 2)).filter (fun q => !(q.1 == i) && !(q.1 + 1 == i && q.2.category == 2)))) (hok : lvok lv i = true) : lvh ls' nL (lst lv i (some v)) := lvh.of1' h' (fun _ h => h) hok
theorem lvh.of1c {ls' : Array Slot} {nL : Nat} {lv : List (Option Value)} {i : Nat} {v x : Value} (h' : lv_has ls' nL ((i, v) :: ((i, x) :: lvp lv (lv.length + i + 2)).filter (fun q => !(q.1 == i) && !(q.1 + 1 == i && q.2.category == 2)))) (hok : lvok lv i = true) : lvh ls' nL (lst lv i (some v)) := lvh.of1' h' (fun _ h => List.mem_cons_of_mem _ h) hok
theorem lvh.of2 {ls' : Array Slot} {nL : Nat} {lv : List (Option Value)} {i : Nat} {v : Value} (h' : lv_has ls' nL ((i, v) :: (lvp lv (lv.length + i + 2)).filter (fun q => !(q.1 == i) && (!(q.1 == i + 1) && !(q.1 + 1 == i && q.2.category == 2))))) (hok : lvok lv i = true) : lvh ls' nL (lst (lst lv i (some v)) (i + 1) none) := by
  refine ⟨h'.1, h'.2.1, fun j w hj => ?_⟩
  have hjl := lg_len _ _ _ hj
  rw [lst_len, lst_len] at hjl
  rw [lg_lst, lst_len] at hj
  by_cases hj1 : j = i + 1 ∧ i + 1 < lv.length
  · rw [if_pos hj1] at hj
    cases hj
  · rw [if_neg hj1] at hj
    have hj1' : j ≠ i + 1 := fun q => hj1 ⟨q, by omega⟩
    rw [lg_lst] at hj
    by_cases hji : j = i ∧ i < lv.length
    · rw [if_pos hji] at hj
      cases hj
      rw [hji.1]
      exact h'.2.2 (i, v) List.mem_cons_self
    · rw [if_neg hji] at hj
      have hji' : j ≠ i := fun q => hji ⟨q, by omega⟩
      refine h'.2.2 (j, w) (List.mem_cons_of_mem _ (List.mem_filter.mpr ⟨lvp_mem.mpr ⟨by omega, hj⟩, ?_⟩))
      simp only [Bool.and_eq_true, Bool.not_eq_true', beq_eq_false_iff_ne, ne_eq, Bool.and_eq_false_iff]
      refine ⟨hji', hj1', ?_⟩
      by_cases hj2 : j + 1 = i
      · subst hj2
        right
        simp only [lvok, hj, beq_iff_eq] at hok
        omega
      · exact Or.inl hj2
/-- what a method's locals are at its entry -/
def lvd : List Value → List (Option Value)
  | [] => []
  | v :: vs => if v.category = 2 then some v :: none :: lvd vs else some v :: lvd vs
theorem lvd_in : ∀ (vs : List Value) (k i : Nat) (v : Value), lg (lvd vs) i = some v → (k + i, v) ∈ lv_args k vs
  | [], k, i, v, h => by simp [lvd, lg] at h
  | x :: vs, k, i, v, h => by
    by_cases hc : x.category = 2
    · simp only [lvd, if_pos hc] at h
      match i, h with
      | 0, h =>
        simp only [lg] at h
        cases h
        simp [lv_args]
      | 1, h => simp [lg] at h
      | i + 2, h =>
        simp only [lg] at h
        have := lvd_in vs (k + 2) i v h
        simp only [lv_args, if_pos hc]
        rw [show k + (i + 2) = k + 2 + i by omega]
        exact List.mem_cons_of_mem _ this
    · simp only [lvd, if_neg hc] at h
      match i, h with
      | 0, h =>
        simp only [lg] at h
        cases h
        simp [lv_args]
      | i + 1, h =>
        simp only [lg] at h
        have := lvd_in vs (k + 1) i v h
        simp only [lv_args, if_neg hc]
        rw [show k + (i + 1) = k + 1 + i by omega]
        exact List.mem_cons_of_mem _ this
def lpad (l : List (Option Value)) (n : Nat) : List (Option Value) := l ++ List.replicate n none
theorem lg_pad (l : List (Option Value)) (n i : Nat) (v : Value) (h : lg (lpad l n) i = some v) : lg l i = some v := by
  induction l generalizing i with
  | nil =>
    exfalso
    have : ∀ (n i : Nat), lg (List.replicate n none) i = none := by
      intro n
      induction n with
      | zero => intro i; rfl
      | succ n ih =>
        intro i
        cases i with
        | zero => rfl
        | succ i => exact ih i
    simp only [lpad, List.nil_append, this] at h
    cases h
  | cons x l ih =>
    cases i with
    | zero => exact h
    | succ i => exact ih i h
theorem lvh_entry (vs : List Value) {n : Nat} (k : Nat) (h : (lg_sl vs).length ≤ n) : lvh ((lg_sl vs ++ List.replicate (n - (lg_sl vs).length) Slot.unset).toArray) n (lpad (lvd vs) k) := by
  have h0 := lv_entry vs h
  refine ⟨h0.1, h0.2.1, fun i v hi => ?_⟩
  have := lvd_in vs 0 i v (lg_pad _ _ _ _ hi)
  rw [Nat.zero_add] at this
  exact h0.2.2 (i, v) this
/-! ===== the judgement: from here the method comes to its end as Θ asks, whatever the machine around it ===== -/
abbrev TH : Type := Launch × GG × MI × (Array Value → State → Prop) × Room × (List Frame → Array Value → State → State → Prop)
def Cx (G : GG) (M : MI) (E : Array Value → State → Prop) (cc : ByteArray) (p : Program) (s : State) (m : MethodId) (args : Array Value) (meth : Method) (c : Code) : Prop :=
  CallFix p m c cc M.2.2.1 s args wsG M.1.cls ∧ meth.sig.returnType = M.2.2.2 ∧ meth.locks = false ∧ meth.name = M.1.name ∧ KG G s ∧ G.2.2 ≤ s.heap.size ∧ E args s
def J (Θ : TH) (cc : ByteArray) (h : AH) (k : Nat × Nat) (lv : List (Option Value)) (pc : Nat) (st : List Value) : Prop :=
  ∀ (p : Program) (e : Env) (s : State) (m : MethodId) (args : Array Value) (below : List Frame) (meth : Method) (c : Code), Cx Θ.2.1 Θ.2.2.1 Θ.2.2.2.1 cc p s m args meth c →
    ∀ (H : Heap) (locs : List Loc) (ls : Array Slot), hp Θ.2.1 h H → va_S (AN Θ.2.1) s.heap H locs → lvh ls Θ.2.2.1.2.2.1 lv →
      W p Θ.1 e Θ.2.2.2.2.1 s m args below meth c H locs k.1 k.2 (Θ.2.2.2.2.2 below args s) (F0 m pc ls st)
abbrev thM (l : Launch) (G : GG) (M : MI) (d kc ks : Nat) (post : Option Value → AH → Prop) : TH := (l, G, M, fun _ _ => True, rmD d kc ks, fun below args s => MQ below (QQ G post) args s kc ks (AN G))
theorem Con.of {l : Launch} {G : GG} {M : MI} {d kc ks : Nat} {as : List Value} {h : AH} {post : Option Value → AH → Prop} (n : Nat) (hy : plainName M.1.cls = true) (hlen : (lg_sl as).length ≤ M.2.2.1) (hJ : J (thM l G M d kc ks post) M.2.1 h (0, 0) (lpad (lvd as) n) 0 []) : Con l G M d kc ks as h post := by
  refine Met.ofW (cc := M.2.1) (maxL := M.2.2.1) (ret := M.2.2.2) hy rfl ?_
  intro p e s m args below meth c s₁ B hml hv
  obtain ⟨rfl, hH, hK, hN⟩ := hv
  have hts := atoms_spec (ws := .code M.1 M.2.1 M.2.2.1 M.2.2.2 :: wsG) B.pre
  rw [lg_entry_eq]
  exact hJ p e s m _ below meth c ⟨⟨B.exec, B.bytes, hml, findClass_of_methodNamed B.named, fun w hw => hts w (List.mem_cons_of_mem _ hw)⟩, B.returns, B.notSynchronized, (name_of_methodNamed B.named B.method).1, hK, hN, trivial⟩ s.heap [] _ hH va_S.rf (lvh_entry as n hlen)
theorem Con.mono {l : Launch} {G : GG} {M : MI} {d kc ks : Nat} {as : List Value} {h : AH} {post post' : Option Value → AH → Prop} (hc : Con l G M d kc ks as h post) (hp : ∀ v h', post v h' → post' v h') : Con l G M d kc ks as h post' := by
  intro p e ha hcas hclk s m args below hf hpre hP hK
  obtain ⟨t, o, h1, h2, h3, ⟨⟨v, h', e1, e2, e3⟩, hF⟩, hL⟩ := hc p e ha hcas hclk s m args below hf hpre hP hK
  exact ⟨t, o, h1, h2, h3, ⟨⟨v, h', e1, hp v h' e2, e3⟩, hF⟩, hL⟩
section JR
variable {Θ : TH} {cc : ByteArray} {h : AH} {k : Nat × Nat} {lv : List (Option Value)} {pc : Nat} {st : List Value}
theorem J.drop (i : Nat) (kk : J Θ cc h k (lst lv i none) pc st) : J Θ cc h k lv pc st :=
  fun p e s m args below meth c C H locs ls hH hS hl => kk p e s m args below meth c C H locs ls hH hS ⟨hl.1, hl.2.1, fun j v hj => by
    rw [lg_lst] at hj
    split at hj
    · cases hj
    · exact hl.2.2 j v hj⟩
theorem J.eqst {st' : List Value} (hs : st = st') (kk : J Θ cc h k lv pc st') : J Θ cc h k lv pc st := hs ▸ kk
theorem J.eqlv {lv' : List (Option Value)} (hs : lv = lv') (kk : J Θ cc h k lv' pc st) : J Θ cc h k lv pc st := hs ▸ kk
theorem J.eqh {h' : AH} (hs : h = h') (kk : J Θ cc h' k lv pc st) : J Θ cc h k lv pc st := hs ▸ kk
theorem j_iconst {n : Int} {v : Int32} (hd : decode cc pc = .ok (.iconst n, 1)) (hv : Int32.ofInt n = v) (kk : J Θ cc h k lv (pc + 1) (.int v :: st)) : J Θ cc h k lv pc (st) :=
  fun p e s m args below meth c C H locs ls hH hS hl => lv_iconst C.1.1 C.1.2.1 hd hv (kk p e s m args below meth c C H locs ls hH hS hl)
theorem j_bipush {n : Int} {v : Int32} (hd : decode cc pc = .ok (.bipush n, 2)) (hv : (Int8.ofInt n).toInt32 = v) (kk : J Θ cc h k lv (pc + 2) (.int v :: st)) : J Θ cc h k lv pc (st) :=
  fun p e s m args below meth c C H locs ls hH hS hl => lv_bipush C.1.1 C.1.2.1 hd hv (kk p e s m args below meth c C H locs ls hH hS hl)
theorem j_sipush {n : Int} {v : Int32} (hd : decode cc pc = .ok (.sipush n, 3)) (hv : (Int16.ofInt n).toInt32 = v) (kk : J Θ cc h k lv (pc + 3) (.int v :: st)) : J Θ cc h k lv pc (st) :=
  fun p e s m args below meth c C H locs ls hH hS hl => lv_sipush C.1.1 C.1.2.1 hd hv (kk p e s m args below meth c C H locs ls hH hS hl)
theorem j_lconst {n : Fin 2} {v : Int64} (hd : decode cc pc = .ok (.lconst n, 1)) (hv : Int64.ofNat (n : Nat) = v) (kk : J Θ cc h k lv (pc + 1) (.long v :: st)) : J Θ cc h k lv pc (st) :=
  fun p e s m args below meth c C H locs ls hH hS hl => lv_lconst C.1.1 C.1.2.1 hd hv (kk p e s m args below meth c C H locs ls hH hS hl)
theorem j_null (hd : decode cc pc = .ok (.aconst_null, 1)) (kk : J Θ cc h k lv (pc + 1) (.null :: st)) : J Θ cc h k lv pc (st) :=
  fun p e s m args below meth c C H locs ls hH hS hl => lv_null C.1.1 C.1.2.1 hd (kk p e s m args below meth c C H locs ls hH hS hl)
theorem j_ldc {own : String} {index : Nat} {v : Int32} (hM : Θ.2.2.1.1.cls = own) (hw : Cond.constant own index v ∈ wsG) (hd : decode cc pc = .ok (.ldc index, 2)) (kk : J Θ cc h k lv (pc + 2) (.int v :: st)) : J Θ cc h k lv pc (st) :=
  fun p e s m args below meth c C H locs ls hH hS hl => lv_ldc C.1.1 C.1.2.1 (hM ▸ C.1.2.2.2.1) (C.1.2.2.2.2 _ hw) hd (kk p e s m args below meth c C H locs ls hH hS hl)
theorem j_ldc2 {own : String} {index : Nat} {v : Int64} (hM : Θ.2.2.1.1.cls = own) (hw : Cond.constantLong own index v ∈ wsG) (hd : decode cc pc = .ok (.ldc2_w index, 3)) (kk : J Θ cc h k lv (pc + 3) (.long v :: st)) : J Θ cc h k lv pc (st) :=
  fun p e s m args below meth c C H locs ls hH hS hl => lv_ldc2 C.1.1 C.1.2.1 (hM ▸ C.1.2.2.2.1) (C.1.2.2.2.2 _ hw) hd (kk p e s m args below meth c C H locs ls hH hS hl)
theorem j_iload_n {i : Fin 4} {x : Int32} (hd : decode cc pc = .ok (.iload_n i, 1)) (hv : lg lv (i : Nat) = some (.int x)) (kk : J Θ cc h k lv (pc + 1) (.int x :: st)) : J Θ cc h k lv pc (st) :=
  fun p e s m args below meth c C H locs ls hH hS hl => lv_iload_n C.1.1 C.1.2.1 hd rfl (hl.2.2 _ _ hv) (kk p e s m args below meth c C H locs ls hH hS hl)
theorem j_iload {i : Nat} {x : Int32} (hd : decode cc pc = .ok (.iload i, 2)) (hv : lg lv i = some (.int x)) (kk : J Θ cc h k lv (pc + 2) (.int x :: st)) : J Θ cc h k lv pc (st) :=
  fun p e s m args below meth c C H locs ls hH hS hl => lv_iload C.1.1 C.1.2.1 hd (hl.2.2 _ _ hv) (kk p e s m args below meth c C H locs ls hH hS hl)
theorem j_lload_n {i : Fin 4} {x : Int64} (hd : decode cc pc = .ok (.lload_n i, 1)) (hv : lg lv (i : Nat) = some (.long x)) (kk : J Θ cc h k lv (pc + 1) (.long x :: st)) : J Θ cc h k lv pc (st) :=
  fun p e s m args below meth c C H locs ls hH hS hl => lv_lload_n C.1.1 C.1.2.1 hd rfl (hl.2.2 _ _ hv) (kk p e s m args below meth c C H locs ls hH hS hl)
theorem j_lload {i : Nat} {x : Int64} (hd : decode cc pc = .ok (.lload i, 2)) (hv : lg lv i = some (.long x)) (kk : J Θ cc h k lv (pc + 2) (.long x :: st)) : J Θ cc h k lv pc (st) :=
  fun p e s m args below meth c C H locs ls hH hS hl => lv_lload C.1.1 C.1.2.1 hd (hl.2.2 _ _ hv) (kk p e s m args below meth c C H locs ls hH hS hl)
theorem j_aload_n {i : Fin 4} {x : Nat} (hd : decode cc pc = .ok (.aload_n i, 1)) (hv : lg lv (i : Nat) = some (.ref x)) (kk : J Θ cc h k lv (pc + 1) (.ref x :: st)) : J Θ cc h k lv pc (st) :=
  fun p e s m args below meth c C H locs ls hH hS hl => lv_aload_n C.1.1 C.1.2.1 hd rfl (hl.2.2 _ _ hv) (kk p e s m args below meth c C H locs ls hH hS hl)
theorem j_aload {i : Nat} {x : Nat} (hd : decode cc pc = .ok (.aload i, 2)) (hv : lg lv i = some (.ref x)) (kk : J Θ cc h k lv (pc + 2) (.ref x :: st)) : J Θ cc h k lv pc (st) :=
  fun p e s m args below meth c C H locs ls hH hS hl => lv_aload C.1.1 C.1.2.1 hd (hl.2.2 _ _ hv) (kk p e s m args below meth c C H locs ls hH hS hl)
theorem j_aload_nN {i : Fin 4} (hd : decode cc pc = .ok (.aload_n i, 1)) (hv : lg lv (i : Nat) = some .null) (kk : J Θ cc h k lv (pc + 1) (.null :: st)) : J Θ cc h k lv pc (st) :=
  fun p e s m args below meth c C H locs ls hH hS hl => lv_aload_nN C.1.1 C.1.2.1 hd rfl (hl.2.2 _ _ hv) (kk p e s m args below meth c C H locs ls hH hS hl)
theorem j_aloadN {i : Nat} (hd : decode cc pc = .ok (.aload i, 2)) (hv : lg lv i = some .null) (kk : J Θ cc h k lv (pc + 2) (.null :: st)) : J Θ cc h k lv pc (st) :=
  fun p e s m args below meth c C H locs ls hH hS hl => lv_aloadN C.1.1 C.1.2.1 hd (hl.2.2 _ _ hv) (kk p e s m args below meth c C H locs ls hH hS hl)
theorem j_istore_n {i : Fin 4} {x : Int32} (hd : decode cc pc = .ok (.istore_n i, 1)) (hn : (i : Nat) < Θ.2.2.1.2.2.1) (hok : lvok lv (i : Nat) = true) (kk : J Θ cc h k (lst lv (i : Nat) (some (.int x))) (pc + 1) st) : J Θ cc h k lv pc (.int x :: st) :=
  fun p e s m args below meth c C H locs ls hH hS hl => lv_istore_n C.1.1 C.1.2.1 hd rfl (hl.has _) hn rfl (fun ls2 h2 => kk p e s m args below meth c C H locs ls2 hH hS (lvh.of1 h2 hok))
theorem j_istore {i : Nat} {x : Int32} (hd : decode cc pc = .ok (.istore i, 2)) (hn : i < Θ.2.2.1.2.2.1) (hok : lvok lv i = true) (kk : J Θ cc h k (lst lv i (some (.int x))) (pc + 2) st) : J Θ cc h k lv pc (.int x :: st) :=
  fun p e s m args below meth c C H locs ls hH hS hl => lv_istore C.1.1 C.1.2.1 hd (hl.has _) hn rfl (fun ls2 h2 => kk p e s m args below meth c C H locs ls2 hH hS (lvh.of1 h2 hok))
theorem j_lstore_n {i : Fin 4} {x : Int64} (hd : decode cc pc = .ok (.lstore_n i, 1)) (hn : (i : Nat) + 1 < Θ.2.2.1.2.2.1) (hok : lvok lv (i : Nat) = true) (kk : J Θ cc h k (lst (lst lv (i : Nat) (some (.long x))) ((i : Nat) + 1) none) (pc + 1) st) : J Θ cc h k lv pc (.long x :: st) :=
  fun p e s m args below meth c C H locs ls hH hS hl => lv_lstore_n C.1.1 C.1.2.1 hd rfl (hl.has _) hn rfl (fun ls2 h2 => kk p e s m args below meth c C H locs ls2 hH hS (lvh.of2 h2 hok))
theorem j_lstore {i : Nat} {x : Int64} (hd : decode cc pc = .ok (.lstore i, 2)) (hn : i + 1 < Θ.2.2.1.2.2.1) (hok : lvok lv i = true) (kk : J Θ cc h k (lst (lst lv i (some (.long x))) (i + 1) none) (pc + 2) st) : J Θ cc h k lv pc (.long x :: st) :=
  fun p e s m args below meth c C H locs ls hH hS hl => lv_lstore C.1.1 C.1.2.1 hd (hl.has _) hn rfl (fun ls2 h2 => kk p e s m args below meth c C H locs ls2 hH hS (lvh.of2 h2 hok))
theorem j_astore_n {i : Fin 4} {x : Nat} (hd : decode cc pc = .ok (.astore_n i, 1)) (hn : (i : Nat) < Θ.2.2.1.2.2.1) (hok : lvok lv (i : Nat) = true) (kk : J Θ cc h k (lst lv (i : Nat) (some (.ref x))) (pc + 1) st) : J Θ cc h k lv pc (.ref x :: st) :=
  fun p e s m args below meth c C H locs ls hH hS hl => lv_astore_n C.1.1 C.1.2.1 hd rfl (hl.has _) hn rfl (fun ls2 h2 => kk p e s m args below meth c C H locs ls2 hH hS (lvh.of1 h2 hok))
theorem j_astore {i : Nat} {x : Nat} (hd : decode cc pc = .ok (.astore i, 2)) (hn : i < Θ.2.2.1.2.2.1) (hok : lvok lv i = true) (kk : J Θ cc h k (lst lv i (some (.ref x))) (pc + 2) st) : J Θ cc h k lv pc (.ref x :: st) :=
  fun p e s m args below meth c C H locs ls hH hS hl => lv_astore C.1.1 C.1.2.1 hd (hl.has _) hn rfl (fun ls2 h2 => kk p e s m args below meth c C H locs ls2 hH hS (lvh.of1 h2 hok))
theorem j_astore_nN {i : Fin 4} (hd : decode cc pc = .ok (.astore_n i, 1)) (hn : (i : Nat) < Θ.2.2.1.2.2.1) (hok : lvok lv (i : Nat) = true) (kk : J Θ cc h k (lst lv (i : Nat) (some (.null))) (pc + 1) st) : J Θ cc h k lv pc (.null :: st) :=
  fun p e s m args below meth c C H locs ls hH hS hl => lv_astore_nN C.1.1 C.1.2.1 hd rfl (hl.has _) hn rfl (fun ls2 h2 => kk p e s m args below meth c C H locs ls2 hH hS (lvh.of1 h2 hok))
theorem j_astoreN {i : Nat} (hd : decode cc pc = .ok (.astore i, 2)) (hn : i < Θ.2.2.1.2.2.1) (hok : lvok lv i = true) (kk : J Θ cc h k (lst lv i (some (.null))) (pc + 2) st) : J Θ cc h k lv pc (.null :: st) :=
  fun p e s m args below meth c C H locs ls hH hS hl => lv_astoreN C.1.1 C.1.2.1 hd (hl.has _) hn rfl (fun ls2 h2 => kk p e s m args below meth c C H locs ls2 hH hS (lvh.of1 h2 hok))
theorem j_iinc {i : Nat} {n : Int} {x v : Int32} (hd : decode cc pc = .ok (.iinc i n, 3)) (hx : lg lv i = some (.int x)) (hv : x + Int32.ofInt n = v) (hn : i < Θ.2.2.1.2.2.1) (hok : lvok lv i = true) (kk : J Θ cc h k (lst lv i (some (.int v))) (pc + 3) st) : J Θ cc h k lv pc st :=
  fun p e s m args below meth c C H locs ls hH hS hl => lv_iinc (k := 0) (lv := (i, .int x) :: lvp lv (lv.length + i + 2)) C.1.1 C.1.2.1 hd (lvh.has_cons hl hx) rfl hv hn rfl (fun ls2 h2 => kk p e s m args below meth c C H locs ls2 hH hS (lvh.of1c h2 hok))
theorem j_iadd {x y : Int32} (hd : decode cc pc = .ok (.iadd, 1)) (kk : J Θ cc h k lv (pc + 1) (.int (x + y) :: st)) : J Θ cc h k lv pc (.int y :: .int x :: st) :=
  fun p e s m args below meth c C H locs ls hH hS hl => lv_iadd C.1.1 C.1.2.1 hd (kk p e s m args below meth c C H locs ls hH hS hl)
theorem j_isub {x y : Int32} (hd : decode cc pc = .ok (.isub, 1)) (kk : J Θ cc h k lv (pc + 1) (.int (x - y) :: st)) : J Θ cc h k lv pc (.int y :: .int x :: st) :=
  fun p e s m args below meth c C H locs ls hH hS hl => lv_isub C.1.1 C.1.2.1 hd (kk p e s m args below meth c C H locs ls hH hS hl)
theorem j_imul {x y : Int32} (hd : decode cc pc = .ok (.imul, 1)) (kk : J Θ cc h k lv (pc + 1) (.int (x * y) :: st)) : J Θ cc h k lv pc (.int y :: .int x :: st) :=
  fun p e s m args below meth c C H locs ls hH hS hl => lv_imul C.1.1 C.1.2.1 hd (kk p e s m args below meth c C H locs ls hH hS hl)
theorem j_iand {x y : Int32} (hd : decode cc pc = .ok (.iand, 1)) (kk : J Θ cc h k lv (pc + 1) (.int (x &&& y) :: st)) : J Θ cc h k lv pc (.int y :: .int x :: st) :=
  fun p e s m args below meth c C H locs ls hH hS hl => lv_iand C.1.1 C.1.2.1 hd (kk p e s m args below meth c C H locs ls hH hS hl)
theorem j_ior {x y : Int32} (hd : decode cc pc = .ok (.ior, 1)) (kk : J Θ cc h k lv (pc + 1) (.int (x ||| y) :: st)) : J Θ cc h k lv pc (.int y :: .int x :: st) :=
  fun p e s m args below meth c C H locs ls hH hS hl => lv_ior C.1.1 C.1.2.1 hd (kk p e s m args below meth c C H locs ls hH hS hl)
theorem j_ishl {x y : Int32} (hd : decode cc pc = .ok (.ishl, 1)) (kk : J Θ cc h k lv (pc + 1) (.int (x <<< (y &&& 31)) :: st)) : J Θ cc h k lv pc (.int y :: .int x :: st) :=
  fun p e s m args below meth c C H locs ls hH hS hl => lv_ishl C.1.1 C.1.2.1 hd (kk p e s m args below meth c C H locs ls hH hS hl)
theorem j_ishr {x y : Int32} (hd : decode cc pc = .ok (.ishr, 1)) (kk : J Θ cc h k lv (pc + 1) (.int (x >>> (y &&& 31)) :: st)) : J Θ cc h k lv pc (.int y :: .int x :: st) :=
  fun p e s m args below meth c C H locs ls hH hS hl => lv_ishr C.1.1 C.1.2.1 hd (kk p e s m args below meth c C H locs ls hH hS hl)
theorem j_ladd {x y : Int64} (hd : decode cc pc = .ok (.ladd, 1)) (kk : J Θ cc h k lv (pc + 1) (.long (x + y) :: st)) : J Θ cc h k lv pc (.long y :: .long x :: st) :=
  fun p e s m args below meth c C H locs ls hH hS hl => lv_ladd C.1.1 C.1.2.1 hd (kk p e s m args below meth c C H locs ls hH hS hl)
theorem j_lsub {x y : Int64} (hd : decode cc pc = .ok (.lsub, 1)) (kk : J Θ cc h k lv (pc + 1) (.long (x - y) :: st)) : J Θ cc h k lv pc (.long y :: .long x :: st) :=
  fun p e s m args below meth c C H locs ls hH hS hl => lv_lsub C.1.1 C.1.2.1 hd (kk p e s m args below meth c C H locs ls hH hS hl)
theorem j_idiv {x y : Int32} (hd : decode cc pc = .ok (.idiv, 1)) (hne : ¬ y = 0) (kk : J Θ cc h k lv (pc + 1) (.int (x / y) :: st)) : J Θ cc h k lv pc (.int y :: .int x :: st) :=
  fun p e s m args below meth c C H locs ls hH hS hl => lv_idiv C.1.1 C.1.2.1 hd hne (kk p e s m args below meth c C H locs ls hH hS hl)
theorem j_ineg {x : Int32} (hd : decode cc pc = .ok (.ineg, 1)) (kk : J Θ cc h k lv (pc + 1) (.int (-x) :: st)) : J Θ cc h k lv pc (.int x :: st) :=
  fun p e s m args below meth c C H locs ls hH hS hl => lv_ineg C.1.1 C.1.2.1 hd (kk p e s m args below meth c C H locs ls hH hS hl)
theorem j_i2l {x : Int32} (hd : decode cc pc = .ok (.i2l, 1)) (kk : J Θ cc h k lv (pc + 1) (.long x.toInt64 :: st)) : J Θ cc h k lv pc (.int x :: st) :=
  fun p e s m args below meth c C H locs ls hH hS hl => lv_i2l C.1.1 C.1.2.1 hd rfl (kk p e s m args below meth c C H locs ls hH hS hl)
theorem j_l2i {x : Int64} (hd : decode cc pc = .ok (.l2i, 1)) (kk : J Θ cc h k lv (pc + 1) (.int x.toInt32 :: st)) : J Θ cc h k lv pc (.long x :: st) :=
  fun p e s m args below meth c C H locs ls hH hS hl => lv_l2i C.1.1 C.1.2.1 hd rfl (kk p e s m args below meth c C H locs ls hH hS hl)
theorem j_lshl {x : Int64} {y : Int32} (hd : decode cc pc = .ok (.lshl, 1)) (kk : J Θ cc h k lv (pc + 1) (.long (x <<< (y.toInt64 &&& 63)) :: st)) : J Θ cc h k lv pc (.int y :: .long x :: st) :=
  fun p e s m args below meth c C H locs ls hH hS hl => lv_lshl C.1.1 C.1.2.1 hd rfl (kk p e s m args below meth c C H locs ls hH hS hl)
theorem j_lshr {x : Int64} {y : Int32} (hd : decode cc pc = .ok (.lshr, 1)) (kk : J Θ cc h k lv (pc + 1) (.long (x >>> (y.toInt64 &&& 63)) :: st)) : J Θ cc h k lv pc (.int y :: .long x :: st) :=
  fun p e s m args below meth c C H locs ls hH hS hl => lv_lshr C.1.1 C.1.2.1 hd rfl (kk p e s m args below meth c C H locs ls hH hS hl)
theorem j_lcmp {x y : Int64} (hd : decode cc pc = .ok (.lcmp, 1)) (kk : J Θ cc h k lv (pc + 1) (.int (lg_cmp x y) :: st)) : J Θ cc h k lv pc (.long y :: .long x :: st) :=
  fun p e s m args below meth c C H locs ls hH hS hl => W.lcmp C.1.1 C.1.2.1 hd (kk p e s m args below meth c C H locs ls hH hS hl)
theorem j_dup {v : Value} (hd : decode cc pc = .ok (.dup, 1)) (hv : v.category = 1) (kk : J Θ cc h k lv (pc + 1) (v :: v :: st)) : J Θ cc h k lv pc (v :: st) :=
  fun p e s m args below meth c C H locs ls hH hS hl => lv_dup C.1.1 C.1.2.1 hd hv (kk p e s m args below meth c C H locs ls hH hS hl)
theorem j_dup2 {v w : Value} (hd : decode cc pc = .ok (.dup2, 1)) (hv : v.category = 1) (hw : w.category = 1) (kk : J Θ cc h k lv (pc + 1) (v :: w :: v :: w :: st)) : J Θ cc h k lv pc (v :: w :: st) :=
  fun p e s m args below meth c C H locs ls hH hS hl => lv_dup2_11 C.1.1 C.1.2.1 hd hv hw (kk p e s m args below meth c C H locs ls hH hS hl)
theorem j_if_eq {x : Int32} {off : Int} (tgt : Nat) (hd : decode cc pc = .ok (.ifCond .eq off, 3)) (ht : (pc : Int) + off = (tgt : Int)) (kt : x = 0 → J Θ cc h k lv tgt st) (kf : ¬ x = 0 → J Θ cc h k lv (pc + 3) st) : J Θ cc h k lv pc (.int x :: st) :=
  fun p e s m args below meth c C H locs ls hH hS hl => lv_if_eq C.1.1 C.1.2.1 hd ht (fun q => kt q p e s m args below meth c C H locs ls hH hS hl) (fun q => kf q p e s m args below meth c C H locs ls hH hS hl)
theorem j_if_ne {x : Int32} {off : Int} (tgt : Nat) (hd : decode cc pc = .ok (.ifCond .ne off, 3)) (ht : (pc : Int) + off = (tgt : Int)) (kt : ¬ x = 0 → J Θ cc h k lv tgt st) (kf : x = 0 → J Θ cc h k lv (pc + 3) st) : J Θ cc h k lv pc (.int x :: st) :=
  fun p e s m args below meth c C H locs ls hH hS hl => lv_if_ne C.1.1 C.1.2.1 hd ht (fun q => kt q p e s m args below meth c C H locs ls hH hS hl) (fun q => kf q p e s m args below meth c C H locs ls hH hS hl)
theorem j_if_lt {x : Int32} {off : Int} (tgt : Nat) (hd : decode cc pc = .ok (.ifCond .lt off, 3)) (ht : (pc : Int) + off = (tgt : Int)) (kt : x < 0 → J Θ cc h k lv tgt st) (kf : ¬ x < 0 → J Θ cc h k lv (pc + 3) st) : J Θ cc h k lv pc (.int x :: st) :=
  fun p e s m args below meth c C H locs ls hH hS hl => lv_if_lt C.1.1 C.1.2.1 hd ht (fun q => kt q p e s m args below meth c C H locs ls hH hS hl) (fun q => kf q p e s m args below meth c C H locs ls hH hS hl)
theorem j_if_ge {x : Int32} {off : Int} (tgt : Nat) (hd : decode cc pc = .ok (.ifCond .ge off, 3)) (ht : (pc : Int) + off = (tgt : Int)) (kt : 0 ≤ x → J Θ cc h k lv tgt st) (kf : ¬ 0 ≤ x → J Θ cc h k lv (pc + 3) st) : J Θ cc h k lv pc (.int x :: st) :=
  fun p e s m args below meth c C H locs ls hH hS hl => lv_if_ge C.1.1 C.1.2.1 hd ht (fun q => kt q p e s m args below meth c C H locs ls hH hS hl) (fun q => kf q p e s m args below meth c C H locs ls hH hS hl)
theorem j_if_gt {x : Int32} {off : Int} (tgt : Nat) (hd : decode cc pc = .ok (.ifCond .gt off, 3)) (ht : (pc : Int) + off = (tgt : Int)) (kt : 0 < x → J Θ cc h k lv tgt st) (kf : ¬ 0 < x → J Θ cc h k lv (pc + 3) st) : J Θ cc h k lv pc (.int x :: st) :=
  fun p e s m args below meth c C H locs ls hH hS hl => lv_if_gt C.1.1 C.1.2.1 hd ht (fun q => kt q p e s m args below meth c C H locs ls hH hS hl) (fun q => kf q p e s m args below meth c C H locs ls hH hS hl)
theorem j_if_le {x : Int32} {off : Int} (tgt : Nat) (hd : decode cc pc = .ok (.ifCond .le off, 3)) (ht : (pc : Int) + off = (tgt : Int)) (kt : x ≤ 0 → J Θ cc h k lv tgt st) (kf : ¬ x ≤ 0 → J Θ cc h k lv (pc + 3) st) : J Θ cc h k lv pc (.int x :: st) :=
  fun p e s m args below meth c C H locs ls hH hS hl => lv_if_le C.1.1 C.1.2.1 hd ht (fun q => kt q p e s m args below meth c C H locs ls hH hS hl) (fun q => kf q p e s m args below meth c C H locs ls hH hS hl)
theorem j_icmp_eq {x y : Int32} {off : Int} (tgt : Nat) (hd : decode cc pc = .ok (.if_icmp .eq off, 3)) (ht : (pc : Int) + off = (tgt : Int)) (kt : x = y → J Θ cc h k lv tgt st) (kf : ¬ x = y → J Θ cc h k lv (pc + 3) st) : J Θ cc h k lv pc (.int y :: .int x :: st) :=
  fun p e s m args below meth c C H locs ls hH hS hl => lv_icmp_eq C.1.1 C.1.2.1 hd ht (fun q => kt q p e s m args below meth c C H locs ls hH hS hl) (fun q => kf q p e s m args below meth c C H locs ls hH hS hl)
theorem j_icmp_ne {x y : Int32} {off : Int} (tgt : Nat) (hd : decode cc pc = .ok (.if_icmp .ne off, 3)) (ht : (pc : Int) + off = (tgt : Int)) (kt : ¬ x = y → J Θ cc h k lv tgt st) (kf : x = y → J Θ cc h k lv (pc + 3) st) : J Θ cc h k lv pc (.int y :: .int x :: st) :=
  fun p e s m args below meth c C H locs ls hH hS hl => lv_icmp_ne C.1.1 C.1.2.1 hd ht (fun q => kt q p e s m args below meth c C H locs ls hH hS hl) (fun q => kf q p e s m args below meth c C H locs ls hH hS hl)
theorem j_icmp_lt {x y : Int32} {off : Int} (tgt : Nat) (hd : decode cc pc = .ok (.if_icmp .lt off, 3)) (ht : (pc : Int) + off = (tgt : Int)) (kt : x < y → J Θ cc h k lv tgt st) (kf : ¬ x < y → J Θ cc h k lv (pc + 3) st) : J Θ cc h k lv pc (.int y :: .int x :: st) :=
  fun p e s m args below meth c C H locs ls hH hS hl => lv_icmp_lt C.1.1 C.1.2.1 hd ht (fun q => kt q p e s m args below meth c C H locs ls hH hS hl) (fun q => kf q p e s m args below meth c C H locs ls hH hS hl)
theorem j_icmp_ge {x y : Int32} {off : Int} (tgt : Nat) (hd : decode cc pc = .ok (.if_icmp .ge off, 3)) (ht : (pc : Int) + off = (tgt : Int)) (kt : y ≤ x → J Θ cc h k lv tgt st) (kf : ¬ y ≤ x → J Θ cc h k lv (pc + 3) st) : J Θ cc h k lv pc (.int y :: .int x :: st) :=
  fun p e s m args below meth c C H locs ls hH hS hl => lv_icmp_ge C.1.1 C.1.2.1 hd ht (fun q => kt q p e s m args below meth c C H locs ls hH hS hl) (fun q => kf q p e s m args below meth c C H locs ls hH hS hl)
theorem j_icmp_gt {x y : Int32} {off : Int} (tgt : Nat) (hd : decode cc pc = .ok (.if_icmp .gt off, 3)) (ht : (pc : Int) + off = (tgt : Int)) (kt : y < x → J Θ cc h k lv tgt st) (kf : ¬ y < x → J Θ cc h k lv (pc + 3) st) : J Θ cc h k lv pc (.int y :: .int x :: st) :=
  fun p e s m args below meth c C H locs ls hH hS hl => lv_icmp_gt C.1.1 C.1.2.1 hd ht (fun q => kt q p e s m args below meth c C H locs ls hH hS hl) (fun q => kf q p e s m args below meth c C H locs ls hH hS hl)
theorem j_icmp_le {x y : Int32} {off : Int} (tgt : Nat) (hd : decode cc pc = .ok (.if_icmp .le off, 3)) (ht : (pc : Int) + off = (tgt : Int)) (kt : x ≤ y → J Θ cc h k lv tgt st) (kf : ¬ x ≤ y → J Θ cc h k lv (pc + 3) st) : J Θ cc h k lv pc (.int y :: .int x :: st) :=
  fun p e s m args below meth c C H locs ls hH hS hl => lv_icmp_le C.1.1 C.1.2.1 hd ht (fun q => kt q p e s m args below meth c C H locs ls hH hS hl) (fun q => kf q p e s m args below meth c C H locs ls hH hS hl)
theorem j_goto {off : Int} (tgt : Nat) (hd : decode cc pc = .ok (.goto off, 3)) (ht : (pc : Int) + off = (tgt : Int)) (kk : J Θ cc h k lv tgt st) : J Θ cc h k lv pc st :=
  fun p e s m args below meth c C H locs ls hH hS hl => lv_goto C.1.1 C.1.2.1 hd ht (kk p e s m args below meth c C H locs ls hH hS hl)
theorem j_ifnull {x : Nat} {off : Int} (hd : decode cc pc = .ok (.ifnull off, 3)) (kk : J Θ cc h k lv (pc + 3) st) : J Θ cc h k lv pc (.ref x :: st) :=
  fun p e s m args below meth c C H locs ls hH hS hl => lv_ifnull C.1.1 C.1.2.1 hd (kk p e s m args below meth c C H locs ls hH hS hl)
theorem j_ifnullN {off : Int} (tgt : Nat) (hd : decode cc pc = .ok (.ifnull off, 3)) (ht : (pc : Int) + off = (tgt : Int)) (kk : J Θ cc h k lv tgt st) : J Θ cc h k lv pc (.null :: st) :=
  fun p e s m args below meth c C H locs ls hH hS hl => lv_ifnullN C.1.1 C.1.2.1 hd ht (kk p e s m args below meth c C H locs ls hH hS hl)
theorem j_ifnonnull {x : Nat} {off : Int} (tgt : Nat) (hd : decode cc pc = .ok (.ifnonnull off, 3)) (ht : (pc : Int) + off = (tgt : Int)) (kk : J Θ cc h k lv tgt st) : J Θ cc h k lv pc (.ref x :: st) :=
  fun p e s m args below meth c C H locs ls hH hS hl => lv_ifnonnull C.1.1 C.1.2.1 hd ht (kk p e s m args below meth c C H locs ls hH hS hl)
theorem j_ifnonnullN {off : Int} (hd : decode cc pc = .ok (.ifnonnull off, 3)) (kk : J Θ cc h k lv (pc + 3) st) : J Θ cc h k lv pc (.null :: st) :=
  fun p e s m args below meth c C H locs ls hH hS hl => lv_ifnonnullN C.1.1 C.1.2.1 hd (kk p e s m args below meth c C H locs ls hH hS hl)
theorem j_tableOut {dflt lo hi : Int} {offs : Array Int} {len : Nat} {x : Int32} (tgt : Nat) (hd : decode cc pc = .ok (.tableswitch dflt lo hi offs, len)) (hx : x.toInt < lo ∨ hi < x.toInt) (ht : (pc : Int) + dflt = (tgt : Int)) (kk : J Θ cc h k lv tgt st) : J Θ cc h k lv pc (.int x :: st) :=
  fun p e s m args below meth c C H locs ls hH hS hl => lv_tableOut C.1.1 C.1.2.1 hd hx ht (kk p e s m args below meth c C H locs ls hH hS hl)
theorem j_tableIn {dflt lo hi : Int} {offs : Array Int} {len : Nat} {x : Int32} {off : Int} (tgt : Nat) (hd : decode cc pc = .ok (.tableswitch dflt lo hi offs, len)) (h1 : ¬ x.toInt < lo) (h2 : ¬ hi < x.toInt) (ho : offs[(x.toInt - lo).toNat]? = some off) (ht : (pc : Int) + off = (tgt : Int)) (kk : J Θ cc h k lv tgt st) : J Θ cc h k lv pc (.int x :: st) :=
  fun p e s m args below meth c C H locs ls hH hS hl => lv_tableIn C.1.1 C.1.2.1 hd h1 h2 ho ht (kk p e s m args below meth c C H locs ls hH hS hl)
/-! ===== cells ===== -/
theorem hp.one {G : GG} {h : AH} {H : Heap} (hh : hp G h H) {a : Nat} {e : AE} (ha : h a = some e) : va_P G.1 vwCl [(a, ge G e)] H := by
  intro j q hj
  match j, hj with
  | 0, hj =>
    cases hj
    exact (hh a e ha).2
  | j + 1, hj => simp at hj
theorem j_get {C : String} {T : u_T} {N ci index fk a : Nat} {fs : List Value} {v : Value} (he : h a = some (.inr (ci, fs))) (hc : vwCl[ci]? = some (C, T, N)) (hin : ∀ w ∈ u_ws C T N, w ∈ wsG) (hk : fk < N) (hlink : Cond.fieldLink Θ.2.2.1.1.cls index (T fk).1 (T fk).2.1 (T fk).2.2.1 ∈ wsG) (hv : fs[fk]? = some v) (hd : decode cc pc = .ok (.getfield index, 3)) (kk : J Θ cc h k lv (pc + 3) (v :: st)) : J Θ cc h k lv pc (.ref a :: st) := by
  intro p e s m args below meth c C0 H locs ls hH hS hl
  exact va_get (D := Θ.2.1.1) (ws := [(a, .inr (ci, fs))]) C0.1.1 C0.1.2.1 C0.1.2.2.2.2 hin C0.1.2.2.2.1 C0.2.2.2.2.1.1 (hH.one he) 0 rfl hc fk hk (C0.1.2.2.2.2 _ hlink) (fun _ h9 => h9) hv hd (kk p e s m args below meth c C0 H locs ls hH hS hl)
theorem j_put {C : String} {T : u_T} {N ci index fk a : Nat} {fs : List Value} {v : Value} {ty : FieldType} (he : h a = some (.inr (ci, fs))) (hc : vwCl[ci]? = some (C, T, N)) (hin : ∀ w ∈ u_ws C T N, w ∈ wsG) (ty0 : Nat → FieldType) (hty : ∀ k, k < N → parseFieldDescriptor (T k).2.2.1 = some (ty0 k)) (hnm : ∀ a, a < N → ∀ b, b < N → a ≠ b → (T a).2.1 ≠ (T b).2.1) (hk : fk < N) (hlink : Cond.fieldLink Θ.2.2.1.1.cls index (T fk).1 (T fk).2.1 (T fk).2.2.1 ∈ wsG) (hfin : (T fk).2.2.2 = false) (hpd : parseFieldDescriptor (T fk).2.2.1 = some ty) (hn : narrow ty v = v) (hfit : fits ty v = true) (hlen : fk < fs.length) (hd : decode cc pc = .ok (.putfield index, 3)) (kk : J Θ cc (upA h a (.inr (ci, fs.set fk v))) k lv (pc + 3) st) : J Θ cc h k lv pc (v :: .ref a :: st) := by
  intro p e s m args below meth c C0 H locs ls hH hS hl
  have hts := C0.1.2.2.2.2
  have hK := C0.2.2.2.2.1.1
  have hap := va_apart (own := Θ.2.2.1.1.cls) hts hin ty0 hty hnm hK hc
  obtain ⟨hNa, r, h1, cell, q1, q2, q3, q4⟩ := hH a _ he
  have hr : r = (C, T, N) := Option.some.inj (h1.symm.trans hc)
  subst hr
  obtain ⟨hSl, hfc, kC, hkC, hkind⟩ := hK.1 ci _ hc
  obtain ⟨cf, kf, fi, f, hi, hsl⟩ := hSl fk hk
  have hlay := hts _ (hin _ (u_in_lay hk))
  unfold u_lay at hlay
  rw [if_neg (by rw [hfin]; decide)] at hlay
  have hst := (u_facts hfc hkC (u_lays hts hin hk) hi).1
  have h6 := u_store hfc hkC hkind hlay hi hpd hn hfit
  refine W.putK C0.1.1 C0.1.2.1 (f := f) ⟨C0.1.2.2.2.1, hts _ hlink, ⟨_, _, _, hi⟩, hst⟩ (by rw [q2]; exact h6) q1 q3 (by rw [hsl]; exact k2_hasslot (q4 fk hk)) rfl rfl hd fun H' e1 e2 e3 => ?_
  rw [hsl] at e1 ⊢
  exact kk p e s m args below meth c C0 H' _ ls (hH.set hNa ⟨_, hc, t_OB.to (V := updV (vp_V fs) fk v) ⟨_, e1, q2, q3, t_set q4 hap hk v⟩ (fun j _ => vp_updV_set hlen v j)⟩ e3) (hS.put e2 e3 hNa) hl
theorem j_putF {C : String} {T : u_T} {N ci index fk a : Nat} {fs : List Value} {v : Value} {ty : FieldType} (he : h a = some (.inr (ci, fs))) (hc : vwCl[ci]? = some (C, T, N)) (hin : ∀ w ∈ u_ws C T N, w ∈ wsG) (ty0 : Nat → FieldType) (hty : ∀ k, k < N → parseFieldDescriptor (T k).2.2.1 = some (ty0 k)) (hnm : ∀ a, a < N → ∀ b, b < N → a ≠ b → (T a).2.1 ≠ (T b).2.1) (hk : fk < N) (hlink : Cond.fieldLink Θ.2.2.1.1.cls index (T fk).1 (T fk).2.1 (T fk).2.2.1 ∈ wsG) (hfin : (T fk).2.2.2 = true) (hini : Θ.2.2.1.1.name = "<init>") (hdecl : (T fk).1 = Θ.2.2.1.1.cls) (hpd : parseFieldDescriptor (T fk).2.2.1 = some ty) (hn : narrow ty v = v) (hfit : fits ty v = true) (hlen : fk < fs.length) (hd : decode cc pc = .ok (.putfield index, 3)) (kk : J Θ cc (upA h a (.inr (ci, fs.set fk v))) k lv (pc + 3) st) : J Θ cc h k lv pc (v :: .ref a :: st) := by
  intro p e s m args below meth c C0 H locs ls hH hS hl
  have hts := C0.1.2.2.2.2
  have hown := C0.1.2.2.2.1
  have hK := C0.2.2.2.2.1.1
  have hap := va_apart (own := Θ.2.2.1.1.cls) hts hin ty0 hty hnm hK hc
  obtain ⟨hNa, r, h1, cell, q1, q2, q3, q4⟩ := hH a _ he
  have hr : r = (C, T, N) := Option.some.inj (h1.symm.trans hc)
  subst hr
  obtain ⟨hSl, hfc, kC, hkC, hkind⟩ := hK.1 ci _ hc
  obtain ⟨cf, kf, fi, f, hi, hsl⟩ := hSl fk hk
  have hlay := hts _ (hin _ (u_in_lay hk))
  unfold u_lay at hlay
  rw [if_pos hfin] at hlay
  have hst := (u_facts hfc hkC (u_lays hts hin hk) hi).1
  have hcf : m.cls = cf := by
    obtain ⟨_, _, c', _, _, _, -, -, hf', -, -, -, hown2, -⟩ := Cond.laysFinal_spec hlay
    have e1 : c' = cf := by have := hi.symm.trans hf'; simp at this; exact this.1.symm
    rw [hdecl] at hown2
    rw [← e1]; exact Option.some.inj (hown.symm.trans hown2)
  have h6 := u_fits hfc hkC hkind (Or.inr hlay) hi hpd hn hfit
  refine W.putFinK C0.1.1 C0.1.2.1 hown (hts _ hlink) hi hst hcf (C0.2.2.2.1.trans hini) (by rw [q2]; exact h6) q1 q3 (by rw [hsl]; exact k2_hasslot (q4 fk hk)) rfl rfl hd fun H' e1 e2 e3 => ?_
  rw [hsl] at e1 ⊢
  exact kk p e s m args below meth c C0 H' _ ls (hH.set hNa ⟨_, hc, t_OB.to (V := updV (vp_V fs) fk v) ⟨_, e1, q2, q3, t_set q4 hap hk v⟩ (fun j _ => vp_updV_set hlen v j)⟩ e3) (hS.put e2 e3 hNa) hl
/-! arrays: a place is a number j < n, the index on the stack is nI j -/
theorem nI_pin {i : Int32} {j n : Nat} (hi : i = nI j) (hj : j < n) (hn : n < 2147483648) : ¬ (i < 0 ∨ n ≤ i.toNatClampNeg) ∧ i.toNatClampNeg = j := by
  subst hi
  exact ⟨nI_in hj hn, nI_clamp (by omega)⟩
theorem j_iald {a n : Nat} {f : Nat → Int32} {i : Int32} (he : h a = some (.inl (0, n, .inl f))) (j : Nat) (hi : i = nI j) (hj : j < n) (hn : n < 2147483648) (hd : decode cc pc = .ok (.iaload, 1)) (kk : J Θ cc h k lv (pc + 1) (.int (f j) :: st)) : J Θ cc h k lv pc (.int i :: .ref a :: st) := by
  intro p e s m args below meth c C0 H locs ls hH hS hl
  obtain ⟨hin, hcl⟩ := nI_pin hi hj hn
  refine va_iald (D := Θ.2.1.1) (ws := [(a, .inl (Θ.2.1.2.1 0, n, .inl f))]) C0.1.1 C0.1.2.1 C0.2.2.2.2.1.1 (hH.one he) 0 0 rfl rfl hin hd ?_
  rw [hcl]
  exact kk p e s m args below meth c C0 H locs ls hH hS hl
theorem j_zald {a n : Nat} {f : Nat → Int32} {i : Int32} (he : h a = some (.inl (2, n, .inl f))) (j : Nat) (hi : i = nI j) (hj : j < n) (hn : n < 2147483648) (hd : decode cc pc = .ok (.baload, 1)) (kk : J Θ cc h k lv (pc + 1) (.int (f j) :: st)) : J Θ cc h k lv pc (.int i :: .ref a :: st) := by
  intro p e s m args below meth c C0 H locs ls hH hS hl
  obtain ⟨hin, hcl⟩ := nI_pin hi hj hn
  refine va_zald (D := Θ.2.1.1) (ws := [(a, .inl (Θ.2.1.2.1 2, n, .inl f))]) C0.1.1 C0.1.2.1 C0.2.2.2.2.1.1 (hH.one he) 0 2 rfl rfl hin hd ?_
  rw [hcl]
  exact kk p e s m args below meth c C0 H locs ls hH hS hl
theorem j_lald {a n : Nat} {f : Nat → Int64} {i : Int32} (he : h a = some (.inl (1, n, .inr (.inl f)))) (j : Nat) (hi : i = nI j) (hj : j < n) (hn : n < 2147483648) (hd : decode cc pc = .ok (.laload, 1)) (kk : J Θ cc h k lv (pc + 1) (.long (f j) :: st)) : J Θ cc h k lv pc (.int i :: .ref a :: st) := by
  intro p e s m args below meth c C0 H locs ls hH hS hl
  obtain ⟨hin, hcl⟩ := nI_pin hi hj hn
  refine va_lald (D := Θ.2.1.1) (ws := [(a, .inl (Θ.2.1.2.1 1, n, .inr (.inl f)))]) C0.1.1 C0.1.2.1 C0.2.2.2.2.1.1 (hH.one he) 0 1 rfl rfl hin hd ?_
  rw [hcl]
  exact kk p e s m args below meth c C0 H locs ls hH hS hl
theorem j_aldP {a n : Nat} {f : Nat → Option Nat} {i : Int32} (he : h a = some (.inl (3, n, .inr (.inr (.inr (.inr f)))))) (j : Nat) (hi : i = nI j) (hj : j < n) (hn : n < 2147483648) (hd : decode cc pc = .ok (.aaload, 1)) (kk : J Θ cc h k lv (pc + 1) (va_rf (f j) :: st)) : J Θ cc h k lv pc (.int i :: .ref a :: st) := by
  intro p e s m args below meth c C0 H locs ls hH hS hl
  obtain ⟨hin, hcl⟩ := nI_pin hi hj hn
  refine va_aldq (D := Θ.2.1.1) (C := RX2) (ws := [(a, .inl (Θ.2.1.2.1 3, n, .inr (.inr (.inr (.inr f)))))]) C0.1.1 C0.1.2.1 C0.2.2.2.2.1.1 (hH.one he) 0 3 rfl rfl hin hd ?_
  rw [hcl]
  exact kk p e s m args below meth c C0 H locs ls hH hS hl
theorem j_aldB {a n : Nat} {f : Nat → Option Nat} {i : Int32} (he : h a = some (.inl (4, n, .inr (.inr (.inr (.inr f)))))) (j : Nat) (hi : i = nI j) (hj : j < n) (hn : n < 2147483648) (hd : decode cc pc = .ok (.aaload, 1)) (kk : J Θ cc h k lv (pc + 1) (va_rf (f j) :: st)) : J Θ cc h k lv pc (.int i :: .ref a :: st) := by
  intro p e s m args below meth c C0 H locs ls hH hS hl
  obtain ⟨hin, hcl⟩ := nI_pin hi hj hn
  refine va_aldq (D := Θ.2.1.1) (C := RX0) (ws := [(a, .inl (Θ.2.1.2.1 4, n, .inr (.inr (.inr (.inr f)))))]) C0.1.1 C0.1.2.1 C0.2.2.2.2.1.1 (hH.one he) 0 4 rfl rfl hin hd ?_
  rw [hcl]
  exact kk p e s m args below meth c C0 H locs ls hH hS hl
theorem j_iast {a n : Nat} {f : Nat → Int32} {i x : Int32} (he : h a = some (.inl (0, n, .inl f))) (j : Nat) (hi : i = nI j) (hj : j < n) (hn : n < 2147483648) (hd : decode cc pc = .ok (.iastore, 1)) (kk : J Θ cc (upA h a (.inl (0, n, .inl (upd f j x)))) k lv (pc + 1) st) : J Θ cc h k lv pc (.int x :: .int i :: .ref a :: st) := by
  intro p e s m args below meth c C0 H locs ls hH hS hl
  obtain ⟨hin, hcl⟩ := nI_pin hi hj hn
  obtain ⟨hNa, hcell⟩ := hH a _ he
  refine W.iast C0.1.1 C0.1.2.1 hcell ((C0.2.2.2.2.1.1.2 0 _ rfl).1 n (fun j => .int (f j))) (fun q => by cases q) (by show ¬ (i < 0 ∨ (arrV _ _ _).slots.size ≤ _); rw [arrV_size]; exact hin) rfl rfl hd fun H1 e1 z oq => ?_
  refine kk p e s m args below meth c C0 H1 _ ls (hH.set hNa ?_ oq) (hS.put z oq hNa) hl
  show H1[a]? = some (vp_cell _ _)
  rw [e1]
  show some ((vp_cell _ _).setSlot _ _) = _
  rw [vp_cell_i, vp_cell_i, arrV_store, hcl]
  congr 2
  funext q
  by_cases hq : q = j
  · subst hq
    simp [updV, upd]
  · simp [updV, upd, hq]
theorem j_zast {a n : Nat} {f : Nat → Int32} {i x : Int32} (he : h a = some (.inl (2, n, .inl f))) (j : Nat) (hi : i = nI j) (hj : j < n) (hn : n < 2147483648) (hx : narrow .boolean (.int x) = .int x) (hd : decode cc pc = .ok (.bastore, 1)) (kk : J Θ cc (upA h a (.inl (2, n, .inl (upd f j x)))) k lv (pc + 1) st) : J Θ cc h k lv pc (.int x :: .int i :: .ref a :: st) := by
  intro p e s m args below meth c C0 H locs ls hH hS hl
  obtain ⟨hin, hcl⟩ := nI_pin hi hj hn
  obtain ⟨hNa, hcell⟩ := hH a _ he
  refine W.zast C0.1.1 C0.1.2.1 hcell ((C0.2.2.2.2.1.1.2 2 _ rfl).1 n (fun j => .int (f j))) (fun q => by cases q) (by show ¬ (i < 0 ∨ (arrV _ _ _).slots.size ≤ _); rw [arrV_size]; exact hin) rfl rfl hd fun H1 e1 z oq => ?_
  refine kk p e s m args below meth c C0 H1 _ ls (hH.set hNa ?_ oq) (hS.put z oq hNa) hl
  show H1[a]? = some (vp_cell _ _)
  rw [e1, hx]
  show some ((vp_cell _ _).setSlot _ _) = _
  rw [vp_cell_i, vp_cell_i, arrV_store, hcl]
  congr 2
  funext q
  by_cases hq : q = j
  · subst hq
    simp [updV, upd]
  · simp [updV, upd, hq]
theorem j_last {a n : Nat} {f : Nat → Int64} {i : Int32} {x : Int64} (he : h a = some (.inl (1, n, .inr (.inl f)))) (j : Nat) (hi : i = nI j) (hj : j < n) (hn : n < 2147483648) (hd : decode cc pc = .ok (.lastore, 1)) (kk : J Θ cc (upA h a (.inl (1, n, .inr (.inl (vp_updL f j x))))) k lv (pc + 1) st) : J Θ cc h k lv pc (.long x :: .int i :: .ref a :: st) := by
  intro p e s m args below meth c C0 H locs ls hH hS hl
  obtain ⟨hin, hcl⟩ := nI_pin hi hj hn
  obtain ⟨hNa, hcell⟩ := hH a _ he
  refine W.last C0.1.1 C0.1.2.1 hcell ((C0.2.2.2.2.1.1.2 1 _ rfl).1 n (fun j => .long (f j))) (fun q => by cases q) (by show ¬ (i < 0 ∨ (arrV _ _ _).slots.size ≤ _); rw [arrV_size]; exact hin) rfl rfl hd fun H1 e1 z oq => ?_
  refine kk p e s m args below meth c C0 H1 _ ls (hH.set hNa ?_ oq) (hS.put z oq hNa) hl
  show H1[a]? = some (vp_cell _ _)
  rw [e1]
  show some ((vp_cell _ _).setSlot _ _) = _
  rw [vp_cell_l, vp_cell_l, arrV_store, hcl]
  congr 2
  funext q
  by_cases hq : q = j
  · subst hq
    simp [updV, vp_updL]
  · simp [updV, vp_updL, hq]
/-- a store of an object of kind ci into an array (kind t) of its class -/
theorem j_aast {a n v t ci : Nat} {f : Nat → Option Nat} {vs : List Value} {i : Int32} {r : vw_C} (he : h a = some (.inl (t, n, .inr (.inr (.inr (.inr f)))))) (hv : h v = some (.inr (ci, vs))) (hc : vwCl[ci]? = some r) (ht : (tyG Θ.2.1)[t]? = some (Θ.2.1.2.1 t, .object r.1)) (j : Nat) (hi : i = nI j) (hj : j < n) (hn : n < 2147483648) (hd : decode cc pc = .ok (.aastore, 1)) (kk : J Θ cc (upA h a (.inl (t, n, .inr (.inr (.inr (.inr (va_up f j (some v)))))))) k lv (pc + 1) st) : J Θ cc h k lv pc (.ref v :: .int i :: .ref a :: st) := by
  intro p e s m args below meth c C0 H locs ls hH hS hl
  obtain ⟨hin, hcl⟩ := nI_pin hi hj hn
  obtain ⟨hNa, hcell⟩ := hH a _ he
  obtain ⟨-, r', hr', cellV, g1, g2, g3, -⟩ := hH v _ hv
  have hK := C0.2.2.2.2.1.1
  have hcls := (hK.1 ci r hc).2
  obtain ⟨kA, comp, k1, k2, k3, -⟩ := (hK.2 t _ ht).2
  have hcomp : comp = Θ.2.1.1.1 ci := Option.some.inj (k3.symm.trans hcls.1)
  subst hcomp
  obtain ⟨kC, hkC, -⟩ := hcls.2
  have hlt : i.toNatClampNeg < n := Nat.not_le.mp fun q => hin (Or.inr q)
  have h0 : ¬ i < 0 := fun q => hin (Or.inl q)
  refine W.aast C0.1.1 C0.1.2.1 hcell (fun q h => by cases h) (fun h => by cases h) k1 k2 rfl hkC ⟨h0, by show _ < (arrV _ _ _).slots.size; rw [arrV_size]; exact hlt⟩ g1 (fun q h => by rw [g3] at h; cases h) (by rw [g2]; exact hkC) (by rw [g2]; exact va_assign hcls) rfl rfl hd fun H1 e1 z oq => ?_
  refine kk p e s m args below meth c C0 H1 _ ls (hH.set hNa ?_ oq) (hS.put z oq hNa) hl
  show H1[a]? = some (vp_cell _ _)
  rw [e1]
  show some ((vp_cell _ _).setSlot _ _) = _
  rw [vp_cell_q, vp_cell_q, arrV_store, hcl]
  congr 2
  funext q
  by_cases hq : q = j
  · subst hq
    simp [updV, va_up, va_rf]
  · simp [updV, va_up, hq]
theorem j_alen {a t n : Nat} {x : vp_A} {ty : FieldType} (he : h a = some (.inl (t, x))) (ht : (tyG Θ.2.1)[t]? = some (Θ.2.1.2.1 t, ty)) (hn : x.1 = n) (hd : decode cc pc = .ok (.arraylength, 1)) (kk : J Θ cc h k lv (pc + 1) (.int (nI n) :: st)) : J Θ cc h k lv pc (.ref a :: st) := by
  intro p e s m args below meth c C0 H locs ls hH hS hl
  exact va_alen (D := Θ.2.1.1) (ws := [(a, .inl (Θ.2.1.2.1 t, x))]) C0.1.1 C0.1.2.1 C0.2.2.2.2.1.1 (hH.one he) 0 t rfl ht (by rw [hn]; rfl) hd (kk p e s m args below meth c C0 H locs ls hH hS hl)
/-! ===== making ===== -/
theorem j_new {C : String} {T : u_T} {N ci index : Nat} {fs : List Value} (hc : vwCl[ci]? = some (C, T, N)) (hin : ∀ w ∈ u_ws C T N, w ∈ wsG) (ty : Nat → FieldType) (hty : ∀ k, k < N → parseFieldDescriptor (T k).2.2.1 = some (ty k)) (hcl : Cond.classLink Θ.2.2.1.1.cls index C ∈ wsG) (hinst : Cond.instantiable C N ∈ wsG) (hini : Cond.initialized C ∈ wsG) (hfs : ∀ j, j < N → defaultValue (ty j) = vp_V fs j) (h1 : k.1 + 1 ≤ Θ.2.2.2.2.1.cells) (h2 : k.2 + N ≤ Θ.2.2.2.2.1.slots) (hd : decode cc pc = .ok (.new index, 3)) (kk : ∀ a : Nat, (∀ b, a ≤ b → h b = none) → J Θ cc (upA h a (.inr (ci, fs))) (k.1 + 1, k.2 + N) lv (pc + 3) (.ref a :: st)) : J Θ cc h k lv pc st := by
  intro p e s m args below meth c C0 H locs ls hH hS hl
  have hts := C0.1.2.2.2.2
  have hKn := C0.2.2.2.2.1.1.1 ci _ hc
  refine W.newcK C0.1.1 C0.1.2.1 C0.1.2.2.2.1 (hts _ hcl) (hts _ hinst) (hts _ hini) rfl hd h1 h2 hKn.2.1 rfl fun H1 kC hkC e1 z1 o1 => ?_
  exact kk H.size hH.fresh p e s m args below meth c C0 H1 locs ls (hH.new (Nat.le_trans C0.2.2.2.2.2.1 hS.1) ⟨_, hc, (u_born ty hts hin hKn hkC e1 hty).to hfs⟩ o1) ⟨Nat.le_trans hS.1 (by omega), fun x g1 g2 => (o1 x (Nat.lt_of_lt_of_le g1 hS.1)).trans (hS.2.1 x g1 g2), hS.2.2⟩ hl
theorem j_newa {atype : ArrayType} {ty : FieldType} {t : Nat} {n : Int32} {N' : Nat} {a0 : vp_A} (harr : Cond.arrayClass (newarray.typeOf atype) ∈ wsG) (hty : newarray.typeOf atype = ty) (ht : (tyG Θ.2.1)[t]? = some (Θ.2.1.2.1 t, ty)) (hra : ∀ (U : State) (cA : ClassId), va_RA U cA ty = (U.vm.findClass ("[" ++ ty.toString) = some cA)) (ha : ∀ cA : ClassId, vp_cell cA a0 = arrV cA N' (fun _ => defaultValue ty)) (hn : ¬ n < 0) (hN : n.toNatClampNeg = N') (hbytes : N' * componentBytes ty ≤ 536870912) (h1 : k.1 + 1 ≤ Θ.2.2.2.2.1.cells) (h2 : k.2 + N' ≤ Θ.2.2.2.2.1.slots) (hd : decode cc pc = .ok (.newarray atype, 2)) (kk : ∀ a : Nat, (∀ b, a ≤ b → h b = none) → J Θ cc (upA h a (.inl (t, a0))) (k.1 + 1, k.2 + N') lv (pc + 2) (.ref a :: st)) : J Θ cc h k lv pc (.int n :: st) := by
  subst hty
  intro p e s m args below meth c C0 H locs ls hH hS hl
  have hK := C0.2.2.2.2.1.1
  refine va_newaK C0.1.1 C0.1.2.1 (C0.1.2.2.2.2 _ harr) rfl hd rfl hn hN hbytes h1 h2 rfl fun H1 cA e1 z1 o1 hAr hNm => ?_
  have hcA : Θ.2.1.2.1 t = cA := by
    have := (hK.2 t _ ht).2
    rw [hra] at this
    exact Option.some.inj (this.symm.trans hNm)
  exact kk H.size hH.fresh p e s m args below meth c C0 H1 locs ls (hH.new (Nat.le_trans C0.2.2.2.2.2.1 hS.1) (by show H1[H.size]? = some (vp_cell _ _); rw [ha, e1, hcA]) o1) ⟨Nat.le_trans hS.1 (by omega), fun x g1 g2 => (o1 x (Nat.lt_of_lt_of_le g1 hS.1)).trans (hS.2.1 x g1 g2), hS.2.2⟩ hl
theorem j_newi {n : Int32} (N' : Nat) (hn : ¬ n < 0) (hN : n.toNatClampNeg = N') (hb : N' ≤ 1000000) (h1 : k.1 + 1 ≤ Θ.2.2.2.2.1.cells) (h2 : k.2 + N' ≤ Θ.2.2.2.2.1.slots) (hd : decode cc pc = .ok (.newarray .int, 2)) (kk : ∀ a : Nat, (∀ b, a ≤ b → h b = none) → J Θ cc (upA h a (.inl (0, N', .inl (fun _ => 0)))) (k.1 + 1, k.2 + N') lv (pc + 2) (.ref a :: st)) : J Θ cc h k lv pc (.int n :: st) :=
  j_newa (atype := .int) (ty := .int) (t := 0) wa_int rfl rfl (fun _ _ => rfl) (fun _ => rfl) hn hN (by simp [componentBytes]; omega) h1 h2 hd kk
theorem j_newl {n : Int32} (N' : Nat) (hn : ¬ n < 0) (hN : n.toNatClampNeg = N') (hb : N' ≤ 1000000) (h1 : k.1 + 1 ≤ Θ.2.2.2.2.1.cells) (h2 : k.2 + N' ≤ Θ.2.2.2.2.1.slots) (hd : decode cc pc = .ok (.newarray .long, 2)) (kk : ∀ a : Nat, (∀ b, a ≤ b → h b = none) → J Θ cc (upA h a (.inl (1, N', .inr (.inl (fun _ => 0))))) (k.1 + 1, k.2 + N') lv (pc + 2) (.ref a :: st)) : J Θ cc h k lv pc (.int n :: st) :=
  j_newa (atype := .long) (ty := .long) (t := 1) wa_long rfl rfl (fun _ _ => rfl) (fun _ => rfl) hn hN (by simp [componentBytes]; omega) h1 h2 hd kk
theorem j_newz {n : Int32} (N' : Nat) (hn : ¬ n < 0) (hN : n.toNatClampNeg = N') (hb : N' ≤ 1000000) (h1 : k.1 + 1 ≤ Θ.2.2.2.2.1.cells) (h2 : k.2 + N' ≤ Θ.2.2.2.2.1.slots) (hd : decode cc pc = .ok (.newarray .boolean, 2)) (kk : ∀ a : Nat, (∀ b, a ≤ b → h b = none) → J Θ cc (upA h a (.inl (2, N', .inl (fun _ => 0)))) (k.1 + 1, k.2 + N') lv (pc + 2) (.ref a :: st)) : J Θ cc h k lv pc (.int n :: st) :=
  j_newa (atype := .boolean) (ty := .boolean) (t := 2) wa_boolean rfl rfl (fun _ _ => rfl) (fun _ => rfl) hn hN (by simp [componentBytes]; omega) h1 h2 hd kk
theorem j_newq {C : String} {t index : Nat} {n : Int32} (N' : Nat) (ht : (tyG Θ.2.1)[t]? = some (Θ.2.1.2.1 t, .object C)) (hcl : Cond.classLink Θ.2.2.1.1.cls index C ∈ wsG) (hov : ∀ s : State, KG Θ.2.1 s → va_AO C s) (hn : ¬ n < 0) (hN : n.toNatClampNeg = N') (hb : N' ≤ 1000000) (h1 : k.1 + 1 ≤ Θ.2.2.2.2.1.cells) (h2 : k.2 + N' ≤ Θ.2.2.2.2.1.slots) (hd : decode cc pc = .ok (.anewarray index, 3)) (kk : ∀ a : Nat, (∀ b, a ≤ b → h b = none) → J Θ cc (upA h a (.inl (t, N', .inr (.inr (.inr (.inr (fun _ => none))))))) (k.1 + 1, k.2 + N') lv (pc + 3) (.ref a :: st)) : J Θ cc h k lv pc (.int n :: st) := by
  subst hN
  intro p e s m args below meth c C0 H locs ls hH hS hl
  have hK := C0.2.2.2.2.1.1
  refine W.anew C0.1.1 C0.1.2.1 C0.1.2.2.2.1 (C0.1.2.2.2.2 _ hcl) (va_AO.use (hov s C0.2.2.2.2.1)) rfl hd rfl hn (by omega) h1 h2 fun cA kA comp f1 f2 f3 f4 => ?_
  obtain ⟨kA', comp', k1, k2, k3, k4⟩ := (hK.2 t _ ht).2
  have hcA : Θ.2.1.2.1 t = cA := Option.some.inj (k4.symm.trans f1)
  generalize hH1 : H.push ({ cls := cA, slots := Array.replicate n.toNatClampNeg .null, vm := .none } : Cell) = H1
  have z1 : H1.size = H.size + 1 := by rw [← hH1, Array.size_push]
  have e1 : H1[H.size]? = some (arrV cA n.toNatClampNeg (fun _ => .null)) := by rw [← hH1, Array.getElem?_push_size, ← arrV_new]
  have o1 : ∀ q : Nat, q < H.size → H1[q]? = H[q]? := fun q hq => by rw [← hH1, Array.getElem?_push, if_neg (Nat.ne_of_lt hq)]
  exact kk H.size hH.fresh p e s m args below meth c C0 H1 locs ls (hH.new (Nat.le_trans C0.2.2.2.2.2.1 hS.1) (by show H1[H.size]? = some (vp_cell _ _); rw [vp_cell_q, hcA]; exact e1) o1) ⟨Nat.le_trans hS.1 (by omega), fun x g1 g2 => (o1 x (Nat.lt_of_lt_of_le g1 hS.1)).trans (hS.2.1 x g1 g2), hS.2.2⟩ hl
/-! ===== calls ===== -/
def CW (M : MI) (n : Nat) : Prop := Cond.code M.1 M.2.1 M.2.2.1 M.2.2.2 ∈ wsG ∧ Cond.initialized M.1.cls ∈ wsG ∧ M.1.cls ≠ "java/lang/invoke/MethodHandle" ∧ M.1.cls ≠ "java/lang/invoke/VarHandle" ∧ (parseMethodDescriptor M.1.desc).map (fun d => d.parameters.length) = some n ∧ M.2.2.1 ≤ 21
theorem wG_in {M : MI} (hw : Cond.code M.1 M.2.1 M.2.2.1 M.2.2.2 ∈ wsG) : GoodIn wsG (.code M.1 M.2.1 M.2.2.1 M.2.2.2 :: wsG) := by
  intro w hw'
  rcases List.mem_cons.mp hw' with rfl | h
  · exact ⟨hw, wG_good _ hw⟩
  · exact ⟨h, wG_good _ h⟩
theorem va_blind {G : GG} {h : AH} {as : List Value} : FrameBlind (va_Pc as (fun U => hp G h U.heap ∧ KG G U ∧ G.2.2 ≤ U.heap.size)) := fun a U g mk q => ⟨q.1, q.2.1, q.2.2.1.warm (U := U.calling g mk a) (State.WarmedH.refl U), q.2.2.2⟩
theorem j_back {G : GG} {M M' : MI} {kc ks : Nat} {post : Option Value → AH → Prop} {p : Program} {l : Launch} {e : Env} {R : Room} {s : State} {m : MethodId} {args a : Array Value} {below : List Frame} {meth : Method} {c : Code} {H : Heap} {locs : List Loc} {ls : Array Slot} {Q : State → Prop} {kk1 kk2 : Nat} {st rest : List Value}
    (hr : va_Run p l e R s m args below meth c H locs kk1 kk2 kc ks (F0 m pc ls st) rest (QQ G post a) (AN G)) (hS : va_S (AN G) s.heap H locs) (kk : ∀ (v : Option Value) (h' : AH) (H1 : Heap) (locs1 : List Loc), post v h' → hp G h' H1 → va_S (AN G) s.heap H1 locs1 → W p l e R s m args below meth c H1 locs1 (kk1 + kc) (kk2 + ks) Q (F0 m (pc + 3) ls (v.toList ++ rest))) : W p l e R s m args below meth c H locs kk1 kk2 Q (F0 m pc ls st) := by
  intro T hT X
  obtain ⟨v, st₀, t, T', L, h0, X', hL, e1, e2, ⟨⟨v', h', hv, hpo, hh⟩, hz, hk⟩, stp⟩ := hr T hT X
  cases hv
  rw [h0] at hz hk
  obtain ⟨t2, a1, b1⟩ := kk v h' T'.heap (locs ++ L) hpo (by rw [e1]; exact hh)
    ⟨Nat.le_trans hS.1 (by rw [e1]; exact hz), fun q h1 h2 => by rw [e1, hk q (Nat.lt_of_lt_of_le h1 hS.1) h2]; exact hS.2.1 q h1 h2, fun q hq => by
      rcases List.mem_append.mp hq with h | h
      · exact hS.2.2 q h
      · exact hL q h⟩ T' rfl X'
  exact ⟨t2, stp t2 a1, b1⟩
theorem rmD_ok {M : MI} {d kc ks n : Nat} {R : Room} (hw : CW M n) (hd1 : d + 1 ≤ R.frames) (hd2 : 40 * (d + 1) ≤ R.locals) : (rmD d kc ks).frames + 1 ≤ R.frames ∧ 8 + (M.2.2.1 + 11) + (rmD d kc ks).locals ≤ R.locals := by
  refine ⟨hd1, ?_⟩
  have h21 := hw.2.2.2.2.2
  show 8 + (M.2.2.1 + 11) + 40 * d ≤ R.locals
  omega
theorem j_callS {M' : MI} {d kc ks n index : Nat} {as rest : List Value} {post : Option Value → AH → Prop} (hC : Con Θ.1 Θ.2.1 M' d kc ks as h post) (hw : CW M' n) (hl : Cond.methodLink Θ.2.2.1.1.cls index M'.1 ∈ wsG) (hs : Cond.static M'.1 ∈ wsG) (hn : as.length = n) (hst : st = as.reverse ++ rest) (hW : (rest.map fun v => v.category).sum ≤ 8) (hd1 : d + 1 ≤ Θ.2.2.2.2.1.frames) (hd2 : 40 * (d + 1) ≤ Θ.2.2.2.2.1.locals) (hc1 : k.1 + kc ≤ Θ.2.2.2.2.1.cells) (hc2 : k.2 + ks ≤ Θ.2.2.2.2.1.slots) (hd : decode cc pc = .ok (.invokestatic index, 3)) (kk : ∀ (v : Option Value) (h' : AH), post v h' → J Θ cc h' (k.1 + kc, k.2 + ks) lv (pc + 3) (v.toList ++ rest)) : J Θ cc h k lv pc st := by
  intro p e s m args below meth c C0 H locs ls hH hS hl0
  have hts := C0.1.2.2.2.2
  refine j_back (va_runS (As := as) C0.1 hC ⟨callB_of n hts (wG_in hw.1) rfl rfl rfl (hts _ hw.2.1) (hts _ hl) ⟨hw.2.2.1, hw.2.2.2.1, hw.2.2.2.2.1⟩ (rmD_ok hw hd1 hd2), hts _ hs⟩ ⟨va_blind, fun U hU hWU => ⟨rfl, by rw [hU]; exact hH, C0.2.2.2.2.1.warm hWU, by rw [hU]; exact Nat.le_trans C0.2.2.2.2.2.1 hS.1⟩⟩ rfl hn hl0.1 hst (lv_room hW) hd ⟨hc1, hc2⟩) hS (M := M') (M' := M') ?_
  exact fun v h' H1 locs1 hpo hH1 hS1 => kk v h' hpo p e s m args below meth c C0 H1 locs1 ls hH1 hS1 hl0
theorem j_callSN {M' : MI} {d kc ks n index : Nat} {host : String} {as rest : List Value} {post : Option Value → AH → Prop} (hC : Con Θ.1 Θ.2.1 M' d kc ks as h post) (hw : CW M' n) (hl : ∀ s : State, KG Θ.2.1 s → va_Nw (.methodLinkNest Θ.2.2.1.1.cls index M'.1 host) s) (hs : Cond.static M'.1 ∈ wsG) (hn : as.length = n) (hst : st = as.reverse ++ rest) (hW : (rest.map fun v => v.category).sum ≤ 8) (hd1 : d + 1 ≤ Θ.2.2.2.2.1.frames) (hd2 : 40 * (d + 1) ≤ Θ.2.2.2.2.1.locals) (hc1 : k.1 + kc ≤ Θ.2.2.2.2.1.cells) (hc2 : k.2 + ks ≤ Θ.2.2.2.2.1.slots) (hd : decode cc pc = .ok (.invokestatic index, 3)) (kk : ∀ (v : Option Value) (h' : AH), post v h' → J Θ cc h' (k.1 + kc, k.2 + ks) lv (pc + 3) (v.toList ++ rest)) : J Θ cc h k lv pc st := by
  intro p e s m args below meth c C0 H locs ls hH hS hl0
  have hts := C0.1.2.2.2.2
  refine j_back (va_runSN (As := as) C0.1 hC ⟨va_cnB n hts (wG_in hw.1) rfl rfl rfl (hl s C0.2.2.2.2.1) (hts _ hw.2.1) ⟨hw.2.2.1, hw.2.2.2.1, hw.2.2.2.2.1⟩ (rmD_ok hw hd1 hd2), hts _ hs, trivial⟩ ⟨va_blind, fun U hU hWU => ⟨rfl, by rw [hU]; exact hH, C0.2.2.2.2.1.warm hWU, by rw [hU]; exact Nat.le_trans C0.2.2.2.2.2.1 hS.1⟩⟩ rfl hn hl0.1 hst (lv_room hW) hd ⟨hc1, hc2⟩) hS (M := M') (M' := M') ?_
  exact fun v h' H1 locs1 hpo hH1 hS1 => kk v h' hpo p e s m args below meth c C0 H1 locs1 ls hH1 hS1 hl0
theorem j_callV {M' : MI} {d kc ks n index b ci : Nat} {fs as rest : List Value} {T : u_T} {N : Nat} {post : Option Value → AH → Prop} (hC : Con Θ.1 Θ.2.1 M' d kc ks (.ref b :: as) h post) (hb : h b = some (.inr (ci, fs))) (hc : vwCl[ci]? = some (M'.1.cls, T, N)) (hw : CW M' n) (hl : Cond.methodLink Θ.2.2.1.1.cls index M'.1 ∈ wsG) (hi : Cond.instanceMethod M'.1 ∈ wsG) (hx : Cond.selects M'.1.cls M'.1 M'.1 ∈ wsG) (hn : as.length = n) (hst : st = as.reverse ++ .ref b :: rest) (hW : (rest.map fun v => v.category).sum ≤ 8) (hd1 : d + 1 ≤ Θ.2.2.2.2.1.frames) (hd2 : 40 * (d + 1) ≤ Θ.2.2.2.2.1.locals) (hc1 : k.1 + kc ≤ Θ.2.2.2.2.1.cells) (hc2 : k.2 + ks ≤ Θ.2.2.2.2.1.slots) (hd : decode cc pc = .ok (.invokevirtual index, 3)) (kk : ∀ (v : Option Value) (h' : AH), post v h' → J Θ cc h' (k.1 + kc, k.2 + ks) lv (pc + 3) (v.toList ++ rest)) : J Θ cc h k lv pc st := by
  intro p e s m args below meth c C0 H locs ls hH hS hl0
  have hts := C0.1.2.2.2.2
  refine j_back (va_runV (As := as) (b := b) (C := M'.1.cls) C0.1 hC ⟨callB_of n hts (wG_in hw.1) rfl rfl rfl (hts _ hw.2.1) (hts _ hl) ⟨hw.2.2.1, hw.2.2.2.1, hw.2.2.2.2.1⟩ (rmD_ok hw hd1 hd2), hts _ hi, hts _ hx⟩ ⟨va_blind, va_recv C0.2.2.2.2.1.1 (hH.one hb) hc (q0 := 0) rfl, fun U hU hWU => ⟨rfl, by rw [hU]; exact hH, C0.2.2.2.2.1.warm hWU, by rw [hU]; exact Nat.le_trans C0.2.2.2.2.2.1 hS.1⟩⟩ rfl hn hl0.1 hst (lv_room hW) hd ⟨hc1, hc2⟩) hS (M := M') (M' := M') ?_
  exact fun v h' H1 locs1 hpo hH1 hS1 => kk v h' hpo p e s m args below meth c C0 H1 locs1 ls hH1 hS1 hl0
theorem j_callI {M' : MI} {d kc ks n index b : Nat} {as rest : List Value} {post : Option Value → AH → Prop} (hC : Con Θ.1 Θ.2.1 M' d kc ks (.ref b :: as) h post) (hret : M'.2.2.2 = none) (hnm : M'.1.name = "<init>") (hw : CW M' n) (hl : Cond.methodLink Θ.2.2.1.1.cls index M'.1 ∈ wsG) (hi : Cond.instanceMethod M'.1 ∈ wsG) (hn : as.length = n) (hst : st = as.reverse ++ .ref b :: rest) (hW : (rest.map fun v => v.category).sum ≤ 8) (hd1 : d + 1 ≤ Θ.2.2.2.2.1.frames) (hd2 : 40 * (d + 1) ≤ Θ.2.2.2.2.1.locals) (hc1 : k.1 + kc ≤ Θ.2.2.2.2.1.cells) (hc2 : k.2 + ks ≤ Θ.2.2.2.2.1.slots) (hd : decode cc pc = .ok (.invokespecial index, 3)) (kk : ∀ (v : Option Value) (h' : AH), post v h' → J Θ cc h' (k.1 + kc, k.2 + ks) lv (pc + 3) (v.toList ++ rest)) : J Θ cc h k lv pc st := by
  intro p e s m args below meth c C0 H locs ls hH hS hl0
  have hts := C0.1.2.2.2.2
  obtain ⟨y, bytes, maxL, ret⟩ := M'
  cases hret
  refine j_back (va_runI (As := as) (b := b) (bytes := bytes) (maxL := maxL) C0.1 hC ⟨callB_of n hts (wG_in hw.1) rfl rfl rfl (hts _ hw.2.1) (hts _ hl) ⟨hw.2.2.1, hw.2.2.2.1, hw.2.2.2.2.1⟩ (rmD_ok hw hd1 hd2), hnm, hts _ hi⟩ ⟨va_blind, fun U hU hWU => ⟨rfl, by rw [hU]; exact hH, C0.2.2.2.2.1.warm hWU, by rw [hU]; exact Nat.le_trans C0.2.2.2.2.2.1 hS.1⟩⟩ rfl hn hl0.1 hst (lv_room hW) hd ⟨hc1, hc2⟩) hS (M := (y, bytes, maxL, none)) (M' := (y, bytes, maxL, none)) ?_
  exact fun v h' H1 locs1 hpo hH1 hS1 => kk v h' hpo p e s m args below meth c C0 H1 locs1 ls hH1 hS1 hl0
theorem j_objInit {idx a : Nat} (hl : Cond.methodLink Θ.2.2.1.1.cls idx objectInit ∈ wsG) (hW : (st.map fun v => v.category).sum ≤ 8) (hd1 : 1 ≤ Θ.2.2.2.2.1.frames) (hd2 : 40 ≤ Θ.2.2.2.2.1.locals) (hd : decode cc pc = .ok (.invokespecial idx, 3)) (kk : J Θ cc h k lv (pc + 3) st) : J Θ cc h k lv pc (.ref a :: st) := by
  intro p e s m args below meth c C0 H locs ls hH hS hl0
  have hts := C0.1.2.2.2.2
  refine W.objInit C0.1.1 C0.1.2.1 C0.1.2.2.2.1 (hts _ hl) (hts _ wm_O_init) (hts _ wo_objectInit) rfl (by rw [C0.1.2.2.1]; exact hl0.1) rfl hd hd1 (by have := lv_room (m := m) (pc := pc) (ls := ls) (rest := .ref a :: st) hW; omega) (kk p e s m args below meth c C0 H locs ls hH hS hl0)
theorem j_mmax {index : Nat} {x y : Int32} (hl : Cond.methodLink Θ.2.2.1.1.cls index Lib.Math.max.name ∈ wsG) (hs : Cond.static Lib.Math.max.name ∈ wsG) (hW : (st.map fun v => v.category).sum ≤ 8) (hd1 : 1 ≤ Θ.2.2.2.2.1.frames) (hd2 : 40 ≤ Θ.2.2.2.2.1.locals) (hc1 : k.1 ≤ Θ.2.2.2.2.1.cells) (hc2 : k.2 ≤ Θ.2.2.2.2.1.slots) (hd : decode cc pc = .ok (.invokestatic index, 3)) (kk : J Θ cc h k lv (pc + 3) (.int (if x < y then y else x) :: st)) : J Θ cc h k lv pc (.int y :: .int x :: st) := by
  intro p e s m args below meth c C0 H locs ls hH hS hl0
  have hts := C0.1.2.2.2.2
  exact va_mmax C0.1.1 C0.1.2.1 (C0.1.2.2.1.trans hl0.1.symm) C0.1.2.2.2.1 (hts _ hl) (hts _ hs) (hts _ wi_J9) (hts _ wo_max) hd1 (by omega) hc1 hc2 hd (kk p e s m args below meth c C0 H locs ls hH hS hl0)
theorem j_mmin {index : Nat} {x y : Int32} (hl : Cond.methodLink Θ.2.2.1.1.cls index Lib.Math.min.name ∈ wsG) (hs : Cond.static Lib.Math.min.name ∈ wsG) (hW : (st.map fun v => v.category).sum ≤ 8) (hd1 : 1 ≤ Θ.2.2.2.2.1.frames) (hd2 : 40 ≤ Θ.2.2.2.2.1.locals) (hc1 : k.1 ≤ Θ.2.2.2.2.1.cells) (hc2 : k.2 ≤ Θ.2.2.2.2.1.slots) (hd : decode cc pc = .ok (.invokestatic index, 3)) (kk : J Θ cc h k lv (pc + 3) (.int (if y < x then y else x) :: st)) : J Θ cc h k lv pc (.int y :: .int x :: st) := by
  intro p e s m args below meth c C0 H locs ls hH hS hl0
  have hts := C0.1.2.2.2.2
  exact va_mmin C0.1.1 C0.1.2.1 (C0.1.2.2.1.trans hl0.1.symm) C0.1.2.2.2.1 (hts _ hl) (hts _ hs) (hts _ wi_J9) (hts _ wo_min) hd1 (by omega) hc1 hc2 hd (kk p e s m args below meth c C0 H locs ls hH hS hl0)
theorem j_mminl {index : Nat} {x y : Int64} (hl : Cond.methodLink Θ.2.2.1.1.cls index Lib.MathLoose.min_long.x ∈ wsG) (hs : Cond.static Lib.MathLoose.min_long.x ∈ wsG) (hW : (st.map fun v => v.category).sum ≤ 8) (hd1 : 1 ≤ Θ.2.2.2.2.1.frames) (hd2 : 40 ≤ Θ.2.2.2.2.1.locals) (hc1 : k.1 ≤ Θ.2.2.2.2.1.cells) (hc2 : k.2 ≤ Θ.2.2.2.2.1.slots) (hd : decode cc pc = .ok (.invokestatic index, 3)) (kk : J Θ cc h k lv (pc + 3) (.long (if y < x then y else x) :: st)) : J Θ cc h k lv pc (.long y :: .long x :: st) := by
  intro p e s m args below meth c C0 H locs ls hH hS hl0
  have hts := C0.1.2.2.2.2
  exact va_mmin_long C0.1.1 C0.1.2.1 (C0.1.2.2.1.trans hl0.1.symm) C0.1.2.2.2.1 (hts _ hl) (hts _ hs) (hts _ wi_J9) (hts _ wo_minl) hd1 (by omega) hc1 hc2 hd (kk p e s m args below meth c C0 H locs ls hH hS hl0)
theorem va_fitI {G : GG} {n : Nat} {f : Nat → Int32} (i : Nat) (v : Value) (hv : (vp_cell (G.2.1 0) (n, .inl f)).slots[i]? = some v) : fits .int v = true := va_fit (ty := .int) (F := fun j => .int (f j)) (n := n) (cA := G.2.1 0) (fun _ _ => rfl) i v hv
theorem KG.nmI {G : GG} {s : State} (h : KG G s) : s.vm.findClass "[I" = some (G.2.1 0) := (h.1.2 0 _ rfl).2
theorem j_clone {a n index : Nat} {f : Nat → Int32} (he : h a = some (.inl (0, n, .inl f))) (hl : Cond.methodLink Θ.2.2.1.1.cls index ⟨"[I", "clone", "()Ljava/lang/Object;"⟩ ∈ wsG) (hW : (st.map fun v => v.category).sum ≤ 8) (hd1 : 1 ≤ Θ.2.2.2.2.1.frames) (hd2 : 40 ≤ Θ.2.2.2.2.1.locals) (h1 : k.1 + 1 ≤ Θ.2.2.2.2.1.cells) (h2 : k.2 + n ≤ Θ.2.2.2.2.1.slots) (hd : decode cc pc = .ok (.invokevirtual index, 3)) (kk : ∀ b : Nat, (∀ q, b ≤ q → h q = none) → J Θ cc (upA h b (.inl (0, n, .inl f))) (k.1 + 1, k.2 + n) lv (pc + 3) (.ref b :: st)) : J Θ cc h k lv pc (.ref a :: st) := by
  intro p e s m args below meth c C0 H locs ls hH hS hl0
  have hts := C0.1.2.2.2.2
  have hKG := C0.2.2.2.2.1
  have hK := hKG.1
  have hsz : (vp_cell (Θ.2.1.2.1 0) (n, .inl f)).slots.size = n := arrV_size _ _ _
  obtain ⟨c0, t0', f1, f2, f3⟩ := Cond.castable_spec (va_Nw.use (A := args) rfl hKG.2.2.2.1)
  cases hKG.nmI.symm.trans f1
  intro T hT X
  have hcellT : T.heap[a]? = some (vp_cell (Θ.2.1.2.1 0) (n, .inl f)) := by rw [hT]; exact (hH a _ he).2
  obtain ⟨-, kA, hkA, comp, hkind⟩ := State.isArrayOf_alike X.warmed.alike ((hK.2 0 _ rfl).1 0 (fun _ => .null))
  obtain ⟨-, kS, hkS, compS, hkindS⟩ := (hK.2 0 _ rfl).1 0 (fun _ => .null)
  obtain ⟨vm', X', stp⟩ := X.cloneArray C0.1.1 C0.1.2.2.2.1 (hts _ hl) (hts _ wq_clone) (hts _ wv_clone) (hts _ wm_O_clone) (hts _ wx_clone) (a := a) (cell := vp_cell (Θ.2.1.2.1 0) (n, .inl f)) hcellT (fun k h => by cases h) (fun h => by cases h) hKG.nmI f2 f3
    (fun i v hv => by
      have hk' : T.vm.classes[(vp_cell (Θ.2.1.2.1 0) (n, .inl f)).cls]? = some kA := hkA
      simpa [State.fitsSlot, State.slotType?, hk', hkind] using va_fitI (G := Θ.2.1) i v hv)
    (g := F0 m pc ls (.ref a :: st)) rfl (by rw [C0.1.2.2.1]; exact hl0.1) rfl (by rw [C0.1.2.1]; exact hd) hd1 (by show 2 * 0 + _ + 14 ≤ _; omega) h1 (by rw [hsz]; exact h2) (hloader := Vm.clonesLoader_of_array hkS hkindS)
  rw [hsz] at X'
  generalize hH1 : H.push (vp_cell (Θ.2.1.2.1 0) (n, .inl f)) = H1
  have z1 : H1.size = H.size + 1 := by rw [← hH1, Array.size_push]
  have e1 : H1[H.size]? = some (vp_cell (Θ.2.1.2.1 0) (n, .inl f)) := by rw [← hH1, Array.getElem?_push_size]
  have o1 : ∀ q : Nat, q < H.size → H1[q]? = H[q]? := fun q hq => by rw [← hH1, Array.getElem?_push, if_neg (Nat.ne_of_lt hq)]
  obtain ⟨t, b1, b2⟩ := kk H.size hH.fresh p e s m args below meth c C0 H1 locs ls (hH.new (Nat.le_trans C0.2.2.2.2.2.1 hS.1) e1 o1) ⟨Nat.le_trans hS.1 (by omega), fun x g1 g2 => (o1 x (Nat.lt_of_lt_of_le g1 hS.1)).trans (hS.2.1 x g1 g2), hS.2.2⟩ hl0
    ((T.setVm vm').pushCell (vp_cell (Θ.2.1.2.1 0) (n, .inl f))) (by rw [← hH1, ← hT]; rfl) X'
  refine ⟨t, stp t ?_, b2⟩
  rw [hT]
  exact b1
theorem j_castI {a n index : Nat} {f : Nat → Int32} (he : h a = some (.inl (0, n, .inl f))) (hl : Cond.classLink Θ.2.2.1.1.cls index "[I" ∈ wsG) (hd : decode cc pc = .ok (.checkcast index, 3)) (kk : J Θ cc h k lv (pc + 3) (.ref a :: st)) : J Θ cc h k lv pc (.ref a :: st) := by
  intro p e s m args below meth c C0 H locs ls hH hS hl0
  exact va_castA (D := Θ.2.1.1) (ws := [(a, .inl (Θ.2.1.2.1 0, n, .inl f))]) C0.1.1 C0.1.2.1 C0.1.2.2.2.1 (C0.1.2.2.2.2 _ hl) (hH.one he) 0 rfl C0.2.2.2.2.1.nmI hd (kk p e s m args below meth c C0 H locs ls hH hS hl0)
end JR
/-! ===== ends ===== -/
section JE
variable {l : Launch} {G : GG} {M : MI} {d kc ks : Nat} {post : Option Value → AH → Prop} {cc : ByteArray} {h : AH} {k : Nat × Nat} {lv : List (Option Value)} {pc : Nat}
theorem j_iret {v : Int32} (hr : M.2.2.2 = some .int) (h1 : k.1 ≤ kc) (h2 : k.2 ≤ ks) (hd : decode cc pc = .ok (.ireturn, 1)) (hp : post (some (.int v)) h) : J (thM l G M d kc ks post) cc h k lv pc [.int v] := by
  intro p e s m args below meth c C H locs ls hH hS hl
  refine W.widen (k := kc) (n := ks) h1 h2 ?_
  exact W.iret C.1.1 C.1.2.1 (C.2.1.trans hr) (fun t ht hW => ⟨⟨_, h, rfl, hp, by rw [ht]; exact hH⟩, hS.F ht⟩) hS.2.2 hd C.2.2.1
theorem j_zret {v : Int32} (hr : M.2.2.2 = some .boolean) (hn : narrow .boolean (.int v) = .int v) (h1 : k.1 ≤ kc) (h2 : k.2 ≤ ks) (hd : decode cc pc = .ok (.ireturn, 1)) (hp : post (some (.int v)) h) : J (thM l G M d kc ks post) cc h k lv pc [.int v] := by
  intro p e s m args below meth c C H locs ls hH hS hl
  refine W.widen (k := kc) (n := ks) h1 h2 ?_
  exact W.zret C.1.1 C.1.2.1 (C.2.1.trans hr) hn (fun t ht hW => ⟨⟨_, h, rfl, hp, by rw [ht]; exact hH⟩, hS.F ht⟩) hS.2.2 hd C.2.2.1
theorem j_lret {v : Int64} (hr : M.2.2.2 = some .long) (h1 : k.1 ≤ kc) (h2 : k.2 ≤ ks) (hd : decode cc pc = .ok (.lreturn, 1)) (hp : post (some (.long v)) h) : J (thM l G M d kc ks post) cc h k lv pc [.long v] := by
  intro p e s m args below meth c C H locs ls hH hS hl
  refine W.widen (k := kc) (n := ks) h1 h2 ?_
  exact W.lret C.1.1 C.1.2.1 (C.2.1.trans hr) (fun t ht hW => ⟨⟨_, h, rfl, hp, by rw [ht]; exact hH⟩, hS.F ht⟩) hS.2.2 hd C.2.2.1
theorem j_vret (hr : M.2.2.2 = none) (h1 : k.1 ≤ kc) (h2 : k.2 ≤ ks) (hd : decode cc pc = .ok (.return_, 1)) (hp : post none h) : J (thM l G M d kc ks post) cc h k lv pc [] := by
  intro p e s m args below meth c C H locs ls hH hS hl
  refine W.widen (k := kc) (n := ks) h1 h2 ?_
  exact W.vret C.1.1 C.1.2.1 (C.2.1.trans hr) (fun t ht hW => ⟨⟨_, h, rfl, hp, by rw [ht]; exact hH⟩, hS.F ht⟩) hS.2.2 hd C.2.2.1
theorem j_aret {rt : FieldType} {o : Option Nat} (hr : M.2.2.2 = some rt) (hrt : (∃ n, rt = .object n) ∨ ∃ t, rt = .array t) (h1 : k.1 ≤ kc) (h2 : k.2 ≤ ks) (hd : decode cc pc = .ok (.areturn, 1)) (hp : post (some (va_rf o)) h) : J (thM l G M d kc ks post) cc h k lv pc [va_rf o] := by
  intro p e s m args below meth c C H locs ls hH hS hl
  refine W.widen (k := kc) (n := ks) h1 h2 ?_
  exact W.aret C.1.1 C.1.2.1 (C.2.1.trans hr) hrt (va_rf_or o) (fun t ht hW => ⟨⟨_, h, rfl, hp, by rw [ht]; exact hH⟩, hS.F ht⟩) hS.2.2 hd C.2.2.1
end JE
end
section
section FR
variable {Θ : TH} {cc : ByteArray} {h : AH} {k : Nat × Nat} {lv : List (Option Value)} {pc : Nat} {st : List Value}
theorem gX4_11 (hM : Θ.2.2.1.1.cls = RX4) {a : Nat} {fs : List Value} {v : Value} (he : h a = some (.inr (4, fs))) (hv : fs[0]? = some v) (hd : decode cc pc = .ok (.getfield 11, 3)) (kk : J Θ cc h k lv (pc + 3) (v :: st)) : J Θ cc h k lv pc (.ref a :: st) :=
  j_get (C := RX4) (T := TX4) (N := 11) (fk := 0) he rfl inX4 (by decide) (by rw [hM]; exact wf_X4_11) hv hd kk
theorem pX4_11 (hM : Θ.2.2.1.1.cls = RX4) (hi : Θ.2.2.1.1.name = "<init>") {a : Nat} {fs : List Value} {v : Value} (he : h a = some (.inr (4, fs))) (hn : narrow (tyX4 0) v = v) (hf : fits (tyX4 0) v = true) (hl : 0 < fs.length) (hd : decode cc pc = .ok (.putfield 11, 3)) (kk : J Θ cc (upA h a (.inr (4, fs.set 0 v))) k lv (pc + 3) st) : J Θ cc h k lv pc (v :: .ref a :: st) :=
  j_putF (C := RX4) (T := TX4) (N := 11) (fk := 0) he rfl inX4 tyX4 tyX4_ok nmX4 (by decide) (by rw [hM]; exact wf_X4_11) rfl hi (by rw [hM]; rfl) (tyX4_ok 0 (by decide)) hn hf hl hd kk
theorem gX4_17 (hM : Θ.2.2.1.1.cls = RX4) {a : Nat} {fs : List Value} {v : Value} (he : h a = some (.inr (4, fs))) (hv : fs[2]? = some v) (hd : decode cc pc = .ok (.getfield 17, 3)) (kk : J Θ cc h k lv (pc + 3) (v :: st)) : J Θ cc h k lv pc (.ref a :: st) :=
  j_get (C := RX4) (T := TX4) (N := 11) (fk := 2) he rfl inX4 (by decide) (by rw [hM]; exact wf_X4_17) hv hd kk
theorem pX4_17 (hM : Θ.2.2.1.1.cls = RX4) (hi : Θ.2.2.1.1.name = "<init>") {a : Nat} {fs : List Value} {v : Value} (he : h a = some (.inr (4, fs))) (hn : narrow (tyX4 2) v = v) (hf : fits (tyX4 2) v = true) (hl : 2 < fs.length) (hd : decode cc pc = .ok (.putfield 17, 3)) (kk : J Θ cc (upA h a (.inr (4, fs.set 2 v))) k lv (pc + 3) st) : J Θ cc h k lv pc (v :: .ref a :: st) :=
  j_putF (C := RX4) (T := TX4) (N := 11) (fk := 2) he rfl inX4 tyX4 tyX4_ok nmX4 (by decide) (by rw [hM]; exact wf_X4_17) rfl hi (by rw [hM]; rfl) (tyX4_ok 2 (by decide)) hn hf hl hd kk
theorem gX4_24 (hM : Θ.2.2.1.1.cls = RX4) {a : Nat} {fs : List Value} {v : Value} (he : h a = some (.inr (4, fs))) (hv : fs[7]? = some v) (hd : decode cc pc = .ok (.getfield 24, 3)) (kk : J Θ cc h k lv (pc + 3) (v :: st)) : J Θ cc h k lv pc (.ref a :: st) :=
  j_get (C := RX4) (T := TX4) (N := 11) (fk := 7) he rfl inX4 (by decide) (by rw [hM]; exact wf_X4_24) hv hd kk
theorem pX4_24 (hM : Θ.2.2.1.1.cls = RX4) (hi : Θ.2.2.1.1.name = "<init>") {a : Nat} {fs : List Value} {v : Value} (he : h a = some (.inr (4, fs))) (hn : narrow (tyX4 7) v = v) (hf : fits (tyX4 7) v = true) (hl : 7 < fs.length) (hd : decode cc pc = .ok (.putfield 24, 3)) (kk : J Θ cc (upA h a (.inr (4, fs.set 7 v))) k lv (pc + 3) st) : J Θ cc h k lv pc (v :: .ref a :: st) :=
  j_putF (C := RX4) (T := TX4) (N := 11) (fk := 7) he rfl inX4 tyX4 tyX4_ok nmX4 (by decide) (by rw [hM]; exact wf_X4_24) rfl hi (by rw [hM]; rfl) (tyX4_ok 7 (by decide)) hn hf hl hd kk
theorem gX4_31 (hM : Θ.2.2.1.1.cls = RX4) {a : Nat} {fs : List Value} {v : Value} (he : h a = some (.inr (4, fs))) (hv : fs[8]? = some v) (hd : decode cc pc = .ok (.getfield 31, 3)) (kk : J Θ cc h k lv (pc + 3) (v :: st)) : J Θ cc h k lv pc (.ref a :: st) :=
  j_get (C := RX4) (T := TX4) (N := 11) (fk := 8) he rfl inX4 (by decide) (by rw [hM]; exact wf_X4_31) hv hd kk
theorem pX4_31 (hM : Θ.2.2.1.1.cls = RX4) (hi : Θ.2.2.1.1.name = "<init>") {a : Nat} {fs : List Value} {v : Value} (he : h a = some (.inr (4, fs))) (hn : narrow (tyX4 8) v = v) (hf : fits (tyX4 8) v = true) (hl : 8 < fs.length) (hd : decode cc pc = .ok (.putfield 31, 3)) (kk : J Θ cc (upA h a (.inr (4, fs.set 8 v))) k lv (pc + 3) st) : J Θ cc h k lv pc (v :: .ref a :: st) :=
  j_putF (C := RX4) (T := TX4) (N := 11) (fk := 8) he rfl inX4 tyX4 tyX4_ok nmX4 (by decide) (by rw [hM]; exact wf_X4_31) rfl hi (by rw [hM]; rfl) (tyX4_ok 8 (by decide)) hn hf hl hd kk
theorem gX4_35 (hM : Θ.2.2.1.1.cls = RX4) {a : Nat} {fs : List Value} {v : Value} (he : h a = some (.inr (4, fs))) (hv : fs[9]? = some v) (hd : decode cc pc = .ok (.getfield 35, 3)) (kk : J Θ cc h k lv (pc + 3) (v :: st)) : J Θ cc h k lv pc (.ref a :: st) :=
  j_get (C := RX4) (T := TX4) (N := 11) (fk := 9) he rfl inX4 (by decide) (by rw [hM]; exact wf_X4_35) hv hd kk
theorem pX4_35 (hM : Θ.2.2.1.1.cls = RX4) (hi : Θ.2.2.1.1.name = "<init>") {a : Nat} {fs : List Value} {v : Value} (he : h a = some (.inr (4, fs))) (hn : narrow (tyX4 9) v = v) (hf : fits (tyX4 9) v = true) (hl : 9 < fs.length) (hd : decode cc pc = .ok (.putfield 35, 3)) (kk : J Θ cc (upA h a (.inr (4, fs.set 9 v))) k lv (pc + 3) st) : J Θ cc h k lv pc (v :: .ref a :: st) :=
  j_putF (C := RX4) (T := TX4) (N := 11) (fk := 9) he rfl inX4 tyX4 tyX4_ok nmX4 (by decide) (by rw [hM]; exact wf_X4_35) rfl hi (by rw [hM]; rfl) (tyX4_ok 9 (by decide)) hn hf hl hd kk
theorem gX4_39 (hM : Θ.2.2.1.1.cls = RX4) {a : Nat} {fs : List Value} {v : Value} (he : h a = some (.inr (4, fs))) (hv : fs[1]? = some v) (hd : decode cc pc = .ok (.getfield 39, 3)) (kk : J Θ cc h k lv (pc + 3) (v :: st)) : J Θ cc h k lv pc (.ref a :: st) :=
  j_get (C := RX4) (T := TX4) (N := 11) (fk := 1) he rfl inX4 (by decide) (by rw [hM]; exact wf_X4_39) hv hd kk
theorem pX4_39 (hM : Θ.2.2.1.1.cls = RX4) {a : Nat} {fs : List Value} {v : Value} (he : h a = some (.inr (4, fs))) (hn : narrow (tyX4 1) v = v) (hf : fits (tyX4 1) v = true) (hl : 1 < fs.length) (hd : decode cc pc = .ok (.putfield 39, 3)) (kk : J Θ cc (upA h a (.inr (4, fs.set 1 v))) k lv (pc + 3) st) : J Θ cc h k lv pc (v :: .ref a :: st) :=
  j_put (C := RX4) (T := TX4) (N := 11) (fk := 1) he rfl inX4 tyX4 tyX4_ok nmX4 (by decide) (by rw [hM]; exact wf_X4_39) rfl (tyX4_ok 1 (by decide)) hn hf hl hd kk
theorem gX4_74 (hM : Θ.2.2.1.1.cls = RX4) {a : Nat} {fs : List Value} {v : Value} (he : h a = some (.inr (2, fs))) (hv : fs[1]? = some v) (hd : decode cc pc = .ok (.getfield 74, 3)) (kk : J Θ cc h k lv (pc + 3) (v :: st)) : J Θ cc h k lv pc (.ref a :: st) :=
  j_get (C := RX2) (T := TX2) (N := 6) (fk := 1) he rfl inX2 (by decide) (by rw [hM]; exact wf_X4_74) hv hd kk
theorem gX4_78 (hM : Θ.2.2.1.1.cls = RX4) {a : Nat} {fs : List Value} {v : Value} (he : h a = some (.inr (4, fs))) (hv : fs[4]? = some v) (hd : decode cc pc = .ok (.getfield 78, 3)) (kk : J Θ cc h k lv (pc + 3) (v :: st)) : J Θ cc h k lv pc (.ref a :: st) :=
  j_get (C := RX4) (T := TX4) (N := 11) (fk := 4) he rfl inX4 (by decide) (by rw [hM]; exact wf_X4_78) hv hd kk
theorem pX4_78 (hM : Θ.2.2.1.1.cls = RX4) {a : Nat} {fs : List Value} {v : Value} (he : h a = some (.inr (4, fs))) (hn : narrow (tyX4 4) v = v) (hf : fits (tyX4 4) v = true) (hl : 4 < fs.length) (hd : decode cc pc = .ok (.putfield 78, 3)) (kk : J Θ cc (upA h a (.inr (4, fs.set 4 v))) k lv (pc + 3) st) : J Θ cc h k lv pc (v :: .ref a :: st) :=
  j_put (C := RX4) (T := TX4) (N := 11) (fk := 4) he rfl inX4 tyX4 tyX4_ok nmX4 (by decide) (by rw [hM]; exact wf_X4_78) rfl (tyX4_ok 4 (by decide)) hn hf hl hd kk
theorem gX4_82 (hM : Θ.2.2.1.1.cls = RX4) {a : Nat} {fs : List Value} {v : Value} (he : h a = some (.inr (4, fs))) (hv : fs[5]? = some v) (hd : decode cc pc = .ok (.getfield 82, 3)) (kk : J Θ cc h k lv (pc + 3) (v :: st)) : J Θ cc h k lv pc (.ref a :: st) :=
  j_get (C := RX4) (T := TX4) (N := 11) (fk := 5) he rfl inX4 (by decide) (by rw [hM]; exact wf_X4_82) hv hd kk
theorem pX4_82 (hM : Θ.2.2.1.1.cls = RX4) {a : Nat} {fs : List Value} {v : Value} (he : h a = some (.inr (4, fs))) (hn : narrow (tyX4 5) v = v) (hf : fits (tyX4 5) v = true) (hl : 5 < fs.length) (hd : decode cc pc = .ok (.putfield 82, 3)) (kk : J Θ cc (upA h a (.inr (4, fs.set 5 v))) k lv (pc + 3) st) : J Θ cc h k lv pc (v :: .ref a :: st) :=
  j_put (C := RX4) (T := TX4) (N := 11) (fk := 5) he rfl inX4 tyX4 tyX4_ok nmX4 (by decide) (by rw [hM]; exact wf_X4_82) rfl (tyX4_ok 5 (by decide)) hn hf hl hd kk
theorem gX4_85 (hM : Θ.2.2.1.1.cls = RX4) {a : Nat} {fs : List Value} {v : Value} (he : h a = some (.inr (4, fs))) (hv : fs[3]? = some v) (hd : decode cc pc = .ok (.getfield 85, 3)) (kk : J Θ cc h k lv (pc + 3) (v :: st)) : J Θ cc h k lv pc (.ref a :: st) :=
  j_get (C := RX4) (T := TX4) (N := 11) (fk := 3) he rfl inX4 (by decide) (by rw [hM]; exact wf_X4_85) hv hd kk
theorem pX4_85 (hM : Θ.2.2.1.1.cls = RX4) {a : Nat} {fs : List Value} {v : Value} (he : h a = some (.inr (4, fs))) (hn : narrow (tyX4 3) v = v) (hf : fits (tyX4 3) v = true) (hl : 3 < fs.length) (hd : decode cc pc = .ok (.putfield 85, 3)) (kk : J Θ cc (upA h a (.inr (4, fs.set 3 v))) k lv (pc + 3) st) : J Θ cc h k lv pc (v :: .ref a :: st) :=
  j_put (C := RX4) (T := TX4) (N := 11) (fk := 3) he rfl inX4 tyX4 tyX4_ok nmX4 (by decide) (by rw [hM]; exact wf_X4_85) rfl (tyX4_ok 3 (by decide)) hn hf hl hd kk
theorem gX4_117 (hM : Θ.2.2.1.1.cls = RX4) {a : Nat} {fs : List Value} {v : Value} (he : h a = some (.inr (0, fs))) (hv : fs[2]? = some v) (hd : decode cc pc = .ok (.getfield 117, 3)) (kk : J Θ cc h k lv (pc + 3) (v :: st)) : J Θ cc h k lv pc (.ref a :: st) :=
  j_get (C := RX0) (T := TX0) (N := 9) (fk := 2) he rfl inX0 (by decide) (by rw [hM]; exact wf_X4_117) hv hd kk
theorem gX4_120 (hM : Θ.2.2.1.1.cls = RX4) {a : Nat} {fs : List Value} {v : Value} (he : h a = some (.inr (0, fs))) (hv : fs[3]? = some v) (hd : decode cc pc = .ok (.getfield 120, 3)) (kk : J Θ cc h k lv (pc + 3) (v :: st)) : J Θ cc h k lv pc (.ref a :: st) :=
  j_get (C := RX0) (T := TX0) (N := 9) (fk := 3) he rfl inX0 (by decide) (by rw [hM]; exact wf_X4_120) hv hd kk
theorem pX4_120 (hM : Θ.2.2.1.1.cls = RX4) {a : Nat} {fs : List Value} {v : Value} (he : h a = some (.inr (0, fs))) (hn : narrow (tyX0 3) v = v) (hf : fits (tyX0 3) v = true) (hl : 3 < fs.length) (hd : decode cc pc = .ok (.putfield 120, 3)) (kk : J Θ cc (upA h a (.inr (0, fs.set 3 v))) k lv (pc + 3) st) : J Θ cc h k lv pc (v :: .ref a :: st) :=
  j_put (C := RX0) (T := TX0) (N := 9) (fk := 3) he rfl inX0 tyX0 tyX0_ok nmX0 (by decide) (by rw [hM]; exact wf_X4_120) rfl (tyX0_ok 3 (by decide)) hn hf hl hd kk
theorem gX4_124 (hM : Θ.2.2.1.1.cls = RX4) {a : Nat} {fs : List Value} {v : Value} (he : h a = some (.inr (0, fs))) (hv : fs[4]? = some v) (hd : decode cc pc = .ok (.getfield 124, 3)) (kk : J Θ cc h k lv (pc + 3) (v :: st)) : J Θ cc h k lv pc (.ref a :: st) :=
  j_get (C := RX0) (T := TX0) (N := 9) (fk := 4) he rfl inX0 (by decide) (by rw [hM]; exact wf_X4_124) hv hd kk
theorem pX4_124 (hM : Θ.2.2.1.1.cls = RX4) {a : Nat} {fs : List Value} {v : Value} (he : h a = some (.inr (0, fs))) (hn : narrow (tyX0 4) v = v) (hf : fits (tyX0 4) v = true) (hl : 4 < fs.length) (hd : decode cc pc = .ok (.putfield 124, 3)) (kk : J Θ cc (upA h a (.inr (0, fs.set 4 v))) k lv (pc + 3) st) : J Θ cc h k lv pc (v :: .ref a :: st) :=
  j_put (C := RX0) (T := TX0) (N := 9) (fk := 4) he rfl inX0 tyX0 tyX0_ok nmX0 (by decide) (by rw [hM]; exact wf_X4_124) rfl (tyX0_ok 4 (by decide)) hn hf hl hd kk
theorem gX4_127 (hM : Θ.2.2.1.1.cls = RX4) {a : Nat} {fs : List Value} {v : Value} (he : h a = some (.inr (0, fs))) (hv : fs[5]? = some v) (hd : decode cc pc = .ok (.getfield 127, 3)) (kk : J Θ cc h k lv (pc + 3) (v :: st)) : J Θ cc h k lv pc (.ref a :: st) :=
  j_get (C := RX0) (T := TX0) (N := 9) (fk := 5) he rfl inX0 (by decide) (by rw [hM]; exact wf_X4_127) hv hd kk
theorem pX4_127 (hM : Θ.2.2.1.1.cls = RX4) {a : Nat} {fs : List Value} {v : Value} (he : h a = some (.inr (0, fs))) (hn : narrow (tyX0 5) v = v) (hf : fits (tyX0 5) v = true) (hl : 5 < fs.length) (hd : decode cc pc = .ok (.putfield 127, 3)) (kk : J Θ cc (upA h a (.inr (0, fs.set 5 v))) k lv (pc + 3) st) : J Θ cc h k lv pc (v :: .ref a :: st) :=
  j_put (C := RX0) (T := TX0) (N := 9) (fk := 5) he rfl inX0 tyX0 tyX0_ok nmX0 (by decide) (by rw [hM]; exact wf_X4_127) rfl (tyX0_ok 5 (by decide)) hn hf hl hd kk
theorem gX4_130 (hM : Θ.2.2.1.1.cls = RX4) {a : Nat} {fs : List Value} {v : Value} (he : h a = some (.inr (4, fs))) (hv : fs[6]? = some v) (hd : decode cc pc = .ok (.getfield 130, 3)) (kk : J Θ cc h k lv (pc + 3) (v :: st)) : J Θ cc h k lv pc (.ref a :: st) :=
  j_get (C := RX4) (T := TX4) (N := 11) (fk := 6) he rfl inX4 (by decide) (by rw [hM]; exact wf_X4_130) hv hd kk
theorem pX4_130 (hM : Θ.2.2.1.1.cls = RX4) {a : Nat} {fs : List Value} {v : Value} (he : h a = some (.inr (4, fs))) (hn : narrow (tyX4 6) v = v) (hf : fits (tyX4 6) v = true) (hl : 6 < fs.length) (hd : decode cc pc = .ok (.putfield 130, 3)) (kk : J Θ cc (upA h a (.inr (4, fs.set 6 v))) k lv (pc + 3) st) : J Θ cc h k lv pc (v :: .ref a :: st) :=
  j_put (C := RX4) (T := TX4) (N := 11) (fk := 6) he rfl inX4 tyX4 tyX4_ok nmX4 (by decide) (by rw [hM]; exact wf_X4_130) rfl (tyX4_ok 6 (by decide)) hn hf hl hd kk
theorem gX4_147 (hM : Θ.2.2.1.1.cls = RX4) {a : Nat} {fs : List Value} {v : Value} (he : h a = some (.inr (0, fs))) (hv : fs[0]? = some v) (hd : decode cc pc = .ok (.getfield 147, 3)) (kk : J Θ cc h k lv (pc + 3) (v :: st)) : J Θ cc h k lv pc (.ref a :: st) :=
  j_get (C := RX0) (T := TX0) (N := 9) (fk := 0) he rfl inX0 (by decide) (by rw [hM]; exact wf_X4_147) hv hd kk
theorem gX4_158 (hM : Θ.2.2.1.1.cls = RX4) {a : Nat} {fs : List Value} {v : Value} (he : h a = some (.inr (0, fs))) (hv : fs[6]? = some v) (hd : decode cc pc = .ok (.getfield 158, 3)) (kk : J Θ cc h k lv (pc + 3) (v :: st)) : J Θ cc h k lv pc (.ref a :: st) :=
  j_get (C := RX0) (T := TX0) (N := 9) (fk := 6) he rfl inX0 (by decide) (by rw [hM]; exact wf_X4_158) hv hd kk
theorem gX4_161 (hM : Θ.2.2.1.1.cls = RX4) {a : Nat} {fs : List Value} {v : Value} (he : h a = some (.inr (1, fs))) (hv : fs[1]? = some v) (hd : decode cc pc = .ok (.getfield 161, 3)) (kk : J Θ cc h k lv (pc + 3) (v :: st)) : J Θ cc h k lv pc (.ref a :: st) :=
  j_get (C := RX1) (T := TX1) (N := 12) (fk := 1) he rfl inX1 (by decide) (by rw [hM]; exact wf_X4_161) hv hd kk
theorem pX4_161 (hM : Θ.2.2.1.1.cls = RX4) {a : Nat} {fs : List Value} {v : Value} (he : h a = some (.inr (1, fs))) (hn : narrow (tyX1 1) v = v) (hf : fits (tyX1 1) v = true) (hl : 1 < fs.length) (hd : decode cc pc = .ok (.putfield 161, 3)) (kk : J Θ cc (upA h a (.inr (1, fs.set 1 v))) k lv (pc + 3) st) : J Θ cc h k lv pc (v :: .ref a :: st) :=
  j_put (C := RX1) (T := TX1) (N := 12) (fk := 1) he rfl inX1 tyX1 tyX1_ok nmX1 (by decide) (by rw [hM]; exact wf_X4_161) rfl (tyX1_ok 1 (by decide)) hn hf hl hd kk
theorem gX4_187 (hM : Θ.2.2.1.1.cls = RX4) {a : Nat} {fs : List Value} {v : Value} (he : h a = some (.inr (4, fs))) (hv : fs[10]? = some v) (hd : decode cc pc = .ok (.getfield 187, 3)) (kk : J Θ cc h k lv (pc + 3) (v :: st)) : J Θ cc h k lv pc (.ref a :: st) :=
  j_get (C := RX4) (T := TX4) (N := 11) (fk := 10) he rfl inX4 (by decide) (by rw [hM]; exact wf_X4_187) hv hd kk
theorem pX4_187 (hM : Θ.2.2.1.1.cls = RX4) {a : Nat} {fs : List Value} {v : Value} (he : h a = some (.inr (4, fs))) (hn : narrow (tyX4 10) v = v) (hf : fits (tyX4 10) v = true) (hl : 10 < fs.length) (hd : decode cc pc = .ok (.putfield 187, 3)) (kk : J Θ cc (upA h a (.inr (4, fs.set 10 v))) k lv (pc + 3) st) : J Θ cc h k lv pc (v :: .ref a :: st) :=
  j_put (C := RX4) (T := TX4) (N := 11) (fk := 10) he rfl inX4 tyX4 tyX4_ok nmX4 (by decide) (by rw [hM]; exact wf_X4_187) rfl (tyX4_ok 10 (by decide)) hn hf hl hd kk
theorem gX4_196 (hM : Θ.2.2.1.1.cls = RX4) {a : Nat} {fs : List Value} {v : Value} (he : h a = some (.inr (1, fs))) (hv : fs[2]? = some v) (hd : decode cc pc = .ok (.getfield 196, 3)) (kk : J Θ cc h k lv (pc + 3) (v :: st)) : J Θ cc h k lv pc (.ref a :: st) :=
  j_get (C := RX1) (T := TX1) (N := 12) (fk := 2) he rfl inX1 (by decide) (by rw [hM]; exact wf_X4_196) hv hd kk
theorem pX4_196 (hM : Θ.2.2.1.1.cls = RX4) {a : Nat} {fs : List Value} {v : Value} (he : h a = some (.inr (1, fs))) (hn : narrow (tyX1 2) v = v) (hf : fits (tyX1 2) v = true) (hl : 2 < fs.length) (hd : decode cc pc = .ok (.putfield 196, 3)) (kk : J Θ cc (upA h a (.inr (1, fs.set 2 v))) k lv (pc + 3) st) : J Θ cc h k lv pc (v :: .ref a :: st) :=
  j_put (C := RX1) (T := TX1) (N := 12) (fk := 2) he rfl inX1 tyX1 tyX1_ok nmX1 (by decide) (by rw [hM]; exact wf_X4_196) rfl (tyX1_ok 2 (by decide)) hn hf hl hd kk
theorem gX4_210 (hM : Θ.2.2.1.1.cls = RX4) {a : Nat} {fs : List Value} {v : Value} (he : h a = some (.inr (0, fs))) (hv : fs[7]? = some v) (hd : decode cc pc = .ok (.getfield 210, 3)) (kk : J Θ cc h k lv (pc + 3) (v :: st)) : J Θ cc h k lv pc (.ref a :: st) :=
  j_get (C := RX0) (T := TX0) (N := 9) (fk := 7) he rfl inX0 (by decide) (by rw [hM]; exact wf_X4_210) hv hd kk
theorem pX4_210 (hM : Θ.2.2.1.1.cls = RX4) {a : Nat} {fs : List Value} {v : Value} (he : h a = some (.inr (0, fs))) (hn : narrow (tyX0 7) v = v) (hf : fits (tyX0 7) v = true) (hl : 7 < fs.length) (hd : decode cc pc = .ok (.putfield 210, 3)) (kk : J Θ cc (upA h a (.inr (0, fs.set 7 v))) k lv (pc + 3) st) : J Θ cc h k lv pc (v :: .ref a :: st) :=
  j_put (C := RX0) (T := TX0) (N := 9) (fk := 7) he rfl inX0 tyX0 tyX0_ok nmX0 (by decide) (by rw [hM]; exact wf_X4_210) rfl (tyX0_ok 7 (by decide)) hn hf hl hd kk
theorem gX0_9 (hM : Θ.2.2.1.1.cls = RX0) {a : Nat} {fs : List Value} {v : Value} (he : h a = some (.inr (0, fs))) (hv : fs[0]? = some v) (hd : decode cc pc = .ok (.getfield 9, 3)) (kk : J Θ cc h k lv (pc + 3) (v :: st)) : J Θ cc h k lv pc (.ref a :: st) :=
  j_get (C := RX0) (T := TX0) (N := 9) (fk := 0) he rfl inX0 (by decide) (by rw [hM]; exact wf_X0_9) hv hd kk
theorem pX0_9 (hM : Θ.2.2.1.1.cls = RX0) (hi : Θ.2.2.1.1.name = "<init>") {a : Nat} {fs : List Value} {v : Value} (he : h a = some (.inr (0, fs))) (hn : narrow (tyX0 0) v = v) (hf : fits (tyX0 0) v = true) (hl : 0 < fs.length) (hd : decode cc pc = .ok (.putfield 9, 3)) (kk : J Θ cc (upA h a (.inr (0, fs.set 0 v))) k lv (pc + 3) st) : J Θ cc h k lv pc (v :: .ref a :: st) :=
  j_putF (C := RX0) (T := TX0) (N := 9) (fk := 0) he rfl inX0 tyX0 tyX0_ok nmX0 (by decide) (by rw [hM]; exact wf_X0_9) rfl hi (by rw [hM]; rfl) (tyX0_ok 0 (by decide)) hn hf hl hd kk
theorem gX0_20 (hM : Θ.2.2.1.1.cls = RX0) {a : Nat} {fs : List Value} {v : Value} (he : h a = some (.inr (0, fs))) (hv : fs[1]? = some v) (hd : decode cc pc = .ok (.getfield 20, 3)) (kk : J Θ cc h k lv (pc + 3) (v :: st)) : J Θ cc h k lv pc (.ref a :: st) :=
  j_get (C := RX0) (T := TX0) (N := 9) (fk := 1) he rfl inX0 (by decide) (by rw [hM]; exact wf_X0_20) hv hd kk
theorem pX0_20 (hM : Θ.2.2.1.1.cls = RX0) (hi : Θ.2.2.1.1.name = "<init>") {a : Nat} {fs : List Value} {v : Value} (he : h a = some (.inr (0, fs))) (hn : narrow (tyX0 1) v = v) (hf : fits (tyX0 1) v = true) (hl : 1 < fs.length) (hd : decode cc pc = .ok (.putfield 20, 3)) (kk : J Θ cc (upA h a (.inr (0, fs.set 1 v))) k lv (pc + 3) st) : J Θ cc h k lv pc (v :: .ref a :: st) :=
  j_putF (C := RX0) (T := TX0) (N := 9) (fk := 1) he rfl inX0 tyX0 tyX0_ok nmX0 (by decide) (by rw [hM]; exact wf_X0_20) rfl hi (by rw [hM]; rfl) (tyX0_ok 1 (by decide)) hn hf hl hd kk
theorem gX0_24 (hM : Θ.2.2.1.1.cls = RX0) {a : Nat} {fs : List Value} {v : Value} (he : h a = some (.inr (2, fs))) (hv : fs[5]? = some v) (hd : decode cc pc = .ok (.getfield 24, 3)) (kk : J Θ cc h k lv (pc + 3) (v :: st)) : J Θ cc h k lv pc (.ref a :: st) :=
  j_get (C := RX2) (T := TX2) (N := 6) (fk := 5) he rfl inX2 (by decide) (by rw [hM]; exact wf_X0_24) hv hd kk
theorem gX0_33 (hM : Θ.2.2.1.1.cls = RX0) {a : Nat} {fs : List Value} {v : Value} (he : h a = some (.inr (0, fs))) (hv : fs[2]? = some v) (hd : decode cc pc = .ok (.getfield 33, 3)) (kk : J Θ cc h k lv (pc + 3) (v :: st)) : J Θ cc h k lv pc (.ref a :: st) :=
  j_get (C := RX0) (T := TX0) (N := 9) (fk := 2) he rfl inX0 (by decide) (by rw [hM]; exact wf_X0_33) hv hd kk
theorem pX0_33 (hM : Θ.2.2.1.1.cls = RX0) (hi : Θ.2.2.1.1.name = "<init>") {a : Nat} {fs : List Value} {v : Value} (he : h a = some (.inr (0, fs))) (hn : narrow (tyX0 2) v = v) (hf : fits (tyX0 2) v = true) (hl : 2 < fs.length) (hd : decode cc pc = .ok (.putfield 33, 3)) (kk : J Θ cc (upA h a (.inr (0, fs.set 2 v))) k lv (pc + 3) st) : J Θ cc h k lv pc (v :: .ref a :: st) :=
  j_putF (C := RX0) (T := TX0) (N := 9) (fk := 2) he rfl inX0 tyX0 tyX0_ok nmX0 (by decide) (by rw [hM]; exact wf_X0_33) rfl hi (by rw [hM]; rfl) (tyX0_ok 2 (by decide)) hn hf hl hd kk
theorem gX0_34 (hM : Θ.2.2.1.1.cls = RX0) {a : Nat} {fs : List Value} {v : Value} (he : h a = some (.inr (0, fs))) (hv : fs[5]? = some v) (hd : decode cc pc = .ok (.getfield 34, 3)) (kk : J Θ cc h k lv (pc + 3) (v :: st)) : J Θ cc h k lv pc (.ref a :: st) :=
  j_get (C := RX0) (T := TX0) (N := 9) (fk := 5) he rfl inX0 (by decide) (by rw [hM]; exact wf_X0_34) hv hd kk
theorem pX0_34 (hM : Θ.2.2.1.1.cls = RX0) {a : Nat} {fs : List Value} {v : Value} (he : h a = some (.inr (0, fs))) (hn : narrow (tyX0 5) v = v) (hf : fits (tyX0 5) v = true) (hl : 5 < fs.length) (hd : decode cc pc = .ok (.putfield 34, 3)) (kk : J Θ cc (upA h a (.inr (0, fs.set 5 v))) k lv (pc + 3) st) : J Θ cc h k lv pc (v :: .ref a :: st) :=
  j_put (C := RX0) (T := TX0) (N := 9) (fk := 5) he rfl inX0 tyX0 tyX0_ok nmX0 (by decide) (by rw [hM]; exact wf_X0_34) rfl (tyX0_ok 5 (by decide)) hn hf hl hd kk
theorem gX0_37 (hM : Θ.2.2.1.1.cls = RX0) {a : Nat} {fs : List Value} {v : Value} (he : h a = some (.inr (0, fs))) (hv : fs[6]? = some v) (hd : decode cc pc = .ok (.getfield 37, 3)) (kk : J Θ cc h k lv (pc + 3) (v :: st)) : J Θ cc h k lv pc (.ref a :: st) :=
  j_get (C := RX0) (T := TX0) (N := 9) (fk := 6) he rfl inX0 (by decide) (by rw [hM]; exact wf_X0_37) hv hd kk
theorem pX0_37 (hM : Θ.2.2.1.1.cls = RX0) (hi : Θ.2.2.1.1.name = "<init>") {a : Nat} {fs : List Value} {v : Value} (he : h a = some (.inr (0, fs))) (hn : narrow (tyX0 6) v = v) (hf : fits (tyX0 6) v = true) (hl : 6 < fs.length) (hd : decode cc pc = .ok (.putfield 37, 3)) (kk : J Θ cc (upA h a (.inr (0, fs.set 6 v))) k lv (pc + 3) st) : J Θ cc h k lv pc (v :: .ref a :: st) :=
  j_putF (C := RX0) (T := TX0) (N := 9) (fk := 6) he rfl inX0 tyX0 tyX0_ok nmX0 (by decide) (by rw [hM]; exact wf_X0_37) rfl hi (by rw [hM]; rfl) (tyX0_ok 6 (by decide)) hn hf hl hd kk
theorem gX0_40 (hM : Θ.2.2.1.1.cls = RX0) {a : Nat} {fs : List Value} {v : Value} (he : h a = some (.inr (0, fs))) (hv : fs[7]? = some v) (hd : decode cc pc = .ok (.getfield 40, 3)) (kk : J Θ cc h k lv (pc + 3) (v :: st)) : J Θ cc h k lv pc (.ref a :: st) :=
  j_get (C := RX0) (T := TX0) (N := 9) (fk := 7) he rfl inX0 (by decide) (by rw [hM]; exact wf_X0_40) hv hd kk
theorem pX0_40 (hM : Θ.2.2.1.1.cls = RX0) {a : Nat} {fs : List Value} {v : Value} (he : h a = some (.inr (0, fs))) (hn : narrow (tyX0 7) v = v) (hf : fits (tyX0 7) v = true) (hl : 7 < fs.length) (hd : decode cc pc = .ok (.putfield 40, 3)) (kk : J Θ cc (upA h a (.inr (0, fs.set 7 v))) k lv (pc + 3) st) : J Θ cc h k lv pc (v :: .ref a :: st) :=
  j_put (C := RX0) (T := TX0) (N := 9) (fk := 7) he rfl inX0 tyX0 tyX0_ok nmX0 (by decide) (by rw [hM]; exact wf_X0_40) rfl (tyX0_ok 7 (by decide)) hn hf hl hd kk
theorem gX0_43 (hM : Θ.2.2.1.1.cls = RX0) {a : Nat} {fs : List Value} {v : Value} (he : h a = some (.inr (0, fs))) (hv : fs[8]? = some v) (hd : decode cc pc = .ok (.getfield 43, 3)) (kk : J Θ cc h k lv (pc + 3) (v :: st)) : J Θ cc h k lv pc (.ref a :: st) :=
  j_get (C := RX0) (T := TX0) (N := 9) (fk := 8) he rfl inX0 (by decide) (by rw [hM]; exact wf_X0_43) hv hd kk
theorem pX0_43 (hM : Θ.2.2.1.1.cls = RX0) {a : Nat} {fs : List Value} {v : Value} (he : h a = some (.inr (0, fs))) (hn : narrow (tyX0 8) v = v) (hf : fits (tyX0 8) v = true) (hl : 8 < fs.length) (hd : decode cc pc = .ok (.putfield 43, 3)) (kk : J Θ cc (upA h a (.inr (0, fs.set 8 v))) k lv (pc + 3) st) : J Θ cc h k lv pc (v :: .ref a :: st) :=
  j_put (C := RX0) (T := TX0) (N := 9) (fk := 8) he rfl inX0 tyX0 tyX0_ok nmX0 (by decide) (by rw [hM]; exact wf_X0_43) rfl (tyX0_ok 8 (by decide)) hn hf hl hd kk
theorem gX0_54 (hM : Θ.2.2.1.1.cls = RX0) {a : Nat} {fs : List Value} {v : Value} (he : h a = some (.inr (0, fs))) (hv : fs[3]? = some v) (hd : decode cc pc = .ok (.getfield 54, 3)) (kk : J Θ cc h k lv (pc + 3) (v :: st)) : J Θ cc h k lv pc (.ref a :: st) :=
  j_get (C := RX0) (T := TX0) (N := 9) (fk := 3) he rfl inX0 (by decide) (by rw [hM]; exact wf_X0_54) hv hd kk
theorem pX0_54 (hM : Θ.2.2.1.1.cls = RX0) {a : Nat} {fs : List Value} {v : Value} (he : h a = some (.inr (0, fs))) (hn : narrow (tyX0 3) v = v) (hf : fits (tyX0 3) v = true) (hl : 3 < fs.length) (hd : decode cc pc = .ok (.putfield 54, 3)) (kk : J Θ cc (upA h a (.inr (0, fs.set 3 v))) k lv (pc + 3) st) : J Θ cc h k lv pc (v :: .ref a :: st) :=
  j_put (C := RX0) (T := TX0) (N := 9) (fk := 3) he rfl inX0 tyX0 tyX0_ok nmX0 (by decide) (by rw [hM]; exact wf_X0_54) rfl (tyX0_ok 3 (by decide)) hn hf hl hd kk
theorem gX0_58 (hM : Θ.2.2.1.1.cls = RX0) {a : Nat} {fs : List Value} {v : Value} (he : h a = some (.inr (0, fs))) (hv : fs[4]? = some v) (hd : decode cc pc = .ok (.getfield 58, 3)) (kk : J Θ cc h k lv (pc + 3) (v :: st)) : J Θ cc h k lv pc (.ref a :: st) :=
  j_get (C := RX0) (T := TX0) (N := 9) (fk := 4) he rfl inX0 (by decide) (by rw [hM]; exact wf_X0_58) hv hd kk
theorem pX0_58 (hM : Θ.2.2.1.1.cls = RX0) {a : Nat} {fs : List Value} {v : Value} (he : h a = some (.inr (0, fs))) (hn : narrow (tyX0 4) v = v) (hf : fits (tyX0 4) v = true) (hl : 4 < fs.length) (hd : decode cc pc = .ok (.putfield 58, 3)) (kk : J Θ cc (upA h a (.inr (0, fs.set 4 v))) k lv (pc + 3) st) : J Θ cc h k lv pc (v :: .ref a :: st) :=
  j_put (C := RX0) (T := TX0) (N := 9) (fk := 4) he rfl inX0 tyX0 tyX0_ok nmX0 (by decide) (by rw [hM]; exact wf_X0_58) rfl (tyX0_ok 4 (by decide)) hn hf hl hd kk
theorem gX0_61 (hM : Θ.2.2.1.1.cls = RX0) {a : Nat} {fs : List Value} {v : Value} (he : h a = some (.inr (2, fs))) (hv : fs[4]? = some v) (hd : decode cc pc = .ok (.getfield 61, 3)) (kk : J Θ cc h k lv (pc + 3) (v :: st)) : J Θ cc h k lv pc (.ref a :: st) :=
  j_get (C := RX2) (T := TX2) (N := 6) (fk := 4) he rfl inX2 (by decide) (by rw [hM]; exact wf_X0_61) hv hd kk
theorem gX0_64 (hM : Θ.2.2.1.1.cls = RX0) {a : Nat} {fs : List Value} {v : Value} (he : h a = some (.inr (2, fs))) (hv : fs[2]? = some v) (hd : decode cc pc = .ok (.getfield 64, 3)) (kk : J Θ cc h k lv (pc + 3) (v :: st)) : J Θ cc h k lv pc (.ref a :: st) :=
  j_get (C := RX2) (T := TX2) (N := 6) (fk := 2) he rfl inX2 (by decide) (by rw [hM]; exact wf_X0_64) hv hd kk
theorem gX0_67 (hM : Θ.2.2.1.1.cls = RX0) {a : Nat} {fs : List Value} {v : Value} (he : h a = some (.inr (2, fs))) (hv : fs[3]? = some v) (hd : decode cc pc = .ok (.getfield 67, 3)) (kk : J Θ cc h k lv (pc + 3) (v :: st)) : J Θ cc h k lv pc (.ref a :: st) :=
  j_get (C := RX2) (T := TX2) (N := 6) (fk := 3) he rfl inX2 (by decide) (by rw [hM]; exact wf_X0_67) hv hd kk
theorem gX1_13 (hM : Θ.2.2.1.1.cls = RX1) {a : Nat} {fs : List Value} {v : Value} (he : h a = some (.inr (1, fs))) (hv : fs[0]? = some v) (hd : decode cc pc = .ok (.getfield 13, 3)) (kk : J Θ cc h k lv (pc + 3) (v :: st)) : J Θ cc h k lv pc (.ref a :: st) :=
  j_get (C := RX1) (T := TX1) (N := 12) (fk := 0) he rfl inX1 (by decide) (by rw [hM]; exact wf_X1_13) hv hd kk
theorem pX1_13 (hM : Θ.2.2.1.1.cls = RX1) (hi : Θ.2.2.1.1.name = "<init>") {a : Nat} {fs : List Value} {v : Value} (he : h a = some (.inr (1, fs))) (hn : narrow (tyX1 0) v = v) (hf : fits (tyX1 0) v = true) (hl : 0 < fs.length) (hd : decode cc pc = .ok (.putfield 13, 3)) (kk : J Θ cc (upA h a (.inr (1, fs.set 0 v))) k lv (pc + 3) st) : J Θ cc h k lv pc (v :: .ref a :: st) :=
  j_putF (C := RX1) (T := TX1) (N := 12) (fk := 0) he rfl inX1 tyX1 tyX1_ok nmX1 (by decide) (by rw [hM]; exact wf_X1_13) rfl hi (by rw [hM]; rfl) (tyX1_ok 0 (by decide)) hn hf hl hd kk
theorem gX1_19 (hM : Θ.2.2.1.1.cls = RX1) {a : Nat} {fs : List Value} {v : Value} (he : h a = some (.inr (1, fs))) (hv : fs[4]? = some v) (hd : decode cc pc = .ok (.getfield 19, 3)) (kk : J Θ cc h k lv (pc + 3) (v :: st)) : J Θ cc h k lv pc (.ref a :: st) :=
  j_get (C := RX1) (T := TX1) (N := 12) (fk := 4) he rfl inX1 (by decide) (by rw [hM]; exact wf_X1_19) hv hd kk
theorem pX1_19 (hM : Θ.2.2.1.1.cls = RX1) {a : Nat} {fs : List Value} {v : Value} (he : h a = some (.inr (1, fs))) (hn : narrow (tyX1 4) v = v) (hf : fits (tyX1 4) v = true) (hl : 4 < fs.length) (hd : decode cc pc = .ok (.putfield 19, 3)) (kk : J Θ cc (upA h a (.inr (1, fs.set 4 v))) k lv (pc + 3) st) : J Θ cc h k lv pc (v :: .ref a :: st) :=
  j_put (C := RX1) (T := TX1) (N := 12) (fk := 4) he rfl inX1 tyX1 tyX1_ok nmX1 (by decide) (by rw [hM]; exact wf_X1_19) rfl (tyX1_ok 4 (by decide)) hn hf hl hd kk
theorem gX1_23 (hM : Θ.2.2.1.1.cls = RX1) {a : Nat} {fs : List Value} {v : Value} (he : h a = some (.inr (1, fs))) (hv : fs[5]? = some v) (hd : decode cc pc = .ok (.getfield 23, 3)) (kk : J Θ cc h k lv (pc + 3) (v :: st)) : J Θ cc h k lv pc (.ref a :: st) :=
  j_get (C := RX1) (T := TX1) (N := 12) (fk := 5) he rfl inX1 (by decide) (by rw [hM]; exact wf_X1_23) hv hd kk
theorem pX1_23 (hM : Θ.2.2.1.1.cls = RX1) (hi : Θ.2.2.1.1.name = "<init>") {a : Nat} {fs : List Value} {v : Value} (he : h a = some (.inr (1, fs))) (hn : narrow (tyX1 5) v = v) (hf : fits (tyX1 5) v = true) (hl : 5 < fs.length) (hd : decode cc pc = .ok (.putfield 23, 3)) (kk : J Θ cc (upA h a (.inr (1, fs.set 5 v))) k lv (pc + 3) st) : J Θ cc h k lv pc (v :: .ref a :: st) :=
  j_putF (C := RX1) (T := TX1) (N := 12) (fk := 5) he rfl inX1 tyX1 tyX1_ok nmX1 (by decide) (by rw [hM]; exact wf_X1_23) rfl hi (by rw [hM]; rfl) (tyX1_ok 5 (by decide)) hn hf hl hd kk
theorem gX1_26 (hM : Θ.2.2.1.1.cls = RX1) {a : Nat} {fs : List Value} {v : Value} (he : h a = some (.inr (1, fs))) (hv : fs[7]? = some v) (hd : decode cc pc = .ok (.getfield 26, 3)) (kk : J Θ cc h k lv (pc + 3) (v :: st)) : J Θ cc h k lv pc (.ref a :: st) :=
  j_get (C := RX1) (T := TX1) (N := 12) (fk := 7) he rfl inX1 (by decide) (by rw [hM]; exact wf_X1_26) hv hd kk
theorem pX1_26 (hM : Θ.2.2.1.1.cls = RX1) (hi : Θ.2.2.1.1.name = "<init>") {a : Nat} {fs : List Value} {v : Value} (he : h a = some (.inr (1, fs))) (hn : narrow (tyX1 7) v = v) (hf : fits (tyX1 7) v = true) (hl : 7 < fs.length) (hd : decode cc pc = .ok (.putfield 26, 3)) (kk : J Θ cc (upA h a (.inr (1, fs.set 7 v))) k lv (pc + 3) st) : J Θ cc h k lv pc (v :: .ref a :: st) :=
  j_putF (C := RX1) (T := TX1) (N := 12) (fk := 7) he rfl inX1 tyX1 tyX1_ok nmX1 (by decide) (by rw [hM]; exact wf_X1_26) rfl hi (by rw [hM]; rfl) (tyX1_ok 7 (by decide)) hn hf hl hd kk
theorem gX1_29 (hM : Θ.2.2.1.1.cls = RX1) {a : Nat} {fs : List Value} {v : Value} (he : h a = some (.inr (1, fs))) (hv : fs[8]? = some v) (hd : decode cc pc = .ok (.getfield 29, 3)) (kk : J Θ cc h k lv (pc + 3) (v :: st)) : J Θ cc h k lv pc (.ref a :: st) :=
  j_get (C := RX1) (T := TX1) (N := 12) (fk := 8) he rfl inX1 (by decide) (by rw [hM]; exact wf_X1_29) hv hd kk
theorem pX1_29 (hM : Θ.2.2.1.1.cls = RX1) (hi : Θ.2.2.1.1.name = "<init>") {a : Nat} {fs : List Value} {v : Value} (he : h a = some (.inr (1, fs))) (hn : narrow (tyX1 8) v = v) (hf : fits (tyX1 8) v = true) (hl : 8 < fs.length) (hd : decode cc pc = .ok (.putfield 29, 3)) (kk : J Θ cc (upA h a (.inr (1, fs.set 8 v))) k lv (pc + 3) st) : J Θ cc h k lv pc (v :: .ref a :: st) :=
  j_putF (C := RX1) (T := TX1) (N := 12) (fk := 8) he rfl inX1 tyX1 tyX1_ok nmX1 (by decide) (by rw [hM]; exact wf_X1_29) rfl hi (by rw [hM]; rfl) (tyX1_ok 8 (by decide)) hn hf hl hd kk
theorem gX1_32 (hM : Θ.2.2.1.1.cls = RX1) {a : Nat} {fs : List Value} {v : Value} (he : h a = some (.inr (1, fs))) (hv : fs[9]? = some v) (hd : decode cc pc = .ok (.getfield 32, 3)) (kk : J Θ cc h k lv (pc + 3) (v :: st)) : J Θ cc h k lv pc (.ref a :: st) :=
  j_get (C := RX1) (T := TX1) (N := 12) (fk := 9) he rfl inX1 (by decide) (by rw [hM]; exact wf_X1_32) hv hd kk
theorem pX1_32 (hM : Θ.2.2.1.1.cls = RX1) (hi : Θ.2.2.1.1.name = "<init>") {a : Nat} {fs : List Value} {v : Value} (he : h a = some (.inr (1, fs))) (hn : narrow (tyX1 9) v = v) (hf : fits (tyX1 9) v = true) (hl : 9 < fs.length) (hd : decode cc pc = .ok (.putfield 32, 3)) (kk : J Θ cc (upA h a (.inr (1, fs.set 9 v))) k lv (pc + 3) st) : J Θ cc h k lv pc (v :: .ref a :: st) :=
  j_putF (C := RX1) (T := TX1) (N := 12) (fk := 9) he rfl inX1 tyX1 tyX1_ok nmX1 (by decide) (by rw [hM]; exact wf_X1_32) rfl hi (by rw [hM]; rfl) (tyX1_ok 9 (by decide)) hn hf hl hd kk
theorem gX1_35 (hM : Θ.2.2.1.1.cls = RX1) {a : Nat} {fs : List Value} {v : Value} (he : h a = some (.inr (1, fs))) (hv : fs[10]? = some v) (hd : decode cc pc = .ok (.getfield 35, 3)) (kk : J Θ cc h k lv (pc + 3) (v :: st)) : J Θ cc h k lv pc (.ref a :: st) :=
  j_get (C := RX1) (T := TX1) (N := 12) (fk := 10) he rfl inX1 (by decide) (by rw [hM]; exact wf_X1_35) hv hd kk
theorem pX1_35 (hM : Θ.2.2.1.1.cls = RX1) (hi : Θ.2.2.1.1.name = "<init>") {a : Nat} {fs : List Value} {v : Value} (he : h a = some (.inr (1, fs))) (hn : narrow (tyX1 10) v = v) (hf : fits (tyX1 10) v = true) (hl : 10 < fs.length) (hd : decode cc pc = .ok (.putfield 35, 3)) (kk : J Θ cc (upA h a (.inr (1, fs.set 10 v))) k lv (pc + 3) st) : J Θ cc h k lv pc (v :: .ref a :: st) :=
  j_putF (C := RX1) (T := TX1) (N := 12) (fk := 10) he rfl inX1 tyX1 tyX1_ok nmX1 (by decide) (by rw [hM]; exact wf_X1_35) rfl hi (by rw [hM]; rfl) (tyX1_ok 10 (by decide)) hn hf hl hd kk
theorem gX1_39 (hM : Θ.2.2.1.1.cls = RX1) {a : Nat} {fs : List Value} {v : Value} (he : h a = some (.inr (1, fs))) (hv : fs[11]? = some v) (hd : decode cc pc = .ok (.getfield 39, 3)) (kk : J Θ cc h k lv (pc + 3) (v :: st)) : J Θ cc h k lv pc (.ref a :: st) :=
  j_get (C := RX1) (T := TX1) (N := 12) (fk := 11) he rfl inX1 (by decide) (by rw [hM]; exact wf_X1_39) hv hd kk
theorem pX1_39 (hM : Θ.2.2.1.1.cls = RX1) (hi : Θ.2.2.1.1.name = "<init>") {a : Nat} {fs : List Value} {v : Value} (he : h a = some (.inr (1, fs))) (hn : narrow (tyX1 11) v = v) (hf : fits (tyX1 11) v = true) (hl : 11 < fs.length) (hd : decode cc pc = .ok (.putfield 39, 3)) (kk : J Θ cc (upA h a (.inr (1, fs.set 11 v))) k lv (pc + 3) st) : J Θ cc h k lv pc (v :: .ref a :: st) :=
  j_putF (C := RX1) (T := TX1) (N := 12) (fk := 11) he rfl inX1 tyX1 tyX1_ok nmX1 (by decide) (by rw [hM]; exact wf_X1_39) rfl hi (by rw [hM]; rfl) (tyX1_ok 11 (by decide)) hn hf hl hd kk
theorem gX1_42 (hM : Θ.2.2.1.1.cls = RX1) {a : Nat} {fs : List Value} {v : Value} (he : h a = some (.inr (1, fs))) (hv : fs[3]? = some v) (hd : decode cc pc = .ok (.getfield 42, 3)) (kk : J Θ cc h k lv (pc + 3) (v :: st)) : J Θ cc h k lv pc (.ref a :: st) :=
  j_get (C := RX1) (T := TX1) (N := 12) (fk := 3) he rfl inX1 (by decide) (by rw [hM]; exact wf_X1_42) hv hd kk
theorem pX1_42 (hM : Θ.2.2.1.1.cls = RX1) {a : Nat} {fs : List Value} {v : Value} (he : h a = some (.inr (1, fs))) (hn : narrow (tyX1 3) v = v) (hf : fits (tyX1 3) v = true) (hl : 3 < fs.length) (hd : decode cc pc = .ok (.putfield 42, 3)) (kk : J Θ cc (upA h a (.inr (1, fs.set 3 v))) k lv (pc + 3) st) : J Θ cc h k lv pc (v :: .ref a :: st) :=
  j_put (C := RX1) (T := TX1) (N := 12) (fk := 3) he rfl inX1 tyX1 tyX1_ok nmX1 (by decide) (by rw [hM]; exact wf_X1_42) rfl (tyX1_ok 3 (by decide)) hn hf hl hd kk
theorem gX1_46 (hM : Θ.2.2.1.1.cls = RX1) {a : Nat} {fs : List Value} {v : Value} (he : h a = some (.inr (1, fs))) (hv : fs[1]? = some v) (hd : decode cc pc = .ok (.getfield 46, 3)) (kk : J Θ cc h k lv (pc + 3) (v :: st)) : J Θ cc h k lv pc (.ref a :: st) :=
  j_get (C := RX1) (T := TX1) (N := 12) (fk := 1) he rfl inX1 (by decide) (by rw [hM]; exact wf_X1_46) hv hd kk
theorem pX1_46 (hM : Θ.2.2.1.1.cls = RX1) {a : Nat} {fs : List Value} {v : Value} (he : h a = some (.inr (1, fs))) (hn : narrow (tyX1 1) v = v) (hf : fits (tyX1 1) v = true) (hl : 1 < fs.length) (hd : decode cc pc = .ok (.putfield 46, 3)) (kk : J Θ cc (upA h a (.inr (1, fs.set 1 v))) k lv (pc + 3) st) : J Θ cc h k lv pc (v :: .ref a :: st) :=
  j_put (C := RX1) (T := TX1) (N := 12) (fk := 1) he rfl inX1 tyX1 tyX1_ok nmX1 (by decide) (by rw [hM]; exact wf_X1_46) rfl (tyX1_ok 1 (by decide)) hn hf hl hd kk
theorem gX1_50 (hM : Θ.2.2.1.1.cls = RX1) {a : Nat} {fs : List Value} {v : Value} (he : h a = some (.inr (1, fs))) (hv : fs[2]? = some v) (hd : decode cc pc = .ok (.getfield 50, 3)) (kk : J Θ cc h k lv (pc + 3) (v :: st)) : J Θ cc h k lv pc (.ref a :: st) :=
  j_get (C := RX1) (T := TX1) (N := 12) (fk := 2) he rfl inX1 (by decide) (by rw [hM]; exact wf_X1_50) hv hd kk
theorem pX1_50 (hM : Θ.2.2.1.1.cls = RX1) {a : Nat} {fs : List Value} {v : Value} (he : h a = some (.inr (1, fs))) (hn : narrow (tyX1 2) v = v) (hf : fits (tyX1 2) v = true) (hl : 2 < fs.length) (hd : decode cc pc = .ok (.putfield 50, 3)) (kk : J Θ cc (upA h a (.inr (1, fs.set 2 v))) k lv (pc + 3) st) : J Θ cc h k lv pc (v :: .ref a :: st) :=
  j_put (C := RX1) (T := TX1) (N := 12) (fk := 2) he rfl inX1 tyX1 tyX1_ok nmX1 (by decide) (by rw [hM]; exact wf_X1_50) rfl (tyX1_ok 2 (by decide)) hn hf hl hd kk
theorem gX1_61 (hM : Θ.2.2.1.1.cls = RX1) {a : Nat} {fs : List Value} {v : Value} (he : h a = some (.inr (1, fs))) (hv : fs[6]? = some v) (hd : decode cc pc = .ok (.getfield 61, 3)) (kk : J Θ cc h k lv (pc + 3) (v :: st)) : J Θ cc h k lv pc (.ref a :: st) :=
  j_get (C := RX1) (T := TX1) (N := 12) (fk := 6) he rfl inX1 (by decide) (by rw [hM]; exact wf_X1_61) hv hd kk
theorem pX1_61 (hM : Θ.2.2.1.1.cls = RX1) {a : Nat} {fs : List Value} {v : Value} (he : h a = some (.inr (1, fs))) (hn : narrow (tyX1 6) v = v) (hf : fits (tyX1 6) v = true) (hl : 6 < fs.length) (hd : decode cc pc = .ok (.putfield 61, 3)) (kk : J Θ cc (upA h a (.inr (1, fs.set 6 v))) k lv (pc + 3) st) : J Θ cc h k lv pc (v :: .ref a :: st) :=
  j_put (C := RX1) (T := TX1) (N := 12) (fk := 6) he rfl inX1 tyX1 tyX1_ok nmX1 (by decide) (by rw [hM]; exact wf_X1_61) rfl (tyX1_ok 6 (by decide)) hn hf hl hd kk
theorem gX1_74 (hM : Θ.2.2.1.1.cls = RX1) {a : Nat} {fs : List Value} {v : Value} (he : h a = some (.inr (0, fs))) (hv : fs[4]? = some v) (hd : decode cc pc = .ok (.getfield 74, 3)) (kk : J Θ cc h k lv (pc + 3) (v :: st)) : J Θ cc h k lv pc (.ref a :: st) :=
  j_get (C := RX0) (T := TX0) (N := 9) (fk := 4) he rfl inX0 (by decide) (by rw [hM]; exact wf_X1_74) hv hd kk
theorem pX1_74 (hM : Θ.2.2.1.1.cls = RX1) {a : Nat} {fs : List Value} {v : Value} (he : h a = some (.inr (0, fs))) (hn : narrow (tyX0 4) v = v) (hf : fits (tyX0 4) v = true) (hl : 4 < fs.length) (hd : decode cc pc = .ok (.putfield 74, 3)) (kk : J Θ cc (upA h a (.inr (0, fs.set 4 v))) k lv (pc + 3) st) : J Θ cc h k lv pc (v :: .ref a :: st) :=
  j_put (C := RX0) (T := TX0) (N := 9) (fk := 4) he rfl inX0 tyX0 tyX0_ok nmX0 (by decide) (by rw [hM]; exact wf_X1_74) rfl (tyX0_ok 4 (by decide)) hn hf hl hd kk
theorem gX2_9 (hM : Θ.2.2.1.1.cls = RX2) {a : Nat} {fs : List Value} {v : Value} (he : h a = some (.inr (2, fs))) (hv : fs[0]? = some v) (hd : decode cc pc = .ok (.getfield 9, 3)) (kk : J Θ cc h k lv (pc + 3) (v :: st)) : J Θ cc h k lv pc (.ref a :: st) :=
  j_get (C := RX2) (T := TX2) (N := 6) (fk := 0) he rfl inX2 (by decide) (by rw [hM]; exact wf_X2_9) hv hd kk
theorem pX2_9 (hM : Θ.2.2.1.1.cls = RX2) (hi : Θ.2.2.1.1.name = "<init>") {a : Nat} {fs : List Value} {v : Value} (he : h a = some (.inr (2, fs))) (hn : narrow (tyX2 0) v = v) (hf : fits (tyX2 0) v = true) (hl : 0 < fs.length) (hd : decode cc pc = .ok (.putfield 9, 3)) (kk : J Θ cc (upA h a (.inr (2, fs.set 0 v))) k lv (pc + 3) st) : J Θ cc h k lv pc (v :: .ref a :: st) :=
  j_putF (C := RX2) (T := TX2) (N := 6) (fk := 0) he rfl inX2 tyX2 tyX2_ok nmX2 (by decide) (by rw [hM]; exact wf_X2_9) rfl hi (by rw [hM]; rfl) (tyX2_ok 0 (by decide)) hn hf hl hd kk
theorem gX2_15 (hM : Θ.2.2.1.1.cls = RX2) {a : Nat} {fs : List Value} {v : Value} (he : h a = some (.inr (2, fs))) (hv : fs[1]? = some v) (hd : decode cc pc = .ok (.getfield 15, 3)) (kk : J Θ cc h k lv (pc + 3) (v :: st)) : J Θ cc h k lv pc (.ref a :: st) :=
  j_get (C := RX2) (T := TX2) (N := 6) (fk := 1) he rfl inX2 (by decide) (by rw [hM]; exact wf_X2_15) hv hd kk
theorem pX2_15 (hM : Θ.2.2.1.1.cls = RX2) (hi : Θ.2.2.1.1.name = "<init>") {a : Nat} {fs : List Value} {v : Value} (he : h a = some (.inr (2, fs))) (hn : narrow (tyX2 1) v = v) (hf : fits (tyX2 1) v = true) (hl : 1 < fs.length) (hd : decode cc pc = .ok (.putfield 15, 3)) (kk : J Θ cc (upA h a (.inr (2, fs.set 1 v))) k lv (pc + 3) st) : J Θ cc h k lv pc (v :: .ref a :: st) :=
  j_putF (C := RX2) (T := TX2) (N := 6) (fk := 1) he rfl inX2 tyX2 tyX2_ok nmX2 (by decide) (by rw [hM]; exact wf_X2_15) rfl hi (by rw [hM]; rfl) (tyX2_ok 1 (by decide)) hn hf hl hd kk
theorem gX2_19 (hM : Θ.2.2.1.1.cls = RX2) {a : Nat} {fs : List Value} {v : Value} (he : h a = some (.inr (2, fs))) (hv : fs[2]? = some v) (hd : decode cc pc = .ok (.getfield 19, 3)) (kk : J Θ cc h k lv (pc + 3) (v :: st)) : J Θ cc h k lv pc (.ref a :: st) :=
  j_get (C := RX2) (T := TX2) (N := 6) (fk := 2) he rfl inX2 (by decide) (by rw [hM]; exact wf_X2_19) hv hd kk
theorem pX2_19 (hM : Θ.2.2.1.1.cls = RX2) (hi : Θ.2.2.1.1.name = "<init>") {a : Nat} {fs : List Value} {v : Value} (he : h a = some (.inr (2, fs))) (hn : narrow (tyX2 2) v = v) (hf : fits (tyX2 2) v = true) (hl : 2 < fs.length) (hd : decode cc pc = .ok (.putfield 19, 3)) (kk : J Θ cc (upA h a (.inr (2, fs.set 2 v))) k lv (pc + 3) st) : J Θ cc h k lv pc (v :: .ref a :: st) :=
  j_putF (C := RX2) (T := TX2) (N := 6) (fk := 2) he rfl inX2 tyX2 tyX2_ok nmX2 (by decide) (by rw [hM]; exact wf_X2_19) rfl hi (by rw [hM]; rfl) (tyX2_ok 2 (by decide)) hn hf hl hd kk
theorem gX2_22 (hM : Θ.2.2.1.1.cls = RX2) {a : Nat} {fs : List Value} {v : Value} (he : h a = some (.inr (2, fs))) (hv : fs[3]? = some v) (hd : decode cc pc = .ok (.getfield 22, 3)) (kk : J Θ cc h k lv (pc + 3) (v :: st)) : J Θ cc h k lv pc (.ref a :: st) :=
  j_get (C := RX2) (T := TX2) (N := 6) (fk := 3) he rfl inX2 (by decide) (by rw [hM]; exact wf_X2_22) hv hd kk
theorem pX2_22 (hM : Θ.2.2.1.1.cls = RX2) (hi : Θ.2.2.1.1.name = "<init>") {a : Nat} {fs : List Value} {v : Value} (he : h a = some (.inr (2, fs))) (hn : narrow (tyX2 3) v = v) (hf : fits (tyX2 3) v = true) (hl : 3 < fs.length) (hd : decode cc pc = .ok (.putfield 22, 3)) (kk : J Θ cc (upA h a (.inr (2, fs.set 3 v))) k lv (pc + 3) st) : J Θ cc h k lv pc (v :: .ref a :: st) :=
  j_putF (C := RX2) (T := TX2) (N := 6) (fk := 3) he rfl inX2 tyX2 tyX2_ok nmX2 (by decide) (by rw [hM]; exact wf_X2_22) rfl hi (by rw [hM]; rfl) (tyX2_ok 3 (by decide)) hn hf hl hd kk
theorem gX2_25 (hM : Θ.2.2.1.1.cls = RX2) {a : Nat} {fs : List Value} {v : Value} (he : h a = some (.inr (2, fs))) (hv : fs[4]? = some v) (hd : decode cc pc = .ok (.getfield 25, 3)) (kk : J Θ cc h k lv (pc + 3) (v :: st)) : J Θ cc h k lv pc (.ref a :: st) :=
  j_get (C := RX2) (T := TX2) (N := 6) (fk := 4) he rfl inX2 (by decide) (by rw [hM]; exact wf_X2_25) hv hd kk
theorem pX2_25 (hM : Θ.2.2.1.1.cls = RX2) (hi : Θ.2.2.1.1.name = "<init>") {a : Nat} {fs : List Value} {v : Value} (he : h a = some (.inr (2, fs))) (hn : narrow (tyX2 4) v = v) (hf : fits (tyX2 4) v = true) (hl : 4 < fs.length) (hd : decode cc pc = .ok (.putfield 25, 3)) (kk : J Θ cc (upA h a (.inr (2, fs.set 4 v))) k lv (pc + 3) st) : J Θ cc h k lv pc (v :: .ref a :: st) :=
  j_putF (C := RX2) (T := TX2) (N := 6) (fk := 4) he rfl inX2 tyX2 tyX2_ok nmX2 (by decide) (by rw [hM]; exact wf_X2_25) rfl hi (by rw [hM]; rfl) (tyX2_ok 4 (by decide)) hn hf hl hd kk
theorem gX2_28 (hM : Θ.2.2.1.1.cls = RX2) {a : Nat} {fs : List Value} {v : Value} (he : h a = some (.inr (2, fs))) (hv : fs[5]? = some v) (hd : decode cc pc = .ok (.getfield 28, 3)) (kk : J Θ cc h k lv (pc + 3) (v :: st)) : J Θ cc h k lv pc (.ref a :: st) :=
  j_get (C := RX2) (T := TX2) (N := 6) (fk := 5) he rfl inX2 (by decide) (by rw [hM]; exact wf_X2_28) hv hd kk
theorem pX2_28 (hM : Θ.2.2.1.1.cls = RX2) (hi : Θ.2.2.1.1.name = "<init>") {a : Nat} {fs : List Value} {v : Value} (he : h a = some (.inr (2, fs))) (hn : narrow (tyX2 5) v = v) (hf : fits (tyX2 5) v = true) (hl : 5 < fs.length) (hd : decode cc pc = .ok (.putfield 28, 3)) (kk : J Θ cc (upA h a (.inr (2, fs.set 5 v))) k lv (pc + 3) st) : J Θ cc h k lv pc (v :: .ref a :: st) :=
  j_putF (C := RX2) (T := TX2) (N := 6) (fk := 5) he rfl inX2 tyX2 tyX2_ok nmX2 (by decide) (by rw [hM]; exact wf_X2_28) rfl hi (by rw [hM]; rfl) (tyX2_ok 5 (by decide)) hn hf hl hd kk
theorem gX3_9 (hM : Θ.2.2.1.1.cls = RX3) {a : Nat} {fs : List Value} {v : Value} (he : h a = some (.inr (3, fs))) (hv : fs[0]? = some v) (hd : decode cc pc = .ok (.getfield 9, 3)) (kk : J Θ cc h k lv (pc + 3) (v :: st)) : J Θ cc h k lv pc (.ref a :: st) :=
  j_get (C := RX3) (T := TX3) (N := 7) (fk := 0) he rfl inX3 (by decide) (by rw [hM]; exact wf_X3_9) hv hd kk
theorem pX3_9 (hM : Θ.2.2.1.1.cls = RX3) (hi : Θ.2.2.1.1.name = "<init>") {a : Nat} {fs : List Value} {v : Value} (he : h a = some (.inr (3, fs))) (hn : narrow (tyX3 0) v = v) (hf : fits (tyX3 0) v = true) (hl : 0 < fs.length) (hd : decode cc pc = .ok (.putfield 9, 3)) (kk : J Θ cc (upA h a (.inr (3, fs.set 0 v))) k lv (pc + 3) st) : J Θ cc h k lv pc (v :: .ref a :: st) :=
  j_putF (C := RX3) (T := TX3) (N := 7) (fk := 0) he rfl inX3 tyX3 tyX3_ok nmX3 (by decide) (by rw [hM]; exact wf_X3_9) rfl hi (by rw [hM]; rfl) (tyX3_ok 0 (by decide)) hn hf hl hd kk
theorem gX3_15 (hM : Θ.2.2.1.1.cls = RX3) {a : Nat} {fs : List Value} {v : Value} (he : h a = some (.inr (3, fs))) (hv : fs[1]? = some v) (hd : decode cc pc = .ok (.getfield 15, 3)) (kk : J Θ cc h k lv (pc + 3) (v :: st)) : J Θ cc h k lv pc (.ref a :: st) :=
  j_get (C := RX3) (T := TX3) (N := 7) (fk := 1) he rfl inX3 (by decide) (by rw [hM]; exact wf_X3_15) hv hd kk
theorem pX3_15 (hM : Θ.2.2.1.1.cls = RX3) (hi : Θ.2.2.1.1.name = "<init>") {a : Nat} {fs : List Value} {v : Value} (he : h a = some (.inr (3, fs))) (hn : narrow (tyX3 1) v = v) (hf : fits (tyX3 1) v = true) (hl : 1 < fs.length) (hd : decode cc pc = .ok (.putfield 15, 3)) (kk : J Θ cc (upA h a (.inr (3, fs.set 1 v))) k lv (pc + 3) st) : J Θ cc h k lv pc (v :: .ref a :: st) :=
  j_putF (C := RX3) (T := TX3) (N := 7) (fk := 1) he rfl inX3 tyX3 tyX3_ok nmX3 (by decide) (by rw [hM]; exact wf_X3_15) rfl hi (by rw [hM]; rfl) (tyX3_ok 1 (by decide)) hn hf hl hd kk
theorem gX3_24 (hM : Θ.2.2.1.1.cls = RX3) {a : Nat} {fs : List Value} {v : Value} (he : h a = some (.inr (3, fs))) (hv : fs[3]? = some v) (hd : decode cc pc = .ok (.getfield 24, 3)) (kk : J Θ cc h k lv (pc + 3) (v :: st)) : J Θ cc h k lv pc (.ref a :: st) :=
  j_get (C := RX3) (T := TX3) (N := 7) (fk := 3) he rfl inX3 (by decide) (by rw [hM]; exact wf_X3_24) hv hd kk
theorem pX3_24 (hM : Θ.2.2.1.1.cls = RX3) (hi : Θ.2.2.1.1.name = "<init>") {a : Nat} {fs : List Value} {v : Value} (he : h a = some (.inr (3, fs))) (hn : narrow (tyX3 3) v = v) (hf : fits (tyX3 3) v = true) (hl : 3 < fs.length) (hd : decode cc pc = .ok (.putfield 24, 3)) (kk : J Θ cc (upA h a (.inr (3, fs.set 3 v))) k lv (pc + 3) st) : J Θ cc h k lv pc (v :: .ref a :: st) :=
  j_putF (C := RX3) (T := TX3) (N := 7) (fk := 3) he rfl inX3 tyX3 tyX3_ok nmX3 (by decide) (by rw [hM]; exact wf_X3_24) rfl hi (by rw [hM]; rfl) (tyX3_ok 3 (by decide)) hn hf hl hd kk
theorem gX3_27 (hM : Θ.2.2.1.1.cls = RX3) {a : Nat} {fs : List Value} {v : Value} (he : h a = some (.inr (3, fs))) (hv : fs[4]? = some v) (hd : decode cc pc = .ok (.getfield 27, 3)) (kk : J Θ cc h k lv (pc + 3) (v :: st)) : J Θ cc h k lv pc (.ref a :: st) :=
  j_get (C := RX3) (T := TX3) (N := 7) (fk := 4) he rfl inX3 (by decide) (by rw [hM]; exact wf_X3_27) hv hd kk
theorem pX3_27 (hM : Θ.2.2.1.1.cls = RX3) (hi : Θ.2.2.1.1.name = "<init>") {a : Nat} {fs : List Value} {v : Value} (he : h a = some (.inr (3, fs))) (hn : narrow (tyX3 4) v = v) (hf : fits (tyX3 4) v = true) (hl : 4 < fs.length) (hd : decode cc pc = .ok (.putfield 27, 3)) (kk : J Θ cc (upA h a (.inr (3, fs.set 4 v))) k lv (pc + 3) st) : J Θ cc h k lv pc (v :: .ref a :: st) :=
  j_putF (C := RX3) (T := TX3) (N := 7) (fk := 4) he rfl inX3 tyX3 tyX3_ok nmX3 (by decide) (by rw [hM]; exact wf_X3_27) rfl hi (by rw [hM]; rfl) (tyX3_ok 4 (by decide)) hn hf hl hd kk
theorem gX3_30 (hM : Θ.2.2.1.1.cls = RX3) {a : Nat} {fs : List Value} {v : Value} (he : h a = some (.inr (3, fs))) (hv : fs[5]? = some v) (hd : decode cc pc = .ok (.getfield 30, 3)) (kk : J Θ cc h k lv (pc + 3) (v :: st)) : J Θ cc h k lv pc (.ref a :: st) :=
  j_get (C := RX3) (T := TX3) (N := 7) (fk := 5) he rfl inX3 (by decide) (by rw [hM]; exact wf_X3_30) hv hd kk
theorem pX3_30 (hM : Θ.2.2.1.1.cls = RX3) (hi : Θ.2.2.1.1.name = "<init>") {a : Nat} {fs : List Value} {v : Value} (he : h a = some (.inr (3, fs))) (hn : narrow (tyX3 5) v = v) (hf : fits (tyX3 5) v = true) (hl : 5 < fs.length) (hd : decode cc pc = .ok (.putfield 30, 3)) (kk : J Θ cc (upA h a (.inr (3, fs.set 5 v))) k lv (pc + 3) st) : J Θ cc h k lv pc (v :: .ref a :: st) :=
  j_putF (C := RX3) (T := TX3) (N := 7) (fk := 5) he rfl inX3 tyX3 tyX3_ok nmX3 (by decide) (by rw [hM]; exact wf_X3_30) rfl hi (by rw [hM]; rfl) (tyX3_ok 5 (by decide)) hn hf hl hd kk
theorem gX3_33 (hM : Θ.2.2.1.1.cls = RX3) {a : Nat} {fs : List Value} {v : Value} (he : h a = some (.inr (3, fs))) (hv : fs[6]? = some v) (hd : decode cc pc = .ok (.getfield 33, 3)) (kk : J Θ cc h k lv (pc + 3) (v :: st)) : J Θ cc h k lv pc (.ref a :: st) :=
  j_get (C := RX3) (T := TX3) (N := 7) (fk := 6) he rfl inX3 (by decide) (by rw [hM]; exact wf_X3_33) hv hd kk
theorem pX3_33 (hM : Θ.2.2.1.1.cls = RX3) (hi : Θ.2.2.1.1.name = "<init>") {a : Nat} {fs : List Value} {v : Value} (he : h a = some (.inr (3, fs))) (hn : narrow (tyX3 6) v = v) (hf : fits (tyX3 6) v = true) (hl : 6 < fs.length) (hd : decode cc pc = .ok (.putfield 33, 3)) (kk : J Θ cc (upA h a (.inr (3, fs.set 6 v))) k lv (pc + 3) st) : J Θ cc h k lv pc (v :: .ref a :: st) :=
  j_putF (C := RX3) (T := TX3) (N := 7) (fk := 6) he rfl inX3 tyX3 tyX3_ok nmX3 (by decide) (by rw [hM]; exact wf_X3_33) rfl hi (by rw [hM]; rfl) (tyX3_ok 6 (by decide)) hn hf hl hd kk
theorem gX3_36 (hM : Θ.2.2.1.1.cls = RX3) {a : Nat} {fs : List Value} {v : Value} (he : h a = some (.inr (3, fs))) (hv : fs[2]? = some v) (hd : decode cc pc = .ok (.getfield 36, 3)) (kk : J Θ cc h k lv (pc + 3) (v :: st)) : J Θ cc h k lv pc (.ref a :: st) :=
  j_get (C := RX3) (T := TX3) (N := 7) (fk := 2) he rfl inX3 (by decide) (by rw [hM]; exact wf_X3_36) hv hd kk
theorem pX3_36 (hM : Θ.2.2.1.1.cls = RX3) {a : Nat} {fs : List Value} {v : Value} (he : h a = some (.inr (3, fs))) (hn : narrow (tyX3 2) v = v) (hf : fits (tyX3 2) v = true) (hl : 2 < fs.length) (hd : decode cc pc = .ok (.putfield 36, 3)) (kk : J Θ cc (upA h a (.inr (3, fs.set 2 v))) k lv (pc + 3) st) : J Θ cc h k lv pc (v :: .ref a :: st) :=
  j_put (C := RX3) (T := TX3) (N := 7) (fk := 2) he rfl inX3 tyX3 tyX3_ok nmX3 (by decide) (by rw [hM]; exact wf_X3_36) rfl (tyX3_ok 2 (by decide)) hn hf hl hd kk
theorem gX3_40 (hM : Θ.2.2.1.1.cls = RX3) {a : Nat} {fs : List Value} {v : Value} (he : h a = some (.inr (0, fs))) (hv : fs[8]? = some v) (hd : decode cc pc = .ok (.getfield 40, 3)) (kk : J Θ cc h k lv (pc + 3) (v :: st)) : J Θ cc h k lv pc (.ref a :: st) :=
  j_get (C := RX0) (T := TX0) (N := 9) (fk := 8) he rfl inX0 (by decide) (by rw [hM]; exact wf_X3_40) hv hd kk
theorem pX3_40 (hM : Θ.2.2.1.1.cls = RX3) {a : Nat} {fs : List Value} {v : Value} (he : h a = some (.inr (0, fs))) (hn : narrow (tyX0 8) v = v) (hf : fits (tyX0 8) v = true) (hl : 8 < fs.length) (hd : decode cc pc = .ok (.putfield 40, 3)) (kk : J Θ cc (upA h a (.inr (0, fs.set 8 v))) k lv (pc + 3) st) : J Θ cc h k lv pc (v :: .ref a :: st) :=
  j_put (C := RX0) (T := TX0) (N := 9) (fk := 8) he rfl inX0 tyX0 tyX0_ok nmX0 (by decide) (by rw [hM]; exact wf_X3_40) rfl (tyX0_ok 8 (by decide)) hn hf hl hd kk
theorem gX3_45 (hM : Θ.2.2.1.1.cls = RX3) {a : Nat} {fs : List Value} {v : Value} (he : h a = some (.inr (0, fs))) (hv : fs[7]? = some v) (hd : decode cc pc = .ok (.getfield 45, 3)) (kk : J Θ cc h k lv (pc + 3) (v :: st)) : J Θ cc h k lv pc (.ref a :: st) :=
  j_get (C := RX0) (T := TX0) (N := 9) (fk := 7) he rfl inX0 (by decide) (by rw [hM]; exact wf_X3_45) hv hd kk
theorem pX3_45 (hM : Θ.2.2.1.1.cls = RX3) {a : Nat} {fs : List Value} {v : Value} (he : h a = some (.inr (0, fs))) (hn : narrow (tyX0 7) v = v) (hf : fits (tyX0 7) v = true) (hl : 7 < fs.length) (hd : decode cc pc = .ok (.putfield 45, 3)) (kk : J Θ cc (upA h a (.inr (0, fs.set 7 v))) k lv (pc + 3) st) : J Θ cc h k lv pc (v :: .ref a :: st) :=
  j_put (C := RX0) (T := TX0) (N := 9) (fk := 7) he rfl inX0 tyX0 tyX0_ok nmX0 (by decide) (by rw [hM]; exact wf_X3_45) rfl (tyX0_ok 7 (by decide)) hn hf hl hd kk
theorem gX3_48 (hM : Θ.2.2.1.1.cls = RX3) {a : Nat} {fs : List Value} {v : Value} (he : h a = some (.inr (0, fs))) (hv : fs[6]? = some v) (hd : decode cc pc = .ok (.getfield 48, 3)) (kk : J Θ cc h k lv (pc + 3) (v :: st)) : J Θ cc h k lv pc (.ref a :: st) :=
  j_get (C := RX0) (T := TX0) (N := 9) (fk := 6) he rfl inX0 (by decide) (by rw [hM]; exact wf_X3_48) hv hd kk
theorem gX5_7 (hM : Θ.2.2.1.1.cls = RX5) {a : Nat} {fs : List Value} {v : Value} (he : h a = some (.inr (5, fs))) (hv : fs[1]? = some v) (hd : decode cc pc = .ok (.getfield 7, 3)) (kk : J Θ cc h k lv (pc + 3) (v :: st)) : J Θ cc h k lv pc (.ref a :: st) :=
  j_get (C := RX5) (T := TX5) (N := 33) (fk := 1) he rfl inX5 (by decide) (by rw [hM]; exact wf_X5_7) hv hd kk
theorem pX5_7 (hM : Θ.2.2.1.1.cls = RX5) (hi : Θ.2.2.1.1.name = "<init>") {a : Nat} {fs : List Value} {v : Value} (he : h a = some (.inr (5, fs))) (hn : narrow (tyX5 1) v = v) (hf : fits (tyX5 1) v = true) (hl : 1 < fs.length) (hd : decode cc pc = .ok (.putfield 7, 3)) (kk : J Θ cc (upA h a (.inr (5, fs.set 1 v))) k lv (pc + 3) st) : J Θ cc h k lv pc (v :: .ref a :: st) :=
  j_putF (C := RX5) (T := TX5) (N := 33) (fk := 1) he rfl inX5 tyX5 tyX5_ok nmX5 (by decide) (by rw [hM]; exact wf_X5_7) rfl hi (by rw [hM]; rfl) (tyX5_ok 1 (by decide)) hn hf hl hd kk
theorem gX5_13 (hM : Θ.2.2.1.1.cls = RX5) {a : Nat} {fs : List Value} {v : Value} (he : h a = some (.inr (5, fs))) (hv : fs[2]? = some v) (hd : decode cc pc = .ok (.getfield 13, 3)) (kk : J Θ cc h k lv (pc + 3) (v :: st)) : J Θ cc h k lv pc (.ref a :: st) :=
  j_get (C := RX5) (T := TX5) (N := 33) (fk := 2) he rfl inX5 (by decide) (by rw [hM]; exact wf_X5_13) hv hd kk
theorem pX5_13 (hM : Θ.2.2.1.1.cls = RX5) (hi : Θ.2.2.1.1.name = "<init>") {a : Nat} {fs : List Value} {v : Value} (he : h a = some (.inr (5, fs))) (hn : narrow (tyX5 2) v = v) (hf : fits (tyX5 2) v = true) (hl : 2 < fs.length) (hd : decode cc pc = .ok (.putfield 13, 3)) (kk : J Θ cc (upA h a (.inr (5, fs.set 2 v))) k lv (pc + 3) st) : J Θ cc h k lv pc (v :: .ref a :: st) :=
  j_putF (C := RX5) (T := TX5) (N := 33) (fk := 2) he rfl inX5 tyX5 tyX5_ok nmX5 (by decide) (by rw [hM]; exact wf_X5_13) rfl hi (by rw [hM]; rfl) (tyX5_ok 2 (by decide)) hn hf hl hd kk
theorem gX5_16 (hM : Θ.2.2.1.1.cls = RX5) {a : Nat} {fs : List Value} {v : Value} (he : h a = some (.inr (5, fs))) (hv : fs[3]? = some v) (hd : decode cc pc = .ok (.getfield 16, 3)) (kk : J Θ cc h k lv (pc + 3) (v :: st)) : J Θ cc h k lv pc (.ref a :: st) :=
  j_get (C := RX5) (T := TX5) (N := 33) (fk := 3) he rfl inX5 (by decide) (by rw [hM]; exact wf_X5_16) hv hd kk
theorem pX5_16 (hM : Θ.2.2.1.1.cls = RX5) (hi : Θ.2.2.1.1.name = "<init>") {a : Nat} {fs : List Value} {v : Value} (he : h a = some (.inr (5, fs))) (hn : narrow (tyX5 3) v = v) (hf : fits (tyX5 3) v = true) (hl : 3 < fs.length) (hd : decode cc pc = .ok (.putfield 16, 3)) (kk : J Θ cc (upA h a (.inr (5, fs.set 3 v))) k lv (pc + 3) st) : J Θ cc h k lv pc (v :: .ref a :: st) :=
  j_putF (C := RX5) (T := TX5) (N := 33) (fk := 3) he rfl inX5 tyX5 tyX5_ok nmX5 (by decide) (by rw [hM]; exact wf_X5_16) rfl hi (by rw [hM]; rfl) (tyX5_ok 3 (by decide)) hn hf hl hd kk
theorem gX5_19 (hM : Θ.2.2.1.1.cls = RX5) {a : Nat} {fs : List Value} {v : Value} (he : h a = some (.inr (5, fs))) (hv : fs[4]? = some v) (hd : decode cc pc = .ok (.getfield 19, 3)) (kk : J Θ cc h k lv (pc + 3) (v :: st)) : J Θ cc h k lv pc (.ref a :: st) :=
  j_get (C := RX5) (T := TX5) (N := 33) (fk := 4) he rfl inX5 (by decide) (by rw [hM]; exact wf_X5_19) hv hd kk
theorem pX5_19 (hM : Θ.2.2.1.1.cls = RX5) (hi : Θ.2.2.1.1.name = "<init>") {a : Nat} {fs : List Value} {v : Value} (he : h a = some (.inr (5, fs))) (hn : narrow (tyX5 4) v = v) (hf : fits (tyX5 4) v = true) (hl : 4 < fs.length) (hd : decode cc pc = .ok (.putfield 19, 3)) (kk : J Θ cc (upA h a (.inr (5, fs.set 4 v))) k lv (pc + 3) st) : J Θ cc h k lv pc (v :: .ref a :: st) :=
  j_putF (C := RX5) (T := TX5) (N := 33) (fk := 4) he rfl inX5 tyX5 tyX5_ok nmX5 (by decide) (by rw [hM]; exact wf_X5_19) rfl hi (by rw [hM]; rfl) (tyX5_ok 4 (by decide)) hn hf hl hd kk
theorem gX5_22 (hM : Θ.2.2.1.1.cls = RX5) {a : Nat} {fs : List Value} {v : Value} (he : h a = some (.inr (5, fs))) (hv : fs[5]? = some v) (hd : decode cc pc = .ok (.getfield 22, 3)) (kk : J Θ cc h k lv (pc + 3) (v :: st)) : J Θ cc h k lv pc (.ref a :: st) :=
  j_get (C := RX5) (T := TX5) (N := 33) (fk := 5) he rfl inX5 (by decide) (by rw [hM]; exact wf_X5_22) hv hd kk
theorem pX5_22 (hM : Θ.2.2.1.1.cls = RX5) (hi : Θ.2.2.1.1.name = "<init>") {a : Nat} {fs : List Value} {v : Value} (he : h a = some (.inr (5, fs))) (hn : narrow (tyX5 5) v = v) (hf : fits (tyX5 5) v = true) (hl : 5 < fs.length) (hd : decode cc pc = .ok (.putfield 22, 3)) (kk : J Θ cc (upA h a (.inr (5, fs.set 5 v))) k lv (pc + 3) st) : J Θ cc h k lv pc (v :: .ref a :: st) :=
  j_putF (C := RX5) (T := TX5) (N := 33) (fk := 5) he rfl inX5 tyX5 tyX5_ok nmX5 (by decide) (by rw [hM]; exact wf_X5_22) rfl hi (by rw [hM]; rfl) (tyX5_ok 5 (by decide)) hn hf hl hd kk
theorem gX5_25 (hM : Θ.2.2.1.1.cls = RX5) {a : Nat} {fs : List Value} {v : Value} (he : h a = some (.inr (5, fs))) (hv : fs[6]? = some v) (hd : decode cc pc = .ok (.getfield 25, 3)) (kk : J Θ cc h k lv (pc + 3) (v :: st)) : J Θ cc h k lv pc (.ref a :: st) :=
  j_get (C := RX5) (T := TX5) (N := 33) (fk := 6) he rfl inX5 (by decide) (by rw [hM]; exact wf_X5_25) hv hd kk
theorem pX5_25 (hM : Θ.2.2.1.1.cls = RX5) (hi : Θ.2.2.1.1.name = "<init>") {a : Nat} {fs : List Value} {v : Value} (he : h a = some (.inr (5, fs))) (hn : narrow (tyX5 6) v = v) (hf : fits (tyX5 6) v = true) (hl : 6 < fs.length) (hd : decode cc pc = .ok (.putfield 25, 3)) (kk : J Θ cc (upA h a (.inr (5, fs.set 6 v))) k lv (pc + 3) st) : J Θ cc h k lv pc (v :: .ref a :: st) :=
  j_putF (C := RX5) (T := TX5) (N := 33) (fk := 6) he rfl inX5 tyX5 tyX5_ok nmX5 (by decide) (by rw [hM]; exact wf_X5_25) rfl hi (by rw [hM]; rfl) (tyX5_ok 6 (by decide)) hn hf hl hd kk
theorem gX5_28 (hM : Θ.2.2.1.1.cls = RX5) {a : Nat} {fs : List Value} {v : Value} (he : h a = some (.inr (5, fs))) (hv : fs[8]? = some v) (hd : decode cc pc = .ok (.getfield 28, 3)) (kk : J Θ cc h k lv (pc + 3) (v :: st)) : J Θ cc h k lv pc (.ref a :: st) :=
  j_get (C := RX5) (T := TX5) (N := 33) (fk := 8) he rfl inX5 (by decide) (by rw [hM]; exact wf_X5_28) hv hd kk
theorem pX5_28 (hM : Θ.2.2.1.1.cls = RX5) (hi : Θ.2.2.1.1.name = "<init>") {a : Nat} {fs : List Value} {v : Value} (he : h a = some (.inr (5, fs))) (hn : narrow (tyX5 8) v = v) (hf : fits (tyX5 8) v = true) (hl : 8 < fs.length) (hd : decode cc pc = .ok (.putfield 28, 3)) (kk : J Θ cc (upA h a (.inr (5, fs.set 8 v))) k lv (pc + 3) st) : J Θ cc h k lv pc (v :: .ref a :: st) :=
  j_putF (C := RX5) (T := TX5) (N := 33) (fk := 8) he rfl inX5 tyX5 tyX5_ok nmX5 (by decide) (by rw [hM]; exact wf_X5_28) rfl hi (by rw [hM]; rfl) (tyX5_ok 8 (by decide)) hn hf hl hd kk
theorem gX5_31 (hM : Θ.2.2.1.1.cls = RX5) {a : Nat} {fs : List Value} {v : Value} (he : h a = some (.inr (5, fs))) (hv : fs[9]? = some v) (hd : decode cc pc = .ok (.getfield 31, 3)) (kk : J Θ cc h k lv (pc + 3) (v :: st)) : J Θ cc h k lv pc (.ref a :: st) :=
  j_get (C := RX5) (T := TX5) (N := 33) (fk := 9) he rfl inX5 (by decide) (by rw [hM]; exact wf_X5_31) hv hd kk
theorem pX5_31 (hM : Θ.2.2.1.1.cls = RX5) (hi : Θ.2.2.1.1.name = "<init>") {a : Nat} {fs : List Value} {v : Value} (he : h a = some (.inr (5, fs))) (hn : narrow (tyX5 9) v = v) (hf : fits (tyX5 9) v = true) (hl : 9 < fs.length) (hd : decode cc pc = .ok (.putfield 31, 3)) (kk : J Θ cc (upA h a (.inr (5, fs.set 9 v))) k lv (pc + 3) st) : J Θ cc h k lv pc (v :: .ref a :: st) :=
  j_putF (C := RX5) (T := TX5) (N := 33) (fk := 9) he rfl inX5 tyX5 tyX5_ok nmX5 (by decide) (by rw [hM]; exact wf_X5_31) rfl hi (by rw [hM]; rfl) (tyX5_ok 9 (by decide)) hn hf hl hd kk
theorem gX5_34 (hM : Θ.2.2.1.1.cls = RX5) {a : Nat} {fs : List Value} {v : Value} (he : h a = some (.inr (5, fs))) (hv : fs[10]? = some v) (hd : decode cc pc = .ok (.getfield 34, 3)) (kk : J Θ cc h k lv (pc + 3) (v :: st)) : J Θ cc h k lv pc (.ref a :: st) :=
  j_get (C := RX5) (T := TX5) (N := 33) (fk := 10) he rfl inX5 (by decide) (by rw [hM]; exact wf_X5_34) hv hd kk
theorem pX5_34 (hM : Θ.2.2.1.1.cls = RX5) (hi : Θ.2.2.1.1.name = "<init>") {a : Nat} {fs : List Value} {v : Value} (he : h a = some (.inr (5, fs))) (hn : narrow (tyX5 10) v = v) (hf : fits (tyX5 10) v = true) (hl : 10 < fs.length) (hd : decode cc pc = .ok (.putfield 34, 3)) (kk : J Θ cc (upA h a (.inr (5, fs.set 10 v))) k lv (pc + 3) st) : J Θ cc h k lv pc (v :: .ref a :: st) :=
  j_putF (C := RX5) (T := TX5) (N := 33) (fk := 10) he rfl inX5 tyX5 tyX5_ok nmX5 (by decide) (by rw [hM]; exact wf_X5_34) rfl hi (by rw [hM]; rfl) (tyX5_ok 10 (by decide)) hn hf hl hd kk
theorem gX5_37 (hM : Θ.2.2.1.1.cls = RX5) {a : Nat} {fs : List Value} {v : Value} (he : h a = some (.inr (5, fs))) (hv : fs[11]? = some v) (hd : decode cc pc = .ok (.getfield 37, 3)) (kk : J Θ cc h k lv (pc + 3) (v :: st)) : J Θ cc h k lv pc (.ref a :: st) :=
  j_get (C := RX5) (T := TX5) (N := 33) (fk := 11) he rfl inX5 (by decide) (by rw [hM]; exact wf_X5_37) hv hd kk
theorem pX5_37 (hM : Θ.2.2.1.1.cls = RX5) (hi : Θ.2.2.1.1.name = "<init>") {a : Nat} {fs : List Value} {v : Value} (he : h a = some (.inr (5, fs))) (hn : narrow (tyX5 11) v = v) (hf : fits (tyX5 11) v = true) (hl : 11 < fs.length) (hd : decode cc pc = .ok (.putfield 37, 3)) (kk : J Θ cc (upA h a (.inr (5, fs.set 11 v))) k lv (pc + 3) st) : J Θ cc h k lv pc (v :: .ref a :: st) :=
  j_putF (C := RX5) (T := TX5) (N := 33) (fk := 11) he rfl inX5 tyX5 tyX5_ok nmX5 (by decide) (by rw [hM]; exact wf_X5_37) rfl hi (by rw [hM]; rfl) (tyX5_ok 11 (by decide)) hn hf hl hd kk
theorem gX5_40 (hM : Θ.2.2.1.1.cls = RX5) {a : Nat} {fs : List Value} {v : Value} (he : h a = some (.inr (5, fs))) (hv : fs[12]? = some v) (hd : decode cc pc = .ok (.getfield 40, 3)) (kk : J Θ cc h k lv (pc + 3) (v :: st)) : J Θ cc h k lv pc (.ref a :: st) :=
  j_get (C := RX5) (T := TX5) (N := 33) (fk := 12) he rfl inX5 (by decide) (by rw [hM]; exact wf_X5_40) hv hd kk
theorem pX5_40 (hM : Θ.2.2.1.1.cls = RX5) (hi : Θ.2.2.1.1.name = "<init>") {a : Nat} {fs : List Value} {v : Value} (he : h a = some (.inr (5, fs))) (hn : narrow (tyX5 12) v = v) (hf : fits (tyX5 12) v = true) (hl : 12 < fs.length) (hd : decode cc pc = .ok (.putfield 40, 3)) (kk : J Θ cc (upA h a (.inr (5, fs.set 12 v))) k lv (pc + 3) st) : J Θ cc h k lv pc (v :: .ref a :: st) :=
  j_putF (C := RX5) (T := TX5) (N := 33) (fk := 12) he rfl inX5 tyX5 tyX5_ok nmX5 (by decide) (by rw [hM]; exact wf_X5_40) rfl hi (by rw [hM]; rfl) (tyX5_ok 12 (by decide)) hn hf hl hd kk
theorem gX5_43 (hM : Θ.2.2.1.1.cls = RX5) {a : Nat} {fs : List Value} {v : Value} (he : h a = some (.inr (5, fs))) (hv : fs[13]? = some v) (hd : decode cc pc = .ok (.getfield 43, 3)) (kk : J Θ cc h k lv (pc + 3) (v :: st)) : J Θ cc h k lv pc (.ref a :: st) :=
  j_get (C := RX5) (T := TX5) (N := 33) (fk := 13) he rfl inX5 (by decide) (by rw [hM]; exact wf_X5_43) hv hd kk
theorem pX5_43 (hM : Θ.2.2.1.1.cls = RX5) (hi : Θ.2.2.1.1.name = "<init>") {a : Nat} {fs : List Value} {v : Value} (he : h a = some (.inr (5, fs))) (hn : narrow (tyX5 13) v = v) (hf : fits (tyX5 13) v = true) (hl : 13 < fs.length) (hd : decode cc pc = .ok (.putfield 43, 3)) (kk : J Θ cc (upA h a (.inr (5, fs.set 13 v))) k lv (pc + 3) st) : J Θ cc h k lv pc (v :: .ref a :: st) :=
  j_putF (C := RX5) (T := TX5) (N := 33) (fk := 13) he rfl inX5 tyX5 tyX5_ok nmX5 (by decide) (by rw [hM]; exact wf_X5_43) rfl hi (by rw [hM]; rfl) (tyX5_ok 13 (by decide)) hn hf hl hd kk
theorem gX5_46 (hM : Θ.2.2.1.1.cls = RX5) {a : Nat} {fs : List Value} {v : Value} (he : h a = some (.inr (5, fs))) (hv : fs[14]? = some v) (hd : decode cc pc = .ok (.getfield 46, 3)) (kk : J Θ cc h k lv (pc + 3) (v :: st)) : J Θ cc h k lv pc (.ref a :: st) :=
  j_get (C := RX5) (T := TX5) (N := 33) (fk := 14) he rfl inX5 (by decide) (by rw [hM]; exact wf_X5_46) hv hd kk
theorem pX5_46 (hM : Θ.2.2.1.1.cls = RX5) (hi : Θ.2.2.1.1.name = "<init>") {a : Nat} {fs : List Value} {v : Value} (he : h a = some (.inr (5, fs))) (hn : narrow (tyX5 14) v = v) (hf : fits (tyX5 14) v = true) (hl : 14 < fs.length) (hd : decode cc pc = .ok (.putfield 46, 3)) (kk : J Θ cc (upA h a (.inr (5, fs.set 14 v))) k lv (pc + 3) st) : J Θ cc h k lv pc (v :: .ref a :: st) :=
  j_putF (C := RX5) (T := TX5) (N := 33) (fk := 14) he rfl inX5 tyX5 tyX5_ok nmX5 (by decide) (by rw [hM]; exact wf_X5_46) rfl hi (by rw [hM]; rfl) (tyX5_ok 14 (by decide)) hn hf hl hd kk
theorem gX5_49 (hM : Θ.2.2.1.1.cls = RX5) {a : Nat} {fs : List Value} {v : Value} (he : h a = some (.inr (5, fs))) (hv : fs[15]? = some v) (hd : decode cc pc = .ok (.getfield 49, 3)) (kk : J Θ cc h k lv (pc + 3) (v :: st)) : J Θ cc h k lv pc (.ref a :: st) :=
  j_get (C := RX5) (T := TX5) (N := 33) (fk := 15) he rfl inX5 (by decide) (by rw [hM]; exact wf_X5_49) hv hd kk
theorem pX5_49 (hM : Θ.2.2.1.1.cls = RX5) (hi : Θ.2.2.1.1.name = "<init>") {a : Nat} {fs : List Value} {v : Value} (he : h a = some (.inr (5, fs))) (hn : narrow (tyX5 15) v = v) (hf : fits (tyX5 15) v = true) (hl : 15 < fs.length) (hd : decode cc pc = .ok (.putfield 49, 3)) (kk : J Θ cc (upA h a (.inr (5, fs.set 15 v))) k lv (pc + 3) st) : J Θ cc h k lv pc (v :: .ref a :: st) :=
  j_putF (C := RX5) (T := TX5) (N := 33) (fk := 15) he rfl inX5 tyX5 tyX5_ok nmX5 (by decide) (by rw [hM]; exact wf_X5_49) rfl hi (by rw [hM]; rfl) (tyX5_ok 15 (by decide)) hn hf hl hd kk
theorem gX5_53 (hM : Θ.2.2.1.1.cls = RX5) {a : Nat} {fs : List Value} {v : Value} (he : h a = some (.inr (5, fs))) (hv : fs[16]? = some v) (hd : decode cc pc = .ok (.getfield 53, 3)) (kk : J Θ cc h k lv (pc + 3) (v :: st)) : J Θ cc h k lv pc (.ref a :: st) :=
  j_get (C := RX5) (T := TX5) (N := 33) (fk := 16) he rfl inX5 (by decide) (by rw [hM]; exact wf_X5_53) hv hd kk
theorem pX5_53 (hM : Θ.2.2.1.1.cls = RX5) (hi : Θ.2.2.1.1.name = "<init>") {a : Nat} {fs : List Value} {v : Value} (he : h a = some (.inr (5, fs))) (hn : narrow (tyX5 16) v = v) (hf : fits (tyX5 16) v = true) (hl : 16 < fs.length) (hd : decode cc pc = .ok (.putfield 53, 3)) (kk : J Θ cc (upA h a (.inr (5, fs.set 16 v))) k lv (pc + 3) st) : J Θ cc h k lv pc (v :: .ref a :: st) :=
  j_putF (C := RX5) (T := TX5) (N := 33) (fk := 16) he rfl inX5 tyX5 tyX5_ok nmX5 (by decide) (by rw [hM]; exact wf_X5_53) rfl hi (by rw [hM]; rfl) (tyX5_ok 16 (by decide)) hn hf hl hd kk
theorem gX5_56 (hM : Θ.2.2.1.1.cls = RX5) {a : Nat} {fs : List Value} {v : Value} (he : h a = some (.inr (5, fs))) (hv : fs[17]? = some v) (hd : decode cc pc = .ok (.getfield 56, 3)) (kk : J Θ cc h k lv (pc + 3) (v :: st)) : J Θ cc h k lv pc (.ref a :: st) :=
  j_get (C := RX5) (T := TX5) (N := 33) (fk := 17) he rfl inX5 (by decide) (by rw [hM]; exact wf_X5_56) hv hd kk
theorem pX5_56 (hM : Θ.2.2.1.1.cls = RX5) (hi : Θ.2.2.1.1.name = "<init>") {a : Nat} {fs : List Value} {v : Value} (he : h a = some (.inr (5, fs))) (hn : narrow (tyX5 17) v = v) (hf : fits (tyX5 17) v = true) (hl : 17 < fs.length) (hd : decode cc pc = .ok (.putfield 56, 3)) (kk : J Θ cc (upA h a (.inr (5, fs.set 17 v))) k lv (pc + 3) st) : J Θ cc h k lv pc (v :: .ref a :: st) :=
  j_putF (C := RX5) (T := TX5) (N := 33) (fk := 17) he rfl inX5 tyX5 tyX5_ok nmX5 (by decide) (by rw [hM]; exact wf_X5_56) rfl hi (by rw [hM]; rfl) (tyX5_ok 17 (by decide)) hn hf hl hd kk
theorem gX5_59 (hM : Θ.2.2.1.1.cls = RX5) {a : Nat} {fs : List Value} {v : Value} (he : h a = some (.inr (5, fs))) (hv : fs[21]? = some v) (hd : decode cc pc = .ok (.getfield 59, 3)) (kk : J Θ cc h k lv (pc + 3) (v :: st)) : J Θ cc h k lv pc (.ref a :: st) :=
  j_get (C := RX5) (T := TX5) (N := 33) (fk := 21) he rfl inX5 (by decide) (by rw [hM]; exact wf_X5_59) hv hd kk
theorem pX5_59 (hM : Θ.2.2.1.1.cls = RX5) (hi : Θ.2.2.1.1.name = "<init>") {a : Nat} {fs : List Value} {v : Value} (he : h a = some (.inr (5, fs))) (hn : narrow (tyX5 21) v = v) (hf : fits (tyX5 21) v = true) (hl : 21 < fs.length) (hd : decode cc pc = .ok (.putfield 59, 3)) (kk : J Θ cc (upA h a (.inr (5, fs.set 21 v))) k lv (pc + 3) st) : J Θ cc h k lv pc (v :: .ref a :: st) :=
  j_putF (C := RX5) (T := TX5) (N := 33) (fk := 21) he rfl inX5 tyX5 tyX5_ok nmX5 (by decide) (by rw [hM]; exact wf_X5_59) rfl hi (by rw [hM]; rfl) (tyX5_ok 21 (by decide)) hn hf hl hd kk
theorem gX5_62 (hM : Θ.2.2.1.1.cls = RX5) {a : Nat} {fs : List Value} {v : Value} (he : h a = some (.inr (5, fs))) (hv : fs[22]? = some v) (hd : decode cc pc = .ok (.getfield 62, 3)) (kk : J Θ cc h k lv (pc + 3) (v :: st)) : J Θ cc h k lv pc (.ref a :: st) :=
  j_get (C := RX5) (T := TX5) (N := 33) (fk := 22) he rfl inX5 (by decide) (by rw [hM]; exact wf_X5_62) hv hd kk
theorem pX5_62 (hM : Θ.2.2.1.1.cls = RX5) (hi : Θ.2.2.1.1.name = "<init>") {a : Nat} {fs : List Value} {v : Value} (he : h a = some (.inr (5, fs))) (hn : narrow (tyX5 22) v = v) (hf : fits (tyX5 22) v = true) (hl : 22 < fs.length) (hd : decode cc pc = .ok (.putfield 62, 3)) (kk : J Θ cc (upA h a (.inr (5, fs.set 22 v))) k lv (pc + 3) st) : J Θ cc h k lv pc (v :: .ref a :: st) :=
  j_putF (C := RX5) (T := TX5) (N := 33) (fk := 22) he rfl inX5 tyX5 tyX5_ok nmX5 (by decide) (by rw [hM]; exact wf_X5_62) rfl hi (by rw [hM]; rfl) (tyX5_ok 22 (by decide)) hn hf hl hd kk
theorem gX5_65 (hM : Θ.2.2.1.1.cls = RX5) {a : Nat} {fs : List Value} {v : Value} (he : h a = some (.inr (5, fs))) (hv : fs[24]? = some v) (hd : decode cc pc = .ok (.getfield 65, 3)) (kk : J Θ cc h k lv (pc + 3) (v :: st)) : J Θ cc h k lv pc (.ref a :: st) :=
  j_get (C := RX5) (T := TX5) (N := 33) (fk := 24) he rfl inX5 (by decide) (by rw [hM]; exact wf_X5_65) hv hd kk
theorem pX5_65 (hM : Θ.2.2.1.1.cls = RX5) (hi : Θ.2.2.1.1.name = "<init>") {a : Nat} {fs : List Value} {v : Value} (he : h a = some (.inr (5, fs))) (hn : narrow (tyX5 24) v = v) (hf : fits (tyX5 24) v = true) (hl : 24 < fs.length) (hd : decode cc pc = .ok (.putfield 65, 3)) (kk : J Θ cc (upA h a (.inr (5, fs.set 24 v))) k lv (pc + 3) st) : J Θ cc h k lv pc (v :: .ref a :: st) :=
  j_putF (C := RX5) (T := TX5) (N := 33) (fk := 24) he rfl inX5 tyX5 tyX5_ok nmX5 (by decide) (by rw [hM]; exact wf_X5_65) rfl hi (by rw [hM]; rfl) (tyX5_ok 24 (by decide)) hn hf hl hd kk
theorem gX5_68 (hM : Θ.2.2.1.1.cls = RX5) {a : Nat} {fs : List Value} {v : Value} (he : h a = some (.inr (5, fs))) (hv : fs[26]? = some v) (hd : decode cc pc = .ok (.getfield 68, 3)) (kk : J Θ cc h k lv (pc + 3) (v :: st)) : J Θ cc h k lv pc (.ref a :: st) :=
  j_get (C := RX5) (T := TX5) (N := 33) (fk := 26) he rfl inX5 (by decide) (by rw [hM]; exact wf_X5_68) hv hd kk
theorem pX5_68 (hM : Θ.2.2.1.1.cls = RX5) (hi : Θ.2.2.1.1.name = "<init>") {a : Nat} {fs : List Value} {v : Value} (he : h a = some (.inr (5, fs))) (hn : narrow (tyX5 26) v = v) (hf : fits (tyX5 26) v = true) (hl : 26 < fs.length) (hd : decode cc pc = .ok (.putfield 68, 3)) (kk : J Θ cc (upA h a (.inr (5, fs.set 26 v))) k lv (pc + 3) st) : J Θ cc h k lv pc (v :: .ref a :: st) :=
  j_putF (C := RX5) (T := TX5) (N := 33) (fk := 26) he rfl inX5 tyX5 tyX5_ok nmX5 (by decide) (by rw [hM]; exact wf_X5_68) rfl hi (by rw [hM]; rfl) (tyX5_ok 26 (by decide)) hn hf hl hd kk
theorem gX5_71 (hM : Θ.2.2.1.1.cls = RX5) {a : Nat} {fs : List Value} {v : Value} (he : h a = some (.inr (5, fs))) (hv : fs[28]? = some v) (hd : decode cc pc = .ok (.getfield 71, 3)) (kk : J Θ cc h k lv (pc + 3) (v :: st)) : J Θ cc h k lv pc (.ref a :: st) :=
  j_get (C := RX5) (T := TX5) (N := 33) (fk := 28) he rfl inX5 (by decide) (by rw [hM]; exact wf_X5_71) hv hd kk
theorem pX5_71 (hM : Θ.2.2.1.1.cls = RX5) (hi : Θ.2.2.1.1.name = "<init>") {a : Nat} {fs : List Value} {v : Value} (he : h a = some (.inr (5, fs))) (hn : narrow (tyX5 28) v = v) (hf : fits (tyX5 28) v = true) (hl : 28 < fs.length) (hd : decode cc pc = .ok (.putfield 71, 3)) (kk : J Θ cc (upA h a (.inr (5, fs.set 28 v))) k lv (pc + 3) st) : J Θ cc h k lv pc (v :: .ref a :: st) :=
  j_putF (C := RX5) (T := TX5) (N := 33) (fk := 28) he rfl inX5 tyX5 tyX5_ok nmX5 (by decide) (by rw [hM]; exact wf_X5_71) rfl hi (by rw [hM]; rfl) (tyX5_ok 28 (by decide)) hn hf hl hd kk
theorem gX5_74 (hM : Θ.2.2.1.1.cls = RX5) {a : Nat} {fs : List Value} {v : Value} (he : h a = some (.inr (5, fs))) (hv : fs[29]? = some v) (hd : decode cc pc = .ok (.getfield 74, 3)) (kk : J Θ cc h k lv (pc + 3) (v :: st)) : J Θ cc h k lv pc (.ref a :: st) :=
  j_get (C := RX5) (T := TX5) (N := 33) (fk := 29) he rfl inX5 (by decide) (by rw [hM]; exact wf_X5_74) hv hd kk
theorem pX5_74 (hM : Θ.2.2.1.1.cls = RX5) (hi : Θ.2.2.1.1.name = "<init>") {a : Nat} {fs : List Value} {v : Value} (he : h a = some (.inr (5, fs))) (hn : narrow (tyX5 29) v = v) (hf : fits (tyX5 29) v = true) (hl : 29 < fs.length) (hd : decode cc pc = .ok (.putfield 74, 3)) (kk : J Θ cc (upA h a (.inr (5, fs.set 29 v))) k lv (pc + 3) st) : J Θ cc h k lv pc (v :: .ref a :: st) :=
  j_putF (C := RX5) (T := TX5) (N := 33) (fk := 29) he rfl inX5 tyX5 tyX5_ok nmX5 (by decide) (by rw [hM]; exact wf_X5_74) rfl hi (by rw [hM]; rfl) (tyX5_ok 29 (by decide)) hn hf hl hd kk
theorem gX5_77 (hM : Θ.2.2.1.1.cls = RX5) {a : Nat} {fs : List Value} {v : Value} (he : h a = some (.inr (5, fs))) (hv : fs[30]? = some v) (hd : decode cc pc = .ok (.getfield 77, 3)) (kk : J Θ cc h k lv (pc + 3) (v :: st)) : J Θ cc h k lv pc (.ref a :: st) :=
  j_get (C := RX5) (T := TX5) (N := 33) (fk := 30) he rfl inX5 (by decide) (by rw [hM]; exact wf_X5_77) hv hd kk
theorem pX5_77 (hM : Θ.2.2.1.1.cls = RX5) (hi : Θ.2.2.1.1.name = "<init>") {a : Nat} {fs : List Value} {v : Value} (he : h a = some (.inr (5, fs))) (hn : narrow (tyX5 30) v = v) (hf : fits (tyX5 30) v = true) (hl : 30 < fs.length) (hd : decode cc pc = .ok (.putfield 77, 3)) (kk : J Θ cc (upA h a (.inr (5, fs.set 30 v))) k lv (pc + 3) st) : J Θ cc h k lv pc (v :: .ref a :: st) :=
  j_putF (C := RX5) (T := TX5) (N := 33) (fk := 30) he rfl inX5 tyX5 tyX5_ok nmX5 (by decide) (by rw [hM]; exact wf_X5_77) rfl hi (by rw [hM]; rfl) (tyX5_ok 30 (by decide)) hn hf hl hd kk
theorem gX5_80 (hM : Θ.2.2.1.1.cls = RX5) {a : Nat} {fs : List Value} {v : Value} (he : h a = some (.inr (5, fs))) (hv : fs[31]? = some v) (hd : decode cc pc = .ok (.getfield 80, 3)) (kk : J Θ cc h k lv (pc + 3) (v :: st)) : J Θ cc h k lv pc (.ref a :: st) :=
  j_get (C := RX5) (T := TX5) (N := 33) (fk := 31) he rfl inX5 (by decide) (by rw [hM]; exact wf_X5_80) hv hd kk
theorem pX5_80 (hM : Θ.2.2.1.1.cls = RX5) (hi : Θ.2.2.1.1.name = "<init>") {a : Nat} {fs : List Value} {v : Value} (he : h a = some (.inr (5, fs))) (hn : narrow (tyX5 31) v = v) (hf : fits (tyX5 31) v = true) (hl : 31 < fs.length) (hd : decode cc pc = .ok (.putfield 80, 3)) (kk : J Θ cc (upA h a (.inr (5, fs.set 31 v))) k lv (pc + 3) st) : J Θ cc h k lv pc (v :: .ref a :: st) :=
  j_putF (C := RX5) (T := TX5) (N := 33) (fk := 31) he rfl inX5 tyX5 tyX5_ok nmX5 (by decide) (by rw [hM]; exact wf_X5_80) rfl hi (by rw [hM]; rfl) (tyX5_ok 31 (by decide)) hn hf hl hd kk
theorem gX5_83 (hM : Θ.2.2.1.1.cls = RX5) {a : Nat} {fs : List Value} {v : Value} (he : h a = some (.inr (5, fs))) (hv : fs[32]? = some v) (hd : decode cc pc = .ok (.getfield 83, 3)) (kk : J Θ cc h k lv (pc + 3) (v :: st)) : J Θ cc h k lv pc (.ref a :: st) :=
  j_get (C := RX5) (T := TX5) (N := 33) (fk := 32) he rfl inX5 (by decide) (by rw [hM]; exact wf_X5_83) hv hd kk
theorem pX5_83 (hM : Θ.2.2.1.1.cls = RX5) (hi : Θ.2.2.1.1.name = "<init>") {a : Nat} {fs : List Value} {v : Value} (he : h a = some (.inr (5, fs))) (hn : narrow (tyX5 32) v = v) (hf : fits (tyX5 32) v = true) (hl : 32 < fs.length) (hd : decode cc pc = .ok (.putfield 83, 3)) (kk : J Θ cc (upA h a (.inr (5, fs.set 32 v))) k lv (pc + 3) st) : J Θ cc h k lv pc (v :: .ref a :: st) :=
  j_putF (C := RX5) (T := TX5) (N := 33) (fk := 32) he rfl inX5 tyX5 tyX5_ok nmX5 (by decide) (by rw [hM]; exact wf_X5_83) rfl hi (by rw [hM]; rfl) (tyX5_ok 32 (by decide)) hn hf hl hd kk
theorem gX5_86 (hM : Θ.2.2.1.1.cls = RX5) {a : Nat} {fs : List Value} {v : Value} (he : h a = some (.inr (5, fs))) (hv : fs[7]? = some v) (hd : decode cc pc = .ok (.getfield 86, 3)) (kk : J Θ cc h k lv (pc + 3) (v :: st)) : J Θ cc h k lv pc (.ref a :: st) :=
  j_get (C := RX5) (T := TX5) (N := 33) (fk := 7) he rfl inX5 (by decide) (by rw [hM]; exact wf_X5_86) hv hd kk
theorem pX5_86 (hM : Θ.2.2.1.1.cls = RX5) {a : Nat} {fs : List Value} {v : Value} (he : h a = some (.inr (5, fs))) (hn : narrow (tyX5 7) v = v) (hf : fits (tyX5 7) v = true) (hl : 7 < fs.length) (hd : decode cc pc = .ok (.putfield 86, 3)) (kk : J Θ cc (upA h a (.inr (5, fs.set 7 v))) k lv (pc + 3) st) : J Θ cc h k lv pc (v :: .ref a :: st) :=
  j_put (C := RX5) (T := TX5) (N := 33) (fk := 7) he rfl inX5 tyX5 tyX5_ok nmX5 (by decide) (by rw [hM]; exact wf_X5_86) rfl (tyX5_ok 7 (by decide)) hn hf hl hd kk
theorem gX5_94 (hM : Θ.2.2.1.1.cls = RX5) {a : Nat} {fs : List Value} {v : Value} (he : h a = some (.inr (5, fs))) (hv : fs[0]? = some v) (hd : decode cc pc = .ok (.getfield 94, 3)) (kk : J Θ cc h k lv (pc + 3) (v :: st)) : J Θ cc h k lv pc (.ref a :: st) :=
  j_get (C := RX5) (T := TX5) (N := 33) (fk := 0) he rfl inX5 (by decide) (by rw [hM]; exact wf_X5_94) hv hd kk
theorem pX5_94 (hM : Θ.2.2.1.1.cls = RX5) {a : Nat} {fs : List Value} {v : Value} (he : h a = some (.inr (5, fs))) (hn : narrow (tyX5 0) v = v) (hf : fits (tyX5 0) v = true) (hl : 0 < fs.length) (hd : decode cc pc = .ok (.putfield 94, 3)) (kk : J Θ cc (upA h a (.inr (5, fs.set 0 v))) k lv (pc + 3) st) : J Θ cc h k lv pc (v :: .ref a :: st) :=
  j_put (C := RX5) (T := TX5) (N := 33) (fk := 0) he rfl inX5 tyX5 tyX5_ok nmX5 (by decide) (by rw [hM]; exact wf_X5_94) rfl (tyX5_ok 0 (by decide)) hn hf hl hd kk
theorem gX5_98 (hM : Θ.2.2.1.1.cls = RX5) {a : Nat} {fs : List Value} {v : Value} (he : h a = some (.inr (5, fs))) (hv : fs[18]? = some v) (hd : decode cc pc = .ok (.getfield 98, 3)) (kk : J Θ cc h k lv (pc + 3) (v :: st)) : J Θ cc h k lv pc (.ref a :: st) :=
  j_get (C := RX5) (T := TX5) (N := 33) (fk := 18) he rfl inX5 (by decide) (by rw [hM]; exact wf_X5_98) hv hd kk
theorem pX5_98 (hM : Θ.2.2.1.1.cls = RX5) {a : Nat} {fs : List Value} {v : Value} (he : h a = some (.inr (5, fs))) (hn : narrow (tyX5 18) v = v) (hf : fits (tyX5 18) v = true) (hl : 18 < fs.length) (hd : decode cc pc = .ok (.putfield 98, 3)) (kk : J Θ cc (upA h a (.inr (5, fs.set 18 v))) k lv (pc + 3) st) : J Θ cc h k lv pc (v :: .ref a :: st) :=
  j_put (C := RX5) (T := TX5) (N := 33) (fk := 18) he rfl inX5 tyX5 tyX5_ok nmX5 (by decide) (by rw [hM]; exact wf_X5_98) rfl (tyX5_ok 18 (by decide)) hn hf hl hd kk
theorem gX5_102 (hM : Θ.2.2.1.1.cls = RX5) {a : Nat} {fs : List Value} {v : Value} (he : h a = some (.inr (5, fs))) (hv : fs[19]? = some v) (hd : decode cc pc = .ok (.getfield 102, 3)) (kk : J Θ cc h k lv (pc + 3) (v :: st)) : J Θ cc h k lv pc (.ref a :: st) :=
  j_get (C := RX5) (T := TX5) (N := 33) (fk := 19) he rfl inX5 (by decide) (by rw [hM]; exact wf_X5_102) hv hd kk
theorem pX5_102 (hM : Θ.2.2.1.1.cls = RX5) {a : Nat} {fs : List Value} {v : Value} (he : h a = some (.inr (5, fs))) (hn : narrow (tyX5 19) v = v) (hf : fits (tyX5 19) v = true) (hl : 19 < fs.length) (hd : decode cc pc = .ok (.putfield 102, 3)) (kk : J Θ cc (upA h a (.inr (5, fs.set 19 v))) k lv (pc + 3) st) : J Θ cc h k lv pc (v :: .ref a :: st) :=
  j_put (C := RX5) (T := TX5) (N := 33) (fk := 19) he rfl inX5 tyX5 tyX5_ok nmX5 (by decide) (by rw [hM]; exact wf_X5_102) rfl (tyX5_ok 19 (by decide)) hn hf hl hd kk
theorem gX5_105 (hM : Θ.2.2.1.1.cls = RX5) {a : Nat} {fs : List Value} {v : Value} (he : h a = some (.inr (5, fs))) (hv : fs[20]? = some v) (hd : decode cc pc = .ok (.getfield 105, 3)) (kk : J Θ cc h k lv (pc + 3) (v :: st)) : J Θ cc h k lv pc (.ref a :: st) :=
  j_get (C := RX5) (T := TX5) (N := 33) (fk := 20) he rfl inX5 (by decide) (by rw [hM]; exact wf_X5_105) hv hd kk
theorem pX5_105 (hM : Θ.2.2.1.1.cls = RX5) {a : Nat} {fs : List Value} {v : Value} (he : h a = some (.inr (5, fs))) (hn : narrow (tyX5 20) v = v) (hf : fits (tyX5 20) v = true) (hl : 20 < fs.length) (hd : decode cc pc = .ok (.putfield 105, 3)) (kk : J Θ cc (upA h a (.inr (5, fs.set 20 v))) k lv (pc + 3) st) : J Θ cc h k lv pc (v :: .ref a :: st) :=
  j_put (C := RX5) (T := TX5) (N := 33) (fk := 20) he rfl inX5 tyX5 tyX5_ok nmX5 (by decide) (by rw [hM]; exact wf_X5_105) rfl (tyX5_ok 20 (by decide)) hn hf hl hd kk
theorem gX5_140 (hM : Θ.2.2.1.1.cls = RX5) {a : Nat} {fs : List Value} {v : Value} (he : h a = some (.inr (5, fs))) (hv : fs[23]? = some v) (hd : decode cc pc = .ok (.getfield 140, 3)) (kk : J Θ cc h k lv (pc + 3) (v :: st)) : J Θ cc h k lv pc (.ref a :: st) :=
  j_get (C := RX5) (T := TX5) (N := 33) (fk := 23) he rfl inX5 (by decide) (by rw [hM]; exact wf_X5_140) hv hd kk
theorem pX5_140 (hM : Θ.2.2.1.1.cls = RX5) {a : Nat} {fs : List Value} {v : Value} (he : h a = some (.inr (5, fs))) (hn : narrow (tyX5 23) v = v) (hf : fits (tyX5 23) v = true) (hl : 23 < fs.length) (hd : decode cc pc = .ok (.putfield 140, 3)) (kk : J Θ cc (upA h a (.inr (5, fs.set 23 v))) k lv (pc + 3) st) : J Θ cc h k lv pc (v :: .ref a :: st) :=
  j_put (C := RX5) (T := TX5) (N := 33) (fk := 23) he rfl inX5 tyX5 tyX5_ok nmX5 (by decide) (by rw [hM]; exact wf_X5_140) rfl (tyX5_ok 23 (by decide)) hn hf hl hd kk
theorem gX5_143 (hM : Θ.2.2.1.1.cls = RX5) {a : Nat} {fs : List Value} {v : Value} (he : h a = some (.inr (5, fs))) (hv : fs[25]? = some v) (hd : decode cc pc = .ok (.getfield 143, 3)) (kk : J Θ cc h k lv (pc + 3) (v :: st)) : J Θ cc h k lv pc (.ref a :: st) :=
  j_get (C := RX5) (T := TX5) (N := 33) (fk := 25) he rfl inX5 (by decide) (by rw [hM]; exact wf_X5_143) hv hd kk
theorem pX5_143 (hM : Θ.2.2.1.1.cls = RX5) {a : Nat} {fs : List Value} {v : Value} (he : h a = some (.inr (5, fs))) (hn : narrow (tyX5 25) v = v) (hf : fits (tyX5 25) v = true) (hl : 25 < fs.length) (hd : decode cc pc = .ok (.putfield 143, 3)) (kk : J Θ cc (upA h a (.inr (5, fs.set 25 v))) k lv (pc + 3) st) : J Θ cc h k lv pc (v :: .ref a :: st) :=
  j_put (C := RX5) (T := TX5) (N := 33) (fk := 25) he rfl inX5 tyX5 tyX5_ok nmX5 (by decide) (by rw [hM]; exact wf_X5_143) rfl (tyX5_ok 25 (by decide)) hn hf hl hd kk
theorem gX5_164 (hM : Θ.2.2.1.1.cls = RX5) {a : Nat} {fs : List Value} {v : Value} (he : h a = some (.inr (5, fs))) (hv : fs[27]? = some v) (hd : decode cc pc = .ok (.getfield 164, 3)) (kk : J Θ cc h k lv (pc + 3) (v :: st)) : J Θ cc h k lv pc (.ref a :: st) :=
  j_get (C := RX5) (T := TX5) (N := 33) (fk := 27) he rfl inX5 (by decide) (by rw [hM]; exact wf_X5_164) hv hd kk
theorem pX5_164 (hM : Θ.2.2.1.1.cls = RX5) {a : Nat} {fs : List Value} {v : Value} (he : h a = some (.inr (5, fs))) (hn : narrow (tyX5 27) v = v) (hf : fits (tyX5 27) v = true) (hl : 27 < fs.length) (hd : decode cc pc = .ok (.putfield 164, 3)) (kk : J Θ cc (upA h a (.inr (5, fs.set 27 v))) k lv (pc + 3) st) : J Θ cc h k lv pc (v :: .ref a :: st) :=
  j_put (C := RX5) (T := TX5) (N := 33) (fk := 27) he rfl inX5 tyX5 tyX5_ok nmX5 (by decide) (by rw [hM]; exact wf_X5_164) rfl (tyX5_ok 27 (by decide)) hn hf hl hd kk
end FR
abbrev mX0_init : MI := (yX0_init, cX0_init, 3, none)
abbrev mX0_weightNow : MI := (yX0_weightNow, cX0_weightNow, 1, (some .int))
abbrev mX0_partNow : MI := (yX0_partNow, cX0_partNow, 2, (some .int))
abbrev mX0_canBeTuned : MI := (yX0_canBeTuned, cX0_canBeTuned, 1, (some .boolean))
abbrev mX0_roomAt : MI := (yX0_roomAt, cX0_roomAt, 2, (some .int))
abbrev mX0_tableAt : MI := (yX0_tableAt, cX0_tableAt, 3, (some .int))
abbrev mX0_takeOff : MI := (yX0_takeOff, cX0_takeOff, 3, (some .int))
abbrev mX1_init : MI := (yX1_init, cX1_init, 1, none)
abbrev mX1_forget : MI := (yX1_forget, cX1_forget, 1, none)
abbrev mX1_addNote : MI := (yX1_addNote, cX1_addNote, 2, none)
abbrev mX1_startAnew : MI := (yX1_startAnew, cX1_startAnew, 2, none)
abbrev mX1_chosenWeight : MI := (yX1_chosenWeight, cX1_chosenWeight, 1, (some .int))
abbrev mX1_chosenBell : MI := (yX1_chosenBell, cX1_chosenBell, 2, (some .int))
abbrev mX1_choose : MI := (yX1_choose, cX1_choose, 4, none)
abbrev mX1_placeOf : MI := (yX1_placeOf, cX1_placeOf, 1, (some .int))
abbrev mX1_numberOf : MI := (yX1_numberOf, cX1_numberOf, 3, (some .long))
abbrev mX1_weigh : MI := (yX1_weigh, cX1_weigh, 5, none)
abbrev mX1_leastWithFirst : MI := (yX1_leastWithFirst, cX1_leastWithFirst, 7, (some .long))
abbrev mX1_seat : MI := (yX1_seat, cX1_seat, 5, (some .long))
abbrev mX1_moveHolders : MI := (yX1_moveHolders, cX1_moveHolders, 6, (some .boolean))
abbrev mX1_reachFrom : MI := (yX1_reachFrom, cX1_reachFrom, 12, (some .boolean))
abbrev mX1_nearestFree : MI := (yX1_nearestFree, cX1_nearestFree, 4, (some .int))
abbrev mX1_passAlong : MI := (yX1_passAlong, cX1_passAlong, 6, none)
abbrev mX2_init : MI := (yX2_init, cX2_init, 2, none)
abbrev mX2_init_ : MI := (yX2_init_, cX2_init_, 2, none)
abbrev mX2_setTable : MI := (yX2_setTable, cX2_setTable, 4, (some .boolean))
abbrev mX2_setMetal : MI := (yX2_setMetal, cX2_setMetal, 3, (some .boolean))
abbrev mX2_setLeast : MI := (yX2_setLeast, cX2_setLeast, 3, (some .boolean))
abbrev mX2_setThickness : MI := (yX2_setThickness, cX2_setThickness, 3, (some .boolean))
abbrev mX2_castWeight : MI := (yX2_castWeight, cX2_castWeight, 1, (some .int))
abbrev mX2_weightWith : MI := (yX2_weightWith, cX2_weightWith, 4, (some .int))
abbrev mX2_partWith : MI := (yX2_partWith, cX2_partWith, 5, (some .int))
abbrev mX3_init : MI := (yX3_init, cX3_init, 1, none)
abbrev mX3_setSpan : MI := (yX3_setSpan, cX3_setSpan, 4, none)
abbrev mX3_plan : MI := (yX3_plan, cX3_plan, 4, none)
abbrev mX3_prepare : MI := (yX3_prepare, cX3_prepare, 4, none)
abbrev mX3_boundTables : MI := (yX3_boundTables, cX3_boundTables, 9, none)
abbrev mX3_search : MI := (yX3_search, cX3_search, 6, (some .boolean))
abbrev mX3_mayReach : MI := (yX3_mayReach, cX3_mayReach, 5, (some .boolean))
abbrev mX3_lower : MI := (yX3_lower, cX3_lower, 5, none)
abbrev mX4_init : MI := (yX4_init, cX4_init, 1, none)
abbrev mX4_profile : MI := (yX4_profile, cX4_profile, 2, (some .int))
abbrev mX4_shape : MI := (yX4_shape, cX4_shape, 6, (some .boolean))
abbrev mX4_base : MI := (yX4_base, cX4_base, 5, (some .boolean))
abbrev mX4_buy : MI := (yX4_buy, cX4_buy, 3, (some .boolean))
abbrev mX4_cast : MI := (yX4_cast, cX4_cast, 3, (some .int))
abbrev mX4_cut : MI := (yX4_cut, cX4_cut, 4, (some .int))
abbrev mX4_old : MI := (yX4_old, cX4_old, 3, (some .boolean))
abbrev mX4_crack : MI := (yX4_crack, cX4_crack, 3, (some .boolean))
abbrev mX4_bellOf : MI := (yX4_bellOf, cX4_bellOf, 4, (some .int))
abbrev mX4_span : MI := (yX4_span, cX4_span, 4, (some .boolean))
abbrev mX4_tuning : MI := (yX4_tuning, cX4_tuning, 2, (some .int))
abbrev mX4_tune : MI := (yX4_tune, cX4_tune, 5, (some .int))
abbrev mX4_tuningAt : MI := (yX4_tuningAt, cX4_tuningAt, 4, (some .int))
abbrev mX4_note : MI := (yX4_note, cX4_note, 2, (some .int))
abbrev mX4_ring : MI := (yX4_ring, cX4_ring, 2, (some .boolean))
abbrev mX4_ringWeight : MI := (yX4_ringWeight, cX4_ringWeight, 1, (some .int))
abbrev mX4_ringBell : MI := (yX4_ringBell, cX4_ringBell, 2, (some .int))
abbrev mX4_tower : MI := (yX4_tower, cX4_tower, 4, (some .boolean))
abbrev mX4_hang : MI := (yX4_hang, cX4_hang, 5, (some .boolean))
abbrev mX4_about : MI := (yX4_about, cX4_about, 2, (some .int))
abbrev mX4_within : MI := (yX4_within, cX4_within, 3, (some .boolean))
abbrev mX4_isHeight : MI := (yX4_isHeight, cX4_isHeight, 1, (some .boolean))
abbrev mX4_isPart : MI := (yX4_isPart, cX4_isPart, 1, (some .boolean))
abbrev mX4_isWay : MI := (yX4_isWay, cX4_isWay, 1, (some .boolean))
abbrev mX4_profileAt : MI := (yX4_profileAt, cX4_profileAt, 2, (some (.object "BellFoundry$Profile")))
abbrev mX4_bellAt : MI := (yX4_bellAt, cX4_bellAt, 2, (some (.object "BellFoundry$Bell")))
abbrev mX4_charge : MI := (yX4_charge, cX4_charge, 6, (some .boolean))
abbrev mX4_trim : MI := (yX4_trim, cX4_trim, 4, none)
abbrev mX4_plannedCuts : MI := (yX4_plannedCuts, cX4_plannedCuts, 2, (some .int))
abbrev mX4_soundMetal : MI := (yX4_soundMetal, cX4_soundMetal, 4, (some .int))
abbrev mX4_shareOf : MI := (yX4_shareOf, cX4_shareOf, 2, (some .int))
abbrev mX4_pullBy : MI := (yX4_pullBy, cX4_pullBy, 3, (some .int))
abbrev mX4_pullsTogether : MI := (yX4_pullsTogether, cX4_pullsTogether, 1, (some .int))
abbrev mX4_pullsIf : MI := (yX4_pullsIf, cX4_pullsIf, 6, (some .int))
abbrev mX5_init : MI := (yX5_init, cX5_init, 1, none)
abbrev mX5_in : MI := (yX5_in, cX5_in, 3, (some .boolean))
abbrev mX5_isBell : MI := (yX5_isBell, cX5_isBell, 2, (some .boolean))
abbrev mX5_profile : MI := (yX5_profile, cX5_profile, 3, (some .int))
abbrev mX5_shape : MI := (yX5_shape, cX5_shape, 7, (some .boolean))
abbrev mX5_base : MI := (yX5_base, cX5_base, 4, (some .boolean))
abbrev mX5_buy : MI := (yX5_buy, cX5_buy, 3, (some .boolean))
abbrev mX5_weightOf : MI := (yX5_weightOf, cX5_weightOf, 4, (some .int))
abbrev mX5_partOf : MI := (yX5_partOf, cX5_partOf, 5, (some .int))
abbrev mX5_cast : MI := (yX5_cast, cX5_cast, 8, (some .int))
abbrev mX5_canCut : MI := (yX5_canCut, cX5_canCut, 2, (some .boolean))
abbrev mX5_cut : MI := (yX5_cut, cX5_cut, 3, (some .int))
abbrev mX5_old : MI := (yX5_old, cX5_old, 2, (some .boolean))
abbrev mX5_crack : MI := (yX5_crack, cX5_crack, 2, (some .boolean))
abbrev mX5_pull : MI := (yX5_pull, cX5_pull, 3, (some .int))
abbrev mX5_bellOf : MI := (yX5_bellOf, cX5_bellOf, 3, (some .int))
abbrev mX5_span : MI := (yX5_span, cX5_span, 4, (some .boolean))
abbrev mX5_isTuned : MI := (yX5_isTuned, cX5_isTuned, 5, (some .boolean))
abbrev mX5_nextCuts : MI := (yX5_nextCuts, cX5_nextCuts, 4, (some .boolean))
abbrev mX5_seeks : MI := (yX5_seeks, cX5_seeks, 4, (some .int))
abbrev mX5_tuning : MI := (yX5_tuning, cX5_tuning, 2, (some .int))
abbrev mX5_tune : MI := (yX5_tune, cX5_tune, 4, (some .int))
abbrev mX5_tuningAt : MI := (yX5_tuningAt, cX5_tuningAt, 3, (some .int))
abbrev mX5_note : MI := (yX5_note, cX5_note, 2, (some .int))
abbrev mX5_ring : MI := (yX5_ring, cX5_ring, 2, (some .boolean))
abbrev mX5_agrees : MI := (yX5_agrees, cX5_agrees, 5, (some .boolean))
abbrev mX5_lightest : MI := (yX5_lightest, cX5_lightest, 10, (some .int))
abbrev mX5_rings : MI := (yX5_rings, cX5_rings, 7, (some .int))
abbrev mX5_fits : MI := (yX5_fits, cX5_fits, 7, (some .boolean))
abbrev mX5_ringWeight : MI := (yX5_ringWeight, cX5_ringWeight, 1, (some .int))
abbrev mX5_ringBell : MI := (yX5_ringBell, cX5_ringBell, 2, (some .int))
abbrev mX5_pulls : MI := (yX5_pulls, cX5_pulls, 3, (some .int))
abbrev mX5_tower : MI := (yX5_tower, cX5_tower, 5, (some .boolean))
abbrev mX5_hang : MI := (yX5_hang, cX5_hang, 4, (some .boolean))
abbrev mX5_about : MI := (yX5_about, cX5_about, 4, (some .int))
abbrev mJ7_fill_d0a16 : MI := (yJ7_fill_d0a16, cJ7_fill_d0a16, 5, none)
abbrev mJ7_fill_53178 : MI := (yJ7_fill_53178, cJ7_fill_53178, 4, none)
abbrev mL_law : MI := (yL_law, cL_law, 4, (some .boolean))
end
section
/-! ===== small words ===== -/
def bi (b : Bool) : Int32 := if b then 1 else 0
theorem bi_t : bi true = 1 := rfl
theorem bi_f : bi false = 0 := rfl
theorem bi_eq0 (b : Bool) : bi b = 0 ↔ b = false := by cases b <;> decide
theorem bi_ne0 (b : Bool) : ¬ bi b = 0 ↔ b = true := by cases b <;> decide
theorem bi_nar (b : Bool) : narrow .boolean (.int (bi b)) = .int (bi b) := by cases b <;> rfl
theorem bi_fit (b : Bool) : fits .boolean (.int (bi b)) = true := by cases b <;> rfl
theorem nI_inc (a : Nat) : nI a + Int32.ofInt 1 = nI (a + 1) := nI_1 a
theorem nI_dec (a : Nat) : nI (a + 1) + Int32.ofInt (-1) = nI a := by
  rw [← nI_1]
  have h : ∀ x : Int32, x + 1 + Int32.ofInt (-1) = x := by
    intro x
    rw [Int32.add_assoc]
    show x + 0 = x
    exact Int32.add_zero x
  exact h _
/-- sum of products from w on: the first n places of f and g -/
def wsum (w : Int32) (f g : Nat → Int32) : Nat → Int32
  | 0 => w
  | n + 1 => wsum w f g n + f n * g n
def iw (v a b : Int32) : Bool := decide (a ≤ v) && decide (v ≤ b)
theorem iw_lo {v a b : Int32} (h : v < a) : iw v a b = false := by
  simp only [iw, Bool.and_eq_false_iff, decide_eq_false_iff_not]
  exact Or.inl (Int32.not_le.mpr h)
theorem iw_hi {v a b : Int32} (h : b < v) : iw v a b = false := by
  simp only [iw, Bool.and_eq_false_iff, decide_eq_false_iff_not]
  exact Or.inr (Int32.not_le.mpr h)
theorem iw_in {v a b : Int32} (h1 : ¬ v < a) (h2 : ¬ b < v) : iw v a b = true := by
  simp only [iw, Bool.and_eq_true, decide_eq_true_eq]
  exact ⟨Int32.not_lt.mp h1, Int32.not_lt.mp h2⟩
theorem iw_iff {v a b : Int32} : iw v a b = true ↔ a ≤ v ∧ v ≤ b := by
  simp only [iw, Bool.and_eq_true, decide_eq_true_eq]
theorem cw_X0_init : CW mX0_init 2 := ⟨wo_X0_init, wi_X0, by decide +kernel, by decide +kernel, by decide +kernel, by decide⟩
theorem cw_X0_weightNow : CW mX0_weightNow 0 := ⟨wo_X0_weightNow, wi_X0, by decide +kernel, by decide +kernel, by decide +kernel, by decide⟩
theorem cw_X0_partNow : CW mX0_partNow 1 := ⟨wo_X0_partNow, wi_X0, by decide +kernel, by decide +kernel, by decide +kernel, by decide⟩
theorem cw_X0_canBeTuned : CW mX0_canBeTuned 0 := ⟨wo_X0_canBeTuned, wi_X0, by decide +kernel, by decide +kernel, by decide +kernel, by decide⟩
theorem cw_X0_roomAt : CW mX0_roomAt 1 := ⟨wo_X0_roomAt, wi_X0, by decide +kernel, by decide +kernel, by decide +kernel, by decide⟩
theorem cw_X0_tableAt : CW mX0_tableAt 2 := ⟨wo_X0_tableAt, wi_X0, by decide +kernel, by decide +kernel, by decide +kernel, by decide⟩
theorem cw_X0_takeOff : CW mX0_takeOff 2 := ⟨wo_X0_takeOff, wi_X0, by decide +kernel, by decide +kernel, by decide +kernel, by decide⟩
theorem cw_X1_init : CW mX1_init 0 := ⟨wo_X1_init, wi_X1, by decide +kernel, by decide +kernel, by decide +kernel, by decide⟩
theorem cw_X1_forget : CW mX1_forget 0 := ⟨wo_X1_forget, wi_X1, by decide +kernel, by decide +kernel, by decide +kernel, by decide⟩
theorem cw_X1_addNote : CW mX1_addNote 1 := ⟨wo_X1_addNote, wi_X1, by decide +kernel, by decide +kernel, by decide +kernel, by decide⟩
theorem cw_X1_startAnew : CW mX1_startAnew 1 := ⟨wo_X1_startAnew, wi_X1, by decide +kernel, by decide +kernel, by decide +kernel, by decide⟩
theorem cw_X1_chosenWeight : CW mX1_chosenWeight 0 := ⟨wo_X1_chosenWeight, wi_X1, by decide +kernel, by decide +kernel, by decide +kernel, by decide⟩
theorem cw_X1_chosenBell : CW mX1_chosenBell 1 := ⟨wo_X1_chosenBell, wi_X1, by decide +kernel, by decide +kernel, by decide +kernel, by decide⟩
theorem cw_X1_choose : CW mX1_choose 2 := ⟨wo_X1_choose, wi_X1, by decide +kernel, by decide +kernel, by decide +kernel, by decide⟩
theorem cw_X1_placeOf : CW mX1_placeOf 1 := ⟨wo_X1_placeOf, wi_X1, by decide +kernel, by decide +kernel, by decide +kernel, by decide⟩
theorem cw_X1_numberOf : CW mX1_numberOf 2 := ⟨wo_X1_numberOf, wi_X1, by decide +kernel, by decide +kernel, by decide +kernel, by decide⟩
theorem cw_X1_weigh : CW mX1_weigh 2 := ⟨wo_X1_weigh, wi_X1, by decide +kernel, by decide +kernel, by decide +kernel, by decide⟩
theorem cw_X1_leastWithFirst : CW mX1_leastWithFirst 1 := ⟨wo_X1_leastWithFirst, wi_X1, by decide +kernel, by decide +kernel, by decide +kernel, by decide⟩
theorem cw_X1_seat : CW mX1_seat 2 := ⟨wo_X1_seat, wi_X1, by decide +kernel, by decide +kernel, by decide +kernel, by decide⟩
theorem cw_X1_moveHolders : CW mX1_moveHolders 1 := ⟨wo_X1_moveHolders, wi_X1, by decide +kernel, by decide +kernel, by decide +kernel, by decide⟩
theorem cw_X1_reachFrom : CW mX1_reachFrom 4 := ⟨wo_X1_reachFrom, wi_X1, by decide +kernel, by decide +kernel, by decide +kernel, by decide⟩
theorem cw_X1_nearestFree : CW mX1_nearestFree 0 := ⟨wo_X1_nearestFree, wi_X1, by decide +kernel, by decide +kernel, by decide +kernel, by decide⟩
theorem cw_X1_passAlong : CW mX1_passAlong 2 := ⟨wo_X1_passAlong, wi_X1, by decide +kernel, by decide +kernel, by decide +kernel, by decide⟩
theorem cw_X2_init : CW mX2_init 1 := ⟨wo_X2_init, wi_X2, by decide +kernel, by decide +kernel, by decide +kernel, by decide⟩
theorem cw_X2_init_ : CW mX2_init_ 1 := ⟨wo_X2_init_, wi_X2, by decide +kernel, by decide +kernel, by decide +kernel, by decide⟩
theorem cw_X2_setTable : CW mX2_setTable 3 := ⟨wo_X2_setTable, wi_X2, by decide +kernel, by decide +kernel, by decide +kernel, by decide⟩
theorem cw_X2_setMetal : CW mX2_setMetal 2 := ⟨wo_X2_setMetal, wi_X2, by decide +kernel, by decide +kernel, by decide +kernel, by decide⟩
theorem cw_X2_setLeast : CW mX2_setLeast 2 := ⟨wo_X2_setLeast, wi_X2, by decide +kernel, by decide +kernel, by decide +kernel, by decide⟩
theorem cw_X2_setThickness : CW mX2_setThickness 2 := ⟨wo_X2_setThickness, wi_X2, by decide +kernel, by decide +kernel, by decide +kernel, by decide⟩
theorem cw_X2_castWeight : CW mX2_castWeight 0 := ⟨wo_X2_castWeight, wi_X2, by decide +kernel, by decide +kernel, by decide +kernel, by decide⟩
theorem cw_X2_weightWith : CW mX2_weightWith 1 := ⟨wo_X2_weightWith, wi_X2, by decide +kernel, by decide +kernel, by decide +kernel, by decide⟩
theorem cw_X2_partWith : CW mX2_partWith 2 := ⟨wo_X2_partWith, wi_X2, by decide +kernel, by decide +kernel, by decide +kernel, by decide⟩
theorem cw_X3_init : CW mX3_init 0 := ⟨wo_X3_init, wi_X3, by decide +kernel, by decide +kernel, by decide +kernel, by decide⟩
theorem cw_X3_setSpan : CW mX3_setSpan 3 := ⟨wo_X3_setSpan, wi_X3, by decide +kernel, by decide +kernel, by decide +kernel, by decide⟩
theorem cw_X3_plan : CW mX3_plan 1 := ⟨wo_X3_plan, wi_X3, by decide +kernel, by decide +kernel, by decide +kernel, by decide⟩
theorem cw_X3_prepare : CW mX3_prepare 1 := ⟨wo_X3_prepare, wi_X3, by decide +kernel, by decide +kernel, by decide +kernel, by decide⟩
theorem cw_X3_boundTables : CW mX3_boundTables 3 := ⟨wo_X3_boundTables, wi_X3, by decide +kernel, by decide +kernel, by decide +kernel, by decide⟩
theorem cw_X3_search : CW mX3_search 4 := ⟨wo_X3_search, wi_X3, by decide +kernel, by decide +kernel, by decide +kernel, by decide⟩
theorem cw_X3_mayReach : CW mX3_mayReach 2 := ⟨wo_X3_mayReach, wi_X3, by decide +kernel, by decide +kernel, by decide +kernel, by decide⟩
theorem cw_X3_lower : CW mX3_lower 3 := ⟨wo_X3_lower, wi_X3, by decide +kernel, by decide +kernel, by decide +kernel, by decide⟩
theorem cw_X4_init : CW mX4_init 0 := ⟨wo_X4_init, wi_X4, by decide +kernel, by decide +kernel, by decide +kernel, by decide⟩
theorem cw_X4_profile : CW mX4_profile 1 := ⟨wo_X4_profile, wi_X4, by decide +kernel, by decide +kernel, by decide +kernel, by decide⟩
theorem cw_X4_shape : CW mX4_shape 4 := ⟨wo_X4_shape, wi_X4, by decide +kernel, by decide +kernel, by decide +kernel, by decide⟩
theorem cw_X4_base : CW mX4_base 3 := ⟨wo_X4_base, wi_X4, by decide +kernel, by decide +kernel, by decide +kernel, by decide⟩
theorem cw_X4_buy : CW mX4_buy 2 := ⟨wo_X4_buy, wi_X4, by decide +kernel, by decide +kernel, by decide +kernel, by decide⟩
theorem cw_X4_cast : CW mX4_cast 1 := ⟨wo_X4_cast, wi_X4, by decide +kernel, by decide +kernel, by decide +kernel, by decide⟩
theorem cw_X4_cut : CW mX4_cut 2 := ⟨wo_X4_cut, wi_X4, by decide +kernel, by decide +kernel, by decide +kernel, by decide⟩
theorem cw_X4_old : CW mX4_old 1 := ⟨wo_X4_old, wi_X4, by decide +kernel, by decide +kernel, by decide +kernel, by decide⟩
theorem cw_X4_crack : CW mX4_crack 1 := ⟨wo_X4_crack, wi_X4, by decide +kernel, by decide +kernel, by decide +kernel, by decide⟩
theorem cw_X4_bellOf : CW mX4_bellOf 2 := ⟨wo_X4_bellOf, wi_X4, by decide +kernel, by decide +kernel, by decide +kernel, by decide⟩
theorem cw_X4_span : CW mX4_span 3 := ⟨wo_X4_span, wi_X4, by decide +kernel, by decide +kernel, by decide +kernel, by decide⟩
theorem cw_X4_tuning : CW mX4_tuning 1 := ⟨wo_X4_tuning, wi_X4, by decide +kernel, by decide +kernel, by decide +kernel, by decide⟩
theorem cw_X4_tune : CW mX4_tune 1 := ⟨wo_X4_tune, wi_X4, by decide +kernel, by decide +kernel, by decide +kernel, by decide⟩
theorem cw_X4_tuningAt : CW mX4_tuningAt 2 := ⟨wo_X4_tuningAt, wi_X4, by decide +kernel, by decide +kernel, by decide +kernel, by decide⟩
theorem cw_X4_note : CW mX4_note 1 := ⟨wo_X4_note, wi_X4, by decide +kernel, by decide +kernel, by decide +kernel, by decide⟩
theorem cw_X4_ring : CW mX4_ring 1 := ⟨wo_X4_ring, wi_X4, by decide +kernel, by decide +kernel, by decide +kernel, by decide⟩
theorem cw_X4_ringWeight : CW mX4_ringWeight 0 := ⟨wo_X4_ringWeight, wi_X4, by decide +kernel, by decide +kernel, by decide +kernel, by decide⟩
theorem cw_X4_ringBell : CW mX4_ringBell 1 := ⟨wo_X4_ringBell, wi_X4, by decide +kernel, by decide +kernel, by decide +kernel, by decide⟩
theorem cw_X4_tower : CW mX4_tower 3 := ⟨wo_X4_tower, wi_X4, by decide +kernel, by decide +kernel, by decide +kernel, by decide⟩
theorem cw_X4_hang : CW mX4_hang 2 := ⟨wo_X4_hang, wi_X4, by decide +kernel, by decide +kernel, by decide +kernel, by decide⟩
theorem cw_X4_about : CW mX4_about 1 := ⟨wo_X4_about, wi_X4, by decide +kernel, by decide +kernel, by decide +kernel, by decide⟩
theorem cw_X4_within : CW mX4_within 3 := ⟨wo_X4_within, wi_X4, by decide +kernel, by decide +kernel, by decide +kernel, by decide⟩
theorem cw_X4_isHeight : CW mX4_isHeight 1 := ⟨wo_X4_isHeight, wi_X4, by decide +kernel, by decide +kernel, by decide +kernel, by decide⟩
theorem cw_X4_isPart : CW mX4_isPart 1 := ⟨wo_X4_isPart, wi_X4, by decide +kernel, by decide +kernel, by decide +kernel, by decide⟩
theorem cw_X4_isWay : CW mX4_isWay 1 := ⟨wo_X4_isWay, wi_X4, by decide +kernel, by decide +kernel, by decide +kernel, by decide⟩
theorem cw_X4_profileAt : CW mX4_profileAt 1 := ⟨wo_X4_profileAt, wi_X4, by decide +kernel, by decide +kernel, by decide +kernel, by decide⟩
theorem cw_X4_bellAt : CW mX4_bellAt 1 := ⟨wo_X4_bellAt, wi_X4, by decide +kernel, by decide +kernel, by decide +kernel, by decide⟩
theorem cw_X4_charge : CW mX4_charge 1 := ⟨wo_X4_charge, wi_X4, by decide +kernel, by decide +kernel, by decide +kernel, by decide⟩
theorem cw_X4_trim : CW mX4_trim 3 := ⟨wo_X4_trim, wi_X4, by decide +kernel, by decide +kernel, by decide +kernel, by decide⟩
theorem cw_X4_plannedCuts : CW mX4_plannedCuts 1 := ⟨wo_X4_plannedCuts, wi_X4, by decide +kernel, by decide +kernel, by decide +kernel, by decide⟩
theorem cw_X4_soundMetal : CW mX4_soundMetal 0 := ⟨wo_X4_soundMetal, wi_X4, by decide +kernel, by decide +kernel, by decide +kernel, by decide⟩
theorem cw_X4_shareOf : CW mX4_shareOf 1 := ⟨wo_X4_shareOf, wi_X4, by decide +kernel, by decide +kernel, by decide +kernel, by decide⟩
theorem cw_X4_pullBy : CW mX4_pullBy 3 := ⟨wo_X4_pullBy, wi_X4, by decide +kernel, by decide +kernel, by decide +kernel, by decide⟩
theorem cw_X4_pullsTogether : CW mX4_pullsTogether 0 := ⟨wo_X4_pullsTogether, wi_X4, by decide +kernel, by decide +kernel, by decide +kernel, by decide⟩
theorem cw_X4_pullsIf : CW mX4_pullsIf 2 := ⟨wo_X4_pullsIf, wi_X4, by decide +kernel, by decide +kernel, by decide +kernel, by decide⟩
theorem cw_X5_init : CW mX5_init 0 := ⟨wo_X5_init, wi_X5, by decide +kernel, by decide +kernel, by decide +kernel, by decide⟩
theorem cw_X5_in : CW mX5_in 3 := ⟨wo_X5_in, wi_X5, by decide +kernel, by decide +kernel, by decide +kernel, by decide⟩
theorem cw_X5_isBell : CW mX5_isBell 1 := ⟨wo_X5_isBell, wi_X5, by decide +kernel, by decide +kernel, by decide +kernel, by decide⟩
theorem cw_X5_profile : CW mX5_profile 1 := ⟨wo_X5_profile, wi_X5, by decide +kernel, by decide +kernel, by decide +kernel, by decide⟩
theorem cw_X5_shape : CW mX5_shape 4 := ⟨wo_X5_shape, wi_X5, by decide +kernel, by decide +kernel, by decide +kernel, by decide⟩
theorem cw_X5_base : CW mX5_base 3 := ⟨wo_X5_base, wi_X5, by decide +kernel, by decide +kernel, by decide +kernel, by decide⟩
theorem cw_X5_buy : CW mX5_buy 2 := ⟨wo_X5_buy, wi_X5, by decide +kernel, by decide +kernel, by decide +kernel, by decide⟩
theorem cw_X5_weightOf : CW mX5_weightOf 1 := ⟨wo_X5_weightOf, wi_X5, by decide +kernel, by decide +kernel, by decide +kernel, by decide⟩
theorem cw_X5_partOf : CW mX5_partOf 2 := ⟨wo_X5_partOf, wi_X5, by decide +kernel, by decide +kernel, by decide +kernel, by decide⟩
theorem cw_X5_cast : CW mX5_cast 1 := ⟨wo_X5_cast, wi_X5, by decide +kernel, by decide +kernel, by decide +kernel, by decide⟩
theorem cw_X5_canCut : CW mX5_canCut 1 := ⟨wo_X5_canCut, wi_X5, by decide +kernel, by decide +kernel, by decide +kernel, by decide⟩
theorem cw_X5_cut : CW mX5_cut 2 := ⟨wo_X5_cut, wi_X5, by decide +kernel, by decide +kernel, by decide +kernel, by decide⟩
theorem cw_X5_old : CW mX5_old 1 := ⟨wo_X5_old, wi_X5, by decide +kernel, by decide +kernel, by decide +kernel, by decide⟩
theorem cw_X5_crack : CW mX5_crack 1 := ⟨wo_X5_crack, wi_X5, by decide +kernel, by decide +kernel, by decide +kernel, by decide⟩
theorem cw_X5_pull : CW mX5_pull 2 := ⟨wo_X5_pull, wi_X5, by decide +kernel, by decide +kernel, by decide +kernel, by decide⟩
theorem cw_X5_bellOf : CW mX5_bellOf 2 := ⟨wo_X5_bellOf, wi_X5, by decide +kernel, by decide +kernel, by decide +kernel, by decide⟩
theorem cw_X5_span : CW mX5_span 3 := ⟨wo_X5_span, wi_X5, by decide +kernel, by decide +kernel, by decide +kernel, by decide⟩
theorem cw_X5_isTuned : CW mX5_isTuned 1 := ⟨wo_X5_isTuned, wi_X5, by decide +kernel, by decide +kernel, by decide +kernel, by decide⟩
theorem cw_X5_nextCuts : CW mX5_nextCuts 0 := ⟨wo_X5_nextCuts, wi_X5, by decide +kernel, by decide +kernel, by decide +kernel, by decide⟩
theorem cw_X5_seeks : CW mX5_seeks 1 := ⟨wo_X5_seeks, wi_X5, by decide +kernel, by decide +kernel, by decide +kernel, by decide⟩
theorem cw_X5_tuning : CW mX5_tuning 1 := ⟨wo_X5_tuning, wi_X5, by decide +kernel, by decide +kernel, by decide +kernel, by decide⟩
theorem cw_X5_tune : CW mX5_tune 1 := ⟨wo_X5_tune, wi_X5, by decide +kernel, by decide +kernel, by decide +kernel, by decide⟩
theorem cw_X5_tuningAt : CW mX5_tuningAt 2 := ⟨wo_X5_tuningAt, wi_X5, by decide +kernel, by decide +kernel, by decide +kernel, by decide⟩
theorem cw_X5_note : CW mX5_note 1 := ⟨wo_X5_note, wi_X5, by decide +kernel, by decide +kernel, by decide +kernel, by decide⟩
theorem cw_X5_ring : CW mX5_ring 1 := ⟨wo_X5_ring, wi_X5, by decide +kernel, by decide +kernel, by decide +kernel, by decide⟩
theorem cw_X5_agrees : CW mX5_agrees 3 := ⟨wo_X5_agrees, wi_X5, by decide +kernel, by decide +kernel, by decide +kernel, by decide⟩
theorem cw_X5_lightest : CW mX5_lightest 3 := ⟨wo_X5_lightest, wi_X5, by decide +kernel, by decide +kernel, by decide +kernel, by decide⟩
theorem cw_X5_rings : CW mX5_rings 0 := ⟨wo_X5_rings, wi_X5, by decide +kernel, by decide +kernel, by decide +kernel, by decide⟩
theorem cw_X5_fits : CW mX5_fits 5 := ⟨wo_X5_fits, wi_X5, by decide +kernel, by decide +kernel, by decide +kernel, by decide⟩
theorem cw_X5_ringWeight : CW mX5_ringWeight 0 := ⟨wo_X5_ringWeight, wi_X5, by decide +kernel, by decide +kernel, by decide +kernel, by decide⟩
theorem cw_X5_ringBell : CW mX5_ringBell 1 := ⟨wo_X5_ringBell, wi_X5, by decide +kernel, by decide +kernel, by decide +kernel, by decide⟩
theorem cw_X5_pulls : CW mX5_pulls 0 := ⟨wo_X5_pulls, wi_X5, by decide +kernel, by decide +kernel, by decide +kernel, by decide⟩
theorem cw_X5_tower : CW mX5_tower 3 := ⟨wo_X5_tower, wi_X5, by decide +kernel, by decide +kernel, by decide +kernel, by decide⟩
theorem cw_X5_hang : CW mX5_hang 2 := ⟨wo_X5_hang, wi_X5, by decide +kernel, by decide +kernel, by decide +kernel, by decide⟩
theorem cw_X5_about : CW mX5_about 1 := ⟨wo_X5_about, wi_X5, by decide +kernel, by decide +kernel, by decide +kernel, by decide⟩
theorem cw_J7_fill_d0a16 : CW mJ7_fill_d0a16 2 := ⟨wo_J7_fill_d0a16, wi_J7, by decide +kernel, by decide +kernel, by decide +kernel, by decide⟩
theorem cw_J7_fill_53178 : CW mJ7_fill_53178 2 := ⟨wo_J7_fill_53178, wi_J7, by decide +kernel, by decide +kernel, by decide +kernel, by decide⟩
end
section
/-! ===== names of cells: (kind, number, 0) an object, (kind, number, k + 1) the array of its field k; kinds: 0 foundry, 1 chooser, 2 profiles, 3 tuner, 4 bells, 5 reference, 6 moulds of bells ===== -/
abbrev NM : Type := Nat × Nat × Nat
abbrev ZT : Type := NM → Nat → Int32
abbrev LT : Type := NM → Nat → Int64
abbrev iA (n : Nat) (z : Nat → Int32) : AE := .inl (0, n, .inl z)
abbrev zA (n : Nat) (z : Nat → Int32) : AE := .inl (2, n, .inl z)
abbrev lA (n : Nat) (z : Nat → Int64) : AE := .inl (1, n, .inr (.inl z))
abbrev qA (t n : Nat) (f : Nat → Option Nat) : AE := .inl (t, n, .inr (.inr (.inr (.inr f))))
def sh0 (ad : NM → Nat) (np nb i k : Nat) (z : Nat → Int32) (l : Nat → Int64) : AE :=
  if k = 0 then .inr (4, [.ref (ad (0, 0, 1)), .int (z 1), .ref (ad (0, 0, 3)), .int (z 3), .int (z 4), .int (z 5), .int (z 6), .ref (ad (3, 0, 0)), .ref (ad (1, 0, 0)), .ref (ad (0, 0, 10)), .int (z 10)])
  else if k = 1 then qA 3 4 (fun p => if p < np then some (ad (2, p, 0)) else none)
  else if k = 3 then qA 4 24 (fun p => if p < nb then some (ad (4, p, 0)) else none)
  else if k = 10 then iA 5 z
  else iA 0 z
def sh1 (ad : NM → Nat) (np nb i k : Nat) (z : Nat → Int32) (l : Nat → Int64) : AE :=
  if k = 0 then .inr (1, [.ref (ad (1, 0, 1)), .int (z 1), .int (z 2), .int (z 3), .long (l 4), .ref (ad (1, 0, 6)), .int (z 6), .ref (ad (1, 0, 8)), .ref (ad (1, 0, 9)), .ref (ad (1, 0, 10)), .ref (ad (1, 0, 11)), .ref (ad (1, 0, 12))])
  else if k = 1 then iA 8 z
  else if k = 6 then iA 24 z
  else if k = 8 then iA 24 z
  else if k = 9 then iA 24 z
  else if k = 10 then iA 24 z
  else if k = 11 then lA 24 l
  else if k = 12 then iA 24 z
  else iA 0 z
def sh2 (ad : NM → Nat) (np nb i k : Nat) (z : Nat → Int32) (l : Nat → Int64) : AE :=
  if k = 0 then .inr (2, [.int (z 0), .ref (ad (2, i, 2)), .ref (ad (2, i, 3)), .ref (ad (2, i, 4)), .ref (ad (2, i, 5)), .ref (ad (2, i, 6))])
  else if k = 2 then iA 5 z
  else if k = 3 then iA 40 z
  else if k = 4 then iA 8 z
  else if k = 5 then iA 8 z
  else if k = 6 then iA 8 z
  else iA 0 z
def sh3 (ad : NM → Nat) (np nb i k : Nat) (z : Nat → Int32) (l : Nat → Int64) : AE :=
  if k = 0 then .inr (3, [.ref (ad (3, 0, 1)), .ref (ad (3, 0, 2)), .int (z 2), .ref (ad (3, 0, 4)), .ref (ad (3, 0, 5)), .ref (ad (3, 0, 6)), .ref (ad (3, 0, 7))])
  else if k = 1 then iA 5 z
  else if k = 2 then iA 5 z
  else if k = 4 then iA 5 z
  else if k = 5 then iA 9 z
  else if k = 6 then iA 45 z
  else if k = 7 then iA 45 z
  else iA 0 z
def sh4 (ad : NM → Nat) (np nb i k : Nat) (z : Nat → Int32) (l : Nat → Int64) : AE :=
  if k = 0 then .inr (0, [.int (z 0), .ref (ad (6, i, 0)), .ref (ad (4, i, 3)), .int (z 3), .int (z 4), .int (z 5), .ref (ad (4, i, 7)), .int (z 7), .int (z 8)])
  else if k = 3 then iA 8 z
  else if k = 7 then iA 8 z
  else iA 0 z
def sh5 (ad : NM → Nat) (np nb i k : Nat) (z : Nat → Int32) (l : Nat → Int64) : AE :=
  if k = 0 then .inr (5, [.int (z 0), .ref (ad (5, 0, 2)), .ref (ad (5, 0, 3)), .ref (ad (5, 0, 4)), .ref (ad (5, 0, 5)), .ref (ad (5, 0, 6)), .ref (ad (5, 0, 7)), .int (z 7), .ref (ad (5, 0, 9)), .ref (ad (5, 0, 10)), .ref (ad (5, 0, 11)), .ref (ad (5, 0, 12)), .ref (ad (5, 0, 13)), .ref (ad (5, 0, 14)), .ref (ad (5, 0, 15)), .ref (ad (5, 0, 16)), .ref (ad (5, 0, 17)), .ref (ad (5, 0, 18)), .int (z 18), .int (z 19), .int (z 20), .ref (ad (5, 0, 22)), .ref (ad (5, 0, 23)), .int (z 23), .ref (ad (5, 0, 25)), .int (z 25), .ref (ad (5, 0, 27)), .int (z 27), .ref (ad (5, 0, 29)), .ref (ad (5, 0, 30)), .ref (ad (5, 0, 31)), .ref (ad (5, 0, 32)), .ref (ad (5, 0, 33))])
  else if k = 2 then iA 4 z
  else if k = 3 then iA 32 z
  else if k = 4 then iA 32 z
  else if k = 5 then iA 32 z
  else if k = 6 then iA 20 z
  else if k = 7 then iA 160 z
  else if k = 9 then iA 24 z
  else if k = 10 then iA 24 z
  else if k = 11 then iA 192 z
  else if k = 12 then iA 192 z
  else if k = 13 then iA 192 z
  else if k = 14 then iA 120 z
  else if k = 15 then iA 960 z
  else if k = 16 then zA 24 z
  else if k = 17 then zA 24 z
  else if k = 18 then iA 24 z
  else if k = 22 then iA 5 z
  else if k = 23 then iA 5 z
  else if k = 25 then iA 8 z
  else if k = 27 then iA 5 z
  else if k = 29 then iA 8 z
  else if k = 30 then iA 8 z
  else if k = 31 then iA 24 z
  else if k = 32 then iA 24 z
  else if k = 33 then iA 256 z
  else iA 0 z
def sh6 (ad : NM → Nat) (np nb i k : Nat) (z : Nat → Int32) (l : Nat → Int64) : AE :=
  if k = 0 then .inr (2, [.int (z 0), .ref (ad (6, i, 2)), .ref (ad (6, i, 3)), .ref (ad (6, i, 4)), .ref (ad (6, i, 5)), .ref (ad (6, i, 6))])
  else if k = 2 then iA 5 z
  else if k = 3 then iA 40 z
  else if k = 4 then iA 8 z
  else if k = 5 then iA 8 z
  else if k = 6 then iA 8 z
  else iA 0 z
def shp (ad : NM → Nat) (np nb : Nat) (m : NM) (z : Nat → Int32) (l : Nat → Int64) : AE :=
  if m.1 = 0 then sh0 ad np nb m.2.1 m.2.2 z l
  else if m.1 = 1 then sh1 ad np nb m.2.1 m.2.2 z l
  else if m.1 = 2 then sh2 ad np nb m.2.1 m.2.2 z l
  else if m.1 = 3 then sh3 ad np nb m.2.1 m.2.2 z l
  else if m.1 = 4 then sh4 ad np nb m.2.1 m.2.2 z l
  else if m.1 = 5 then sh5 ad np nb m.2.1 m.2.2 z l
  else if m.1 = 6 then sh6 ad np nb m.2.1 m.2.2 z l
  else iA 0 z
def lvc (np nb k : Nat) : Nat := if k = 2 then np else if k = 4 then nb else if k = 6 then nb else if k ≤ 5 then 1 else 0
def lvk (k j : Nat) : Bool :=
  if k = 0 then [0, 1, 3, 10].contains j
  else if k = 1 then [0, 1, 6, 8, 9, 10, 11, 12].contains j
  else if k = 2 then [0, 2, 3, 4, 5, 6].contains j
  else if k = 3 then [0, 1, 2, 4, 5, 6, 7].contains j
  else if k = 4 then [0, 3, 7].contains j
  else if k = 5 then [0, 2, 3, 4, 5, 6, 7, 9, 10, 11, 12, 13, 14, 15, 16, 17, 18, 22, 23, 25, 27, 29, 30, 31, 32, 33].contains j
  else if k = 6 then [0, 2, 3, 4, 5, 6].contains j
  else false
def lvm (np nb : Nat) (m : NM) : Prop := m.2.1 < lvc np nb m.1 ∧ lvk m.1 m.2.2 = true
/-- the heap holds the memory: np profiles, nb bells, whole numbers Z, longs L, at the addresses ad -/
def Rm (ad : NM → Nat) (np nb : Nat) (Z : ZT) (L : LT) (h : AH) : Prop := (∀ m, lvm np nb m → h (ad m) = some (shp ad np nb m (Z m) (L m))) ∧ ∀ m n, lvm np nb m → lvm np nb n → ad m = ad n → m = n
def upZ (Z : ZT) (n : NM) (k : Nat) (v : Int32) : ZT := fun m => if m = n then upd (Z n) k v else Z m
def upL (L : LT) (n : NM) (k : Nat) (v : Int64) : LT := fun m => if m = n then vp_updL (L n) k v else L m
theorem upZ_self (Z : ZT) (n : NM) (k : Nat) (v : Int32) : upZ Z n k v n = upd (Z n) k v := if_pos rfl
theorem upZ_ne {Z : ZT} {n m : NM} {k : Nat} {v : Int32} (h : m ≠ n) : upZ Z n k v m = Z m := if_neg h
theorem upZ_at (Z : ZT) (n : NM) (k : Nat) (v : Int32) : upZ Z n k v n k = v := by rw [upZ_self]; simp [upd]
theorem upZ_nk {Z : ZT} {n m : NM} {k j : Nat} {v : Int32} (h : m ≠ n ∨ j ≠ k) : upZ Z n k v m j = Z m j := by
  by_cases hm : m = n
  · subst hm
    rw [upZ_self]
    rcases h with h | h
    · exact absurd rfl h
    · simp [upd, h]
  · rw [upZ_ne hm]
theorem upL_self (L : LT) (n : NM) (k : Nat) (v : Int64) : upL L n k v n = vp_updL (L n) k v := if_pos rfl
theorem upL_ne {L : LT} {n m : NM} {k : Nat} {v : Int64} (h : m ≠ n) : upL L n k v m = L m := if_neg h
theorem upL_at (L : LT) (n : NM) (k : Nat) (v : Int64) : upL L n k v n k = v := by rw [upL_self]; simp [vp_updL]
theorem upL_nk {L : LT} {n m : NM} {k j : Nat} {v : Int64} (h : m ≠ n ∨ j ≠ k) : upL L n k v m j = L m j := by
  by_cases hm : m = n
  · subst hm
    rw [upL_self]
    rcases h with h | h
    · exact absurd rfl h
    · simp [vp_updL, h]
  · rw [upL_ne hm]
theorem Rm.up {ad : NM → Nat} {np nb : Nat} {Z : ZT} {L : LT} {h : AH} (hR : Rm ad np nb Z L h) (n : NM) (k : Nat) (v : Int32) (hn : lvm np nb n) {e : AE} (he : e = shp ad np nb n (upd (Z n) k v) (L n)) : Rm ad np nb (upZ Z n k v) L (upA h (ad n) e) := by
  refine ⟨fun m hm => ?_, hR.2⟩
  by_cases hmn : m = n
  · subst hmn
    rw [upA_self, upZ_self, he]
  · rw [upA_ne (fun q => hmn (hR.2 m n hm hn q)), upZ_ne hmn]
    exact hR.1 m hm
theorem Rm.upl {ad : NM → Nat} {np nb : Nat} {Z : ZT} {L : LT} {h : AH} (hR : Rm ad np nb Z L h) (n : NM) (k : Nat) (v : Int64) (hn : lvm np nb n) {e : AE} (he : e = shp ad np nb n (Z n) (vp_updL (L n) k v)) : Rm ad np nb Z (upL L n k v) (upA h (ad n) e) := by
  refine ⟨fun m hm => ?_, hR.2⟩
  by_cases hmn : m = n
  · subst hmn
    rw [upA_self, upL_self, he]
  · rw [upA_ne (fun q => hmn (hR.2 m n hm hn q)), upL_ne hmn]
    exact hR.1 m hm
section RR
variable {Θ : TH} {cc : ByteArray} {h : AH} {k : Nat × Nat} {lv : List (Option Value)} {pc : Nat} {st : List Value} {ad : NM → Nat} {np nb : Nat} {Z : ZT} {L : LT}
theorem r_iast (hR : Rm ad np nb Z L h) {m : NM} {n : Nat} {i x : Int32} (hm : lvm np nb m) (hs : ∀ z, shp ad np nb m z (L m) = iA n z) (j : Nat) (hi : i = nI j) (hj : j < n) (hn : n < 2147483648) (hd : decode cc pc = .ok (.iastore, 1)) (kk : ∀ h', Rm ad np nb (upZ Z m j x) L h' → J Θ cc h' k lv (pc + 1) st) : J Θ cc h k lv pc (.int x :: .int i :: .ref (ad m) :: st) :=
  j_iast (by rw [hR.1 m hm, hs]) j hi hj hn hd (kk _ (hR.up m j x hm (hs _).symm))
theorem r_zast (hR : Rm ad np nb Z L h) {m : NM} {n : Nat} {i x : Int32} (hm : lvm np nb m) (hs : ∀ z, shp ad np nb m z (L m) = zA n z) (j : Nat) (hi : i = nI j) (hj : j < n) (hn : n < 2147483648) (hx : narrow .boolean (.int x) = .int x) (hd : decode cc pc = .ok (.bastore, 1)) (kk : ∀ h', Rm ad np nb (upZ Z m j x) L h' → J Θ cc h' k lv (pc + 1) st) : J Θ cc h k lv pc (.int x :: .int i :: .ref (ad m) :: st) :=
  j_zast (by rw [hR.1 m hm, hs]) j hi hj hn hx hd (kk _ (hR.up m j x hm (hs _).symm))
theorem r_last (hR : Rm ad np nb Z L h) {m : NM} {n : Nat} {i : Int32} {x : Int64} (hm : lvm np nb m) (hs : ∀ z, shp ad np nb m (Z m) z = lA n z) (j : Nat) (hi : i = nI j) (hj : j < n) (hn : n < 2147483648) (hd : decode cc pc = .ok (.lastore, 1)) (kk : ∀ h', Rm ad np nb Z (upL L m j x) h' → J Θ cc h' k lv (pc + 1) st) : J Θ cc h k lv pc (.long x :: .int i :: .ref (ad m) :: st) :=
  j_last (by rw [hR.1 m hm, hs]) j hi hj hn hd (kk _ (hR.upl m j x hm (hs _).symm))
theorem nar_int (x : Int32) : narrow .int (.int x) = .int x := rfl
theorem qX4_39 (hM : Θ.2.2.1.1.cls = RX4) (hR : Rm ad np nb Z L h) {x : Int32} (hd : decode cc pc = .ok (.putfield 39, 3)) (kk : ∀ h2, Rm ad np nb (upZ Z (0, 0, 0) 1 x) L h2 → J Θ cc h2 k lv (pc + 3) st) : J Θ cc h k lv pc (.int x :: .ref (ad (0, 0, 0)) :: st) :=
  pX4_39 hM (hR.1 _ ⟨Nat.zero_lt_one, rfl⟩) rfl rfl (Nat.le_of_ble_eq_true rfl) hd (kk _ (hR.up (0, 0, 0) 1 x ⟨Nat.zero_lt_one, rfl⟩ rfl))
theorem qX4_78 (hM : Θ.2.2.1.1.cls = RX4) (hR : Rm ad np nb Z L h) {x : Int32} (hd : decode cc pc = .ok (.putfield 78, 3)) (kk : ∀ h2, Rm ad np nb (upZ Z (0, 0, 0) 4 x) L h2 → J Θ cc h2 k lv (pc + 3) st) : J Θ cc h k lv pc (.int x :: .ref (ad (0, 0, 0)) :: st) :=
  pX4_78 hM (hR.1 _ ⟨Nat.zero_lt_one, rfl⟩) rfl rfl (Nat.le_of_ble_eq_true rfl) hd (kk _ (hR.up (0, 0, 0) 4 x ⟨Nat.zero_lt_one, rfl⟩ rfl))
theorem qX4_82 (hM : Θ.2.2.1.1.cls = RX4) (hR : Rm ad np nb Z L h) {x : Int32} (hd : decode cc pc = .ok (.putfield 82, 3)) (kk : ∀ h2, Rm ad np nb (upZ Z (0, 0, 0) 5 x) L h2 → J Θ cc h2 k lv (pc + 3) st) : J Θ cc h k lv pc (.int x :: .ref (ad (0, 0, 0)) :: st) :=
  pX4_82 hM (hR.1 _ ⟨Nat.zero_lt_one, rfl⟩) rfl rfl (Nat.le_of_ble_eq_true rfl) hd (kk _ (hR.up (0, 0, 0) 5 x ⟨Nat.zero_lt_one, rfl⟩ rfl))
theorem qX4_85 (hM : Θ.2.2.1.1.cls = RX4) (hR : Rm ad np nb Z L h) {x : Int32} (hd : decode cc pc = .ok (.putfield 85, 3)) (kk : ∀ h2, Rm ad np nb (upZ Z (0, 0, 0) 3 x) L h2 → J Θ cc h2 k lv (pc + 3) st) : J Θ cc h k lv pc (.int x :: .ref (ad (0, 0, 0)) :: st) :=
  pX4_85 hM (hR.1 _ ⟨Nat.zero_lt_one, rfl⟩) rfl rfl (Nat.le_of_ble_eq_true rfl) hd (kk _ (hR.up (0, 0, 0) 3 x ⟨Nat.zero_lt_one, rfl⟩ rfl))
theorem qX4_120 (hM : Θ.2.2.1.1.cls = RX4) (hR : Rm ad np nb Z L h) {b : Nat} (hb : b < nb) {x : Int32} (hx : narrow .boolean (.int x) = .int x) (hf : fits .boolean (.int x) = true) (hd : decode cc pc = .ok (.putfield 120, 3)) (kk : ∀ h2, Rm ad np nb (upZ Z (4, b, 0) 3 x) L h2 → J Θ cc h2 k lv (pc + 3) st) : J Θ cc h k lv pc (.int x :: .ref (ad (4, b, 0)) :: st) :=
  pX4_120 hM (hR.1 _ ⟨hb, rfl⟩) hx hf (Nat.le_of_ble_eq_true rfl) hd (kk _ (hR.up (4, b, 0) 3 x ⟨hb, rfl⟩ rfl))
theorem qX4_124 (hM : Θ.2.2.1.1.cls = RX4) (hR : Rm ad np nb Z L h) {b : Nat} (hb : b < nb) {x : Int32} (hx : narrow .boolean (.int x) = .int x) (hf : fits .boolean (.int x) = true) (hd : decode cc pc = .ok (.putfield 124, 3)) (kk : ∀ h2, Rm ad np nb (upZ Z (4, b, 0) 4 x) L h2 → J Θ cc h2 k lv (pc + 3) st) : J Θ cc h k lv pc (.int x :: .ref (ad (4, b, 0)) :: st) :=
  pX4_124 hM (hR.1 _ ⟨hb, rfl⟩) hx hf (Nat.le_of_ble_eq_true rfl) hd (kk _ (hR.up (4, b, 0) 4 x ⟨hb, rfl⟩ rfl))
theorem qX4_127 (hM : Θ.2.2.1.1.cls = RX4) (hR : Rm ad np nb Z L h) {b : Nat} (hb : b < nb) {x : Int32} (hd : decode cc pc = .ok (.putfield 127, 3)) (kk : ∀ h2, Rm ad np nb (upZ Z (4, b, 0) 5 x) L h2 → J Θ cc h2 k lv (pc + 3) st) : J Θ cc h k lv pc (.int x :: .ref (ad (4, b, 0)) :: st) :=
  pX4_127 hM (hR.1 _ ⟨hb, rfl⟩) rfl rfl (Nat.le_of_ble_eq_true rfl) hd (kk _ (hR.up (4, b, 0) 5 x ⟨hb, rfl⟩ rfl))
theorem qX4_130 (hM : Θ.2.2.1.1.cls = RX4) (hR : Rm ad np nb Z L h) {x : Int32} (hd : decode cc pc = .ok (.putfield 130, 3)) (kk : ∀ h2, Rm ad np nb (upZ Z (0, 0, 0) 6 x) L h2 → J Θ cc h2 k lv (pc + 3) st) : J Θ cc h k lv pc (.int x :: .ref (ad (0, 0, 0)) :: st) :=
  pX4_130 hM (hR.1 _ ⟨Nat.zero_lt_one, rfl⟩) rfl rfl (Nat.le_of_ble_eq_true rfl) hd (kk _ (hR.up (0, 0, 0) 6 x ⟨Nat.zero_lt_one, rfl⟩ rfl))
theorem qX4_161 (hM : Θ.2.2.1.1.cls = RX4) (hR : Rm ad np nb Z L h) {x : Int32} (hd : decode cc pc = .ok (.putfield 161, 3)) (kk : ∀ h2, Rm ad np nb (upZ Z (1, 0, 0) 1 x) L h2 → J Θ cc h2 k lv (pc + 3) st) : J Θ cc h k lv pc (.int x :: .ref (ad (1, 0, 0)) :: st) :=
  pX4_161 hM (hR.1 _ ⟨Nat.zero_lt_one, rfl⟩) rfl rfl (Nat.le_of_ble_eq_true rfl) hd (kk _ (hR.up (1, 0, 0) 1 x ⟨Nat.zero_lt_one, rfl⟩ rfl))
theorem qX4_187 (hM : Θ.2.2.1.1.cls = RX4) (hR : Rm ad np nb Z L h) {x : Int32} (hd : decode cc pc = .ok (.putfield 187, 3)) (kk : ∀ h2, Rm ad np nb (upZ Z (0, 0, 0) 10 x) L h2 → J Θ cc h2 k lv (pc + 3) st) : J Θ cc h k lv pc (.int x :: .ref (ad (0, 0, 0)) :: st) :=
  pX4_187 hM (hR.1 _ ⟨Nat.zero_lt_one, rfl⟩) rfl rfl (Nat.le_of_ble_eq_true rfl) hd (kk _ (hR.up (0, 0, 0) 10 x ⟨Nat.zero_lt_one, rfl⟩ rfl))
theorem qX4_196 (hM : Θ.2.2.1.1.cls = RX4) (hR : Rm ad np nb Z L h) {x : Int32} (hd : decode cc pc = .ok (.putfield 196, 3)) (kk : ∀ h2, Rm ad np nb (upZ Z (1, 0, 0) 2 x) L h2 → J Θ cc h2 k lv (pc + 3) st) : J Θ cc h k lv pc (.int x :: .ref (ad (1, 0, 0)) :: st) :=
  pX4_196 hM (hR.1 _ ⟨Nat.zero_lt_one, rfl⟩) rfl rfl (Nat.le_of_ble_eq_true rfl) hd (kk _ (hR.up (1, 0, 0) 2 x ⟨Nat.zero_lt_one, rfl⟩ rfl))
theorem qX4_210 (hM : Θ.2.2.1.1.cls = RX4) (hR : Rm ad np nb Z L h) {b : Nat} (hb : b < nb) {x : Int32} (hd : decode cc pc = .ok (.putfield 210, 3)) (kk : ∀ h2, Rm ad np nb (upZ Z (4, b, 0) 7 x) L h2 → J Θ cc h2 k lv (pc + 3) st) : J Θ cc h k lv pc (.int x :: .ref (ad (4, b, 0)) :: st) :=
  pX4_210 hM (hR.1 _ ⟨hb, rfl⟩) rfl rfl (Nat.le_of_ble_eq_true rfl) hd (kk _ (hR.up (4, b, 0) 7 x ⟨hb, rfl⟩ rfl))
theorem qX0_34 (hM : Θ.2.2.1.1.cls = RX0) (hR : Rm ad np nb Z L h) {b : Nat} (hb : b < nb) {x : Int32} (hd : decode cc pc = .ok (.putfield 34, 3)) (kk : ∀ h2, Rm ad np nb (upZ Z (4, b, 0) 5 x) L h2 → J Θ cc h2 k lv (pc + 3) st) : J Θ cc h k lv pc (.int x :: .ref (ad (4, b, 0)) :: st) :=
  pX0_34 hM (hR.1 _ ⟨hb, rfl⟩) rfl rfl (Nat.le_of_ble_eq_true rfl) hd (kk _ (hR.up (4, b, 0) 5 x ⟨hb, rfl⟩ rfl))
theorem qX0_40 (hM : Θ.2.2.1.1.cls = RX0) (hR : Rm ad np nb Z L h) {b : Nat} (hb : b < nb) {x : Int32} (hd : decode cc pc = .ok (.putfield 40, 3)) (kk : ∀ h2, Rm ad np nb (upZ Z (4, b, 0) 7 x) L h2 → J Θ cc h2 k lv (pc + 3) st) : J Θ cc h k lv pc (.int x :: .ref (ad (4, b, 0)) :: st) :=
  pX0_40 hM (hR.1 _ ⟨hb, rfl⟩) rfl rfl (Nat.le_of_ble_eq_true rfl) hd (kk _ (hR.up (4, b, 0) 7 x ⟨hb, rfl⟩ rfl))
theorem qX0_43 (hM : Θ.2.2.1.1.cls = RX0) (hR : Rm ad np nb Z L h) {b : Nat} (hb : b < nb) {x : Int32} (hd : decode cc pc = .ok (.putfield 43, 3)) (kk : ∀ h2, Rm ad np nb (upZ Z (4, b, 0) 8 x) L h2 → J Θ cc h2 k lv (pc + 3) st) : J Θ cc h k lv pc (.int x :: .ref (ad (4, b, 0)) :: st) :=
  pX0_43 hM (hR.1 _ ⟨hb, rfl⟩) rfl rfl (Nat.le_of_ble_eq_true rfl) hd (kk _ (hR.up (4, b, 0) 8 x ⟨hb, rfl⟩ rfl))
theorem qX0_54 (hM : Θ.2.2.1.1.cls = RX0) (hR : Rm ad np nb Z L h) {b : Nat} (hb : b < nb) {x : Int32} (hx : narrow .boolean (.int x) = .int x) (hf : fits .boolean (.int x) = true) (hd : decode cc pc = .ok (.putfield 54, 3)) (kk : ∀ h2, Rm ad np nb (upZ Z (4, b, 0) 3 x) L h2 → J Θ cc h2 k lv (pc + 3) st) : J Θ cc h k lv pc (.int x :: .ref (ad (4, b, 0)) :: st) :=
  pX0_54 hM (hR.1 _ ⟨hb, rfl⟩) hx hf (Nat.le_of_ble_eq_true rfl) hd (kk _ (hR.up (4, b, 0) 3 x ⟨hb, rfl⟩ rfl))
theorem qX0_58 (hM : Θ.2.2.1.1.cls = RX0) (hR : Rm ad np nb Z L h) {b : Nat} (hb : b < nb) {x : Int32} (hx : narrow .boolean (.int x) = .int x) (hf : fits .boolean (.int x) = true) (hd : decode cc pc = .ok (.putfield 58, 3)) (kk : ∀ h2, Rm ad np nb (upZ Z (4, b, 0) 4 x) L h2 → J Θ cc h2 k lv (pc + 3) st) : J Θ cc h k lv pc (.int x :: .ref (ad (4, b, 0)) :: st) :=
  pX0_58 hM (hR.1 _ ⟨hb, rfl⟩) hx hf (Nat.le_of_ble_eq_true rfl) hd (kk _ (hR.up (4, b, 0) 4 x ⟨hb, rfl⟩ rfl))
theorem qX1_19 (hM : Θ.2.2.1.1.cls = RX1) (hR : Rm ad np nb Z L h) {x : Int64} (hd : decode cc pc = .ok (.putfield 19, 3)) (kk : ∀ h2, Rm ad np nb Z (upL L (1, 0, 0) 4 x) h2 → J Θ cc h2 k lv (pc + 3) st) : J Θ cc h k lv pc (.long x :: .ref (ad (1, 0, 0)) :: st) :=
  pX1_19 hM (hR.1 _ ⟨Nat.zero_lt_one, rfl⟩) rfl rfl (Nat.le_of_ble_eq_true rfl) hd (kk _ (hR.upl (1, 0, 0) 4 x ⟨Nat.zero_lt_one, rfl⟩ rfl))
theorem qX1_42 (hM : Θ.2.2.1.1.cls = RX1) (hR : Rm ad np nb Z L h) {x : Int32} (hx : narrow .boolean (.int x) = .int x) (hf : fits .boolean (.int x) = true) (hd : decode cc pc = .ok (.putfield 42, 3)) (kk : ∀ h2, Rm ad np nb (upZ Z (1, 0, 0) 3 x) L h2 → J Θ cc h2 k lv (pc + 3) st) : J Θ cc h k lv pc (.int x :: .ref (ad (1, 0, 0)) :: st) :=
  pX1_42 hM (hR.1 _ ⟨Nat.zero_lt_one, rfl⟩) hx hf (Nat.le_of_ble_eq_true rfl) hd (kk _ (hR.up (1, 0, 0) 3 x ⟨Nat.zero_lt_one, rfl⟩ rfl))
theorem qX1_46 (hM : Θ.2.2.1.1.cls = RX1) (hR : Rm ad np nb Z L h) {x : Int32} (hd : decode cc pc = .ok (.putfield 46, 3)) (kk : ∀ h2, Rm ad np nb (upZ Z (1, 0, 0) 1 x) L h2 → J Θ cc h2 k lv (pc + 3) st) : J Θ cc h k lv pc (.int x :: .ref (ad (1, 0, 0)) :: st) :=
  pX1_46 hM (hR.1 _ ⟨Nat.zero_lt_one, rfl⟩) rfl rfl (Nat.le_of_ble_eq_true rfl) hd (kk _ (hR.up (1, 0, 0) 1 x ⟨Nat.zero_lt_one, rfl⟩ rfl))
theorem qX1_50 (hM : Θ.2.2.1.1.cls = RX1) (hR : Rm ad np nb Z L h) {x : Int32} (hd : decode cc pc = .ok (.putfield 50, 3)) (kk : ∀ h2, Rm ad np nb (upZ Z (1, 0, 0) 2 x) L h2 → J Θ cc h2 k lv (pc + 3) st) : J Θ cc h k lv pc (.int x :: .ref (ad (1, 0, 0)) :: st) :=
  pX1_50 hM (hR.1 _ ⟨Nat.zero_lt_one, rfl⟩) rfl rfl (Nat.le_of_ble_eq_true rfl) hd (kk _ (hR.up (1, 0, 0) 2 x ⟨Nat.zero_lt_one, rfl⟩ rfl))
theorem qX1_61 (hM : Θ.2.2.1.1.cls = RX1) (hR : Rm ad np nb Z L h) {x : Int32} (hd : decode cc pc = .ok (.putfield 61, 3)) (kk : ∀ h2, Rm ad np nb (upZ Z (1, 0, 0) 6 x) L h2 → J Θ cc h2 k lv (pc + 3) st) : J Θ cc h k lv pc (.int x :: .ref (ad (1, 0, 0)) :: st) :=
  pX1_61 hM (hR.1 _ ⟨Nat.zero_lt_one, rfl⟩) rfl rfl (Nat.le_of_ble_eq_true rfl) hd (kk _ (hR.up (1, 0, 0) 6 x ⟨Nat.zero_lt_one, rfl⟩ rfl))
theorem qX1_74 (hM : Θ.2.2.1.1.cls = RX1) (hR : Rm ad np nb Z L h) {b : Nat} (hb : b < nb) {x : Int32} (hx : narrow .boolean (.int x) = .int x) (hf : fits .boolean (.int x) = true) (hd : decode cc pc = .ok (.putfield 74, 3)) (kk : ∀ h2, Rm ad np nb (upZ Z (4, b, 0) 4 x) L h2 → J Θ cc h2 k lv (pc + 3) st) : J Θ cc h k lv pc (.int x :: .ref (ad (4, b, 0)) :: st) :=
  pX1_74 hM (hR.1 _ ⟨hb, rfl⟩) hx hf (Nat.le_of_ble_eq_true rfl) hd (kk _ (hR.up (4, b, 0) 4 x ⟨hb, rfl⟩ rfl))
theorem qX3_36 (hM : Θ.2.2.1.1.cls = RX3) (hR : Rm ad np nb Z L h) {x : Int32} (hd : decode cc pc = .ok (.putfield 36, 3)) (kk : ∀ h2, Rm ad np nb (upZ Z (3, 0, 0) 2 x) L h2 → J Θ cc h2 k lv (pc + 3) st) : J Θ cc h k lv pc (.int x :: .ref (ad (3, 0, 0)) :: st) :=
  pX3_36 hM (hR.1 _ ⟨Nat.zero_lt_one, rfl⟩) rfl rfl (Nat.le_of_ble_eq_true rfl) hd (kk _ (hR.up (3, 0, 0) 2 x ⟨Nat.zero_lt_one, rfl⟩ rfl))
theorem qX3_40 (hM : Θ.2.2.1.1.cls = RX3) (hR : Rm ad np nb Z L h) {b : Nat} (hb : b < nb) {x : Int32} (hd : decode cc pc = .ok (.putfield 40, 3)) (kk : ∀ h2, Rm ad np nb (upZ Z (4, b, 0) 8 x) L h2 → J Θ cc h2 k lv (pc + 3) st) : J Θ cc h k lv pc (.int x :: .ref (ad (4, b, 0)) :: st) :=
  pX3_40 hM (hR.1 _ ⟨hb, rfl⟩) rfl rfl (Nat.le_of_ble_eq_true rfl) hd (kk _ (hR.up (4, b, 0) 8 x ⟨hb, rfl⟩ rfl))
theorem qX3_45 (hM : Θ.2.2.1.1.cls = RX3) (hR : Rm ad np nb Z L h) {b : Nat} (hb : b < nb) {x : Int32} (hd : decode cc pc = .ok (.putfield 45, 3)) (kk : ∀ h2, Rm ad np nb (upZ Z (4, b, 0) 7 x) L h2 → J Θ cc h2 k lv (pc + 3) st) : J Θ cc h k lv pc (.int x :: .ref (ad (4, b, 0)) :: st) :=
  pX3_45 hM (hR.1 _ ⟨hb, rfl⟩) rfl rfl (Nat.le_of_ble_eq_true rfl) hd (kk _ (hR.up (4, b, 0) 7 x ⟨hb, rfl⟩ rfl))
theorem qX5_86 (hM : Θ.2.2.1.1.cls = RX5) (hR : Rm ad np nb Z L h) {x : Int32} (hd : decode cc pc = .ok (.putfield 86, 3)) (kk : ∀ h2, Rm ad np nb (upZ Z (5, 0, 0) 7 x) L h2 → J Θ cc h2 k lv (pc + 3) st) : J Θ cc h k lv pc (.int x :: .ref (ad (5, 0, 0)) :: st) :=
  pX5_86 hM (hR.1 _ ⟨Nat.zero_lt_one, rfl⟩) rfl rfl (Nat.le_of_ble_eq_true rfl) hd (kk _ (hR.up (5, 0, 0) 7 x ⟨Nat.zero_lt_one, rfl⟩ rfl))
theorem qX5_94 (hM : Θ.2.2.1.1.cls = RX5) (hR : Rm ad np nb Z L h) {x : Int32} (hd : decode cc pc = .ok (.putfield 94, 3)) (kk : ∀ h2, Rm ad np nb (upZ Z (5, 0, 0) 0 x) L h2 → J Θ cc h2 k lv (pc + 3) st) : J Θ cc h k lv pc (.int x :: .ref (ad (5, 0, 0)) :: st) :=
  pX5_94 hM (hR.1 _ ⟨Nat.zero_lt_one, rfl⟩) rfl rfl (Nat.le_of_ble_eq_true rfl) hd (kk _ (hR.up (5, 0, 0) 0 x ⟨Nat.zero_lt_one, rfl⟩ rfl))
theorem qX5_98 (hM : Θ.2.2.1.1.cls = RX5) (hR : Rm ad np nb Z L h) {x : Int32} (hd : decode cc pc = .ok (.putfield 98, 3)) (kk : ∀ h2, Rm ad np nb (upZ Z (5, 0, 0) 18 x) L h2 → J Θ cc h2 k lv (pc + 3) st) : J Θ cc h k lv pc (.int x :: .ref (ad (5, 0, 0)) :: st) :=
  pX5_98 hM (hR.1 _ ⟨Nat.zero_lt_one, rfl⟩) rfl rfl (Nat.le_of_ble_eq_true rfl) hd (kk _ (hR.up (5, 0, 0) 18 x ⟨Nat.zero_lt_one, rfl⟩ rfl))
theorem qX5_102 (hM : Θ.2.2.1.1.cls = RX5) (hR : Rm ad np nb Z L h) {x : Int32} (hd : decode cc pc = .ok (.putfield 102, 3)) (kk : ∀ h2, Rm ad np nb (upZ Z (5, 0, 0) 19 x) L h2 → J Θ cc h2 k lv (pc + 3) st) : J Θ cc h k lv pc (.int x :: .ref (ad (5, 0, 0)) :: st) :=
  pX5_102 hM (hR.1 _ ⟨Nat.zero_lt_one, rfl⟩) rfl rfl (Nat.le_of_ble_eq_true rfl) hd (kk _ (hR.up (5, 0, 0) 19 x ⟨Nat.zero_lt_one, rfl⟩ rfl))
theorem qX5_105 (hM : Θ.2.2.1.1.cls = RX5) (hR : Rm ad np nb Z L h) {x : Int32} (hd : decode cc pc = .ok (.putfield 105, 3)) (kk : ∀ h2, Rm ad np nb (upZ Z (5, 0, 0) 20 x) L h2 → J Θ cc h2 k lv (pc + 3) st) : J Θ cc h k lv pc (.int x :: .ref (ad (5, 0, 0)) :: st) :=
  pX5_105 hM (hR.1 _ ⟨Nat.zero_lt_one, rfl⟩) rfl rfl (Nat.le_of_ble_eq_true rfl) hd (kk _ (hR.up (5, 0, 0) 20 x ⟨Nat.zero_lt_one, rfl⟩ rfl))
theorem qX5_140 (hM : Θ.2.2.1.1.cls = RX5) (hR : Rm ad np nb Z L h) {x : Int32} (hd : decode cc pc = .ok (.putfield 140, 3)) (kk : ∀ h2, Rm ad np nb (upZ Z (5, 0, 0) 23 x) L h2 → J Θ cc h2 k lv (pc + 3) st) : J Θ cc h k lv pc (.int x :: .ref (ad (5, 0, 0)) :: st) :=
  pX5_140 hM (hR.1 _ ⟨Nat.zero_lt_one, rfl⟩) rfl rfl (Nat.le_of_ble_eq_true rfl) hd (kk _ (hR.up (5, 0, 0) 23 x ⟨Nat.zero_lt_one, rfl⟩ rfl))
theorem qX5_143 (hM : Θ.2.2.1.1.cls = RX5) (hR : Rm ad np nb Z L h) {x : Int32} (hd : decode cc pc = .ok (.putfield 143, 3)) (kk : ∀ h2, Rm ad np nb (upZ Z (5, 0, 0) 25 x) L h2 → J Θ cc h2 k lv (pc + 3) st) : J Θ cc h k lv pc (.int x :: .ref (ad (5, 0, 0)) :: st) :=
  pX5_143 hM (hR.1 _ ⟨Nat.zero_lt_one, rfl⟩) rfl rfl (Nat.le_of_ble_eq_true rfl) hd (kk _ (hR.up (5, 0, 0) 25 x ⟨Nat.zero_lt_one, rfl⟩ rfl))
theorem qX5_164 (hM : Θ.2.2.1.1.cls = RX5) (hR : Rm ad np nb Z L h) {x : Int32} (hd : decode cc pc = .ok (.putfield 164, 3)) (kk : ∀ h2, Rm ad np nb (upZ Z (5, 0, 0) 27 x) L h2 → J Θ cc h2 k lv (pc + 3) st) : J Θ cc h k lv pc (.int x :: .ref (ad (5, 0, 0)) :: st) :=
  pX5_164 hM (hR.1 _ ⟨Nat.zero_lt_one, rfl⟩) rfl rfl (Nat.le_of_ble_eq_true rfl) hd (kk _ (hR.up (5, 0, 0) 27 x ⟨Nat.zero_lt_one, rfl⟩ rfl))
end RR
end
section
theorem upA_upA (h : AH) (a : Nat) (e e' : AE) : upA (upA h a e) a e' = upA h a e' := by
  funext b
  by_cases hb : b = a
  · simp [upA, hb]
  · simp [upA, hb]
theorem upA_eta {h : AH} {a : Nat} {e : AE} (he : h a = some e) : upA h a e = h := by
  funext b
  by_cases hb : b = a
  · simp [upA, hb, he]
  · simp [upA, hb]
theorem arrV_congr (c : ClassId) {n : Nat} {f g : Nat → Value} (hfg : ∀ j, j < n → f j = g j) : arrV c n f = arrV c n g := by
  unfold arrV
  congr 2
  funext j
  exact hfg j.val j.isLt
theorem hp.fun0 {G : GG} {h : AH} {H : Heap} {a n t : Nat} {f g : Nat → Int32} (hh : hp G h H) (he : h a = some (.inl (t, n, .inl f))) (hfg : ∀ j, j < n → f j = g j) : hp G (upA h a (.inl (t, n, .inl g))) H := by
  intro b x hb
  by_cases hba : b = a
  · subst hba
    rw [upA_self] at hb
    cases hb
    refine ⟨(hh b _ he).1, ?_⟩
    have := (hh b _ he).2
    show H[b]? = some (vp_cell _ _)
    rw [vp_cell_i, ← arrV_congr _ (f := fun j => .int (f j)) (fun j hj => by rw [hfg j hj])]
    exact this
  · rw [upA_ne hba] at hb
    exact hh b x hb
theorem hp.fun1 {G : GG} {h : AH} {H : Heap} {a n t : Nat} {f g : Nat → Int64} (hh : hp G h H) (he : h a = some (.inl (t, n, .inr (.inl f)))) (hfg : ∀ j, j < n → f j = g j) : hp G (upA h a (.inl (t, n, .inr (.inl g)))) H := by
  intro b x hb
  by_cases hba : b = a
  · subst hba
    rw [upA_self] at hb
    cases hb
    refine ⟨(hh b _ he).1, ?_⟩
    have := (hh b _ he).2
    show H[b]? = some (vp_cell _ _)
    rw [vp_cell_l, ← arrV_congr _ (f := fun j => .long (f j)) (fun j hj => by rw [hfg j hj])]
    exact this
  · rw [upA_ne hba] at hb
    exact hh b x hb
/-- an array's places beyond its length don't count -/
theorem J.fun0 {Θ : TH} {cc : ByteArray} {h : AH} {k : Nat × Nat} {lv : List (Option Value)} {pc : Nat} {st : List Value} {a n t : Nat} {f : Nat → Int32} (g : Nat → Int32) (he : h a = some (.inl (t, n, .inl f))) (hfg : ∀ j, j < n → f j = g j) (kk : J Θ cc (upA h a (.inl (t, n, .inl g))) k lv pc st) : J Θ cc h k lv pc st :=
  fun p e s m args below meth c C H locs ls hH hS hl => kk p e s m args below meth c C H locs ls (hH.fun0 he hfg) hS hl
theorem J.fun1 {Θ : TH} {cc : ByteArray} {h : AH} {k : Nat × Nat} {lv : List (Option Value)} {pc : Nat} {st : List Value} {a n t : Nat} {f : Nat → Int64} (g : Nat → Int64) (he : h a = some (.inl (t, n, .inr (.inl f)))) (hfg : ∀ j, j < n → f j = g j) (kk : J Θ cc (upA h a (.inl (t, n, .inr (.inl g)))) k lv pc st) : J Θ cc h k lv pc st :=
  fun p e s m args below meth c C H locs ls hH hS hl => kk p e s m args below meth c C H locs ls (hH.fun1 he hfg) hS hl

set_option maxRecDepth 100000 in
set_option maxHeartbeats 4000000 in
theorem c_X4_within (l : Launch) (G : GG) {h : AH} {v a b : Int32} : Con l G mX4_within 0 0 0 [.int v, .int a, .int b] h (fun r h2 => r = some (.int (bi (iw v a b))) ∧ h2 = h) := by
  refine Con.of 0 rfl (Nat.le_of_ble_eq_true rfl) ?_
  refine j_iload_n dX4_within_0 rfl ?_
  refine j_iload_n dX4_within_1 rfl ?_
  refine j_icmp_lt 14 dX4_within_2 (by decide) (fun c_2 => ?_) (fun c_2 => ?_)
  · first | rw [iw_lo c_2] | rw [iw_hi c_7]
    refine j_iconst (v := 0) dX4_within_14 (by decide) ?_
    refine j_zret rfl rfl (Nat.le_of_ble_eq_true rfl) (Nat.le_of_ble_eq_true rfl) dX4_within_15 ?_
    exact ⟨rfl, rfl⟩
  · refine j_iload_n dX4_within_5 rfl ?_
    refine j_iload_n dX4_within_6 rfl ?_
    refine j_icmp_gt 14 dX4_within_7 (by decide) (fun c_7 => ?_) (fun c_7 => ?_)
    · first | rw [iw_lo c_2] | rw [iw_hi c_7]
      refine j_iconst (v := 0) dX4_within_14 (by decide) ?_
      refine j_zret rfl rfl (Nat.le_of_ble_eq_true rfl) (Nat.le_of_ble_eq_true rfl) dX4_within_15 ?_
      exact ⟨rfl, rfl⟩
    · rw [iw_in c_2 c_7]
      refine j_iconst (v := 1) dX4_within_10 (by decide) ?_
      refine j_goto 15 dX4_within_11 (by decide) ?_
      refine j_zret rfl rfl (Nat.le_of_ble_eq_true rfl) (Nat.le_of_ble_eq_true rfl) dX4_within_15 ?_
      exact ⟨rfl, rfl⟩

set_option maxRecDepth 100000 in
set_option maxHeartbeats 4000000 in
theorem c_X5_in (l : Launch) (G : GG) {h : AH} {v a b : Int32} : Con l G mX5_in 0 0 0 [.int v, .int a, .int b] h (fun r h2 => r = some (.int (bi (iw v a b))) ∧ h2 = h) := by
  refine Con.of 0 rfl (Nat.le_of_ble_eq_true rfl) ?_
  refine j_iload_n dX5_in_0 rfl ?_
  refine j_iload_n dX5_in_1 rfl ?_
  refine j_icmp_lt 14 dX5_in_2 (by decide) (fun c_2 => ?_) (fun c_2 => ?_)
  · first | rw [iw_lo c_2] | rw [iw_hi c_7]
    refine j_iconst (v := 0) dX5_in_14 (by decide) ?_
    refine j_zret rfl rfl (Nat.le_of_ble_eq_true rfl) (Nat.le_of_ble_eq_true rfl) dX5_in_15 ?_
    exact ⟨rfl, rfl⟩
  · refine j_iload_n dX5_in_5 rfl ?_
    refine j_iload_n dX5_in_6 rfl ?_
    refine j_icmp_gt 14 dX5_in_7 (by decide) (fun c_7 => ?_) (fun c_7 => ?_)
    · first | rw [iw_lo c_2] | rw [iw_hi c_7]
      refine j_iconst (v := 0) dX5_in_14 (by decide) ?_
      refine j_zret rfl rfl (Nat.le_of_ble_eq_true rfl) (Nat.le_of_ble_eq_true rfl) dX5_in_15 ?_
      exact ⟨rfl, rfl⟩
    · rw [iw_in c_2 c_7]
      refine j_iconst (v := 1) dX5_in_10 (by decide) ?_
      refine j_goto 15 dX5_in_11 (by decide) ?_
      refine j_zret rfl rfl (Nat.le_of_ble_eq_true rfl) (Nat.le_of_ble_eq_true rfl) dX5_in_15 ?_
      exact ⟨rfl, rfl⟩

set_option maxRecDepth 100000 in
set_option maxHeartbeats 4000000 in
theorem c_X4_isHeight (l : Launch) (G : GG) {h : AH} {v : Int32} : Con l G mX4_isHeight 1 0 0 [.int v] h (fun r h2 => r = some (.int (bi (iw v 0 7))) ∧ h2 = h) := by
  refine Con.of 0 rfl (Nat.le_of_ble_eq_true rfl) ?_
  refine j_iload_n dX4_isHeight_0 rfl ?_
  refine j_iconst (v := 0) dX4_isHeight_1 (by decide) ?_
  refine j_bipush (v := 7) dX4_isHeight_2 (by decide) ?_
  refine j_callS (rest := []) (c_X4_within l G) cw_X4_within wl_X4_43 ws_X4_within rfl rfl (Nat.le_of_ble_eq_true rfl) (Nat.le_of_ble_eq_true rfl) (Nat.le_of_ble_eq_true rfl) (Nat.le_of_ble_eq_true rfl) (Nat.le_of_ble_eq_true rfl) dX4_isHeight_4 (fun v_4 h_4 e_4 => ?_)
  obtain ⟨rfl, hh⟩ := e_4
  have hh := hh.symm
  subst hh
  refine j_zret rfl (bi_nar _) (Nat.le_of_ble_eq_true rfl) (Nat.le_of_ble_eq_true rfl) dX4_isHeight_7 ?_
  exact ⟨rfl, rfl⟩

set_option maxRecDepth 100000 in
set_option maxHeartbeats 4000000 in
theorem c_X4_isPart (l : Launch) (G : GG) {h : AH} {v : Int32} : Con l G mX4_isPart 1 0 0 [.int v] h (fun r h2 => r = some (.int (bi (iw v 0 4))) ∧ h2 = h) := by
  refine Con.of 0 rfl (Nat.le_of_ble_eq_true rfl) ?_
  refine j_iload_n dX4_isPart_0 rfl ?_
  refine j_iconst (v := 0) dX4_isPart_1 (by decide) ?_
  refine j_iconst (v := 4) dX4_isPart_2 (by decide) ?_
  refine j_callS (rest := []) (c_X4_within l G) cw_X4_within wl_X4_43 ws_X4_within rfl rfl (Nat.le_of_ble_eq_true rfl) (Nat.le_of_ble_eq_true rfl) (Nat.le_of_ble_eq_true rfl) (Nat.le_of_ble_eq_true rfl) (Nat.le_of_ble_eq_true rfl) dX4_isPart_3 (fun v_3 h_3 e_3 => ?_)
  obtain ⟨rfl, hh⟩ := e_3
  have hh := hh.symm
  subst hh
  refine j_zret rfl (bi_nar _) (Nat.le_of_ble_eq_true rfl) (Nat.le_of_ble_eq_true rfl) dX4_isPart_6 ?_
  exact ⟨rfl, rfl⟩

set_option maxRecDepth 100000 in
set_option maxHeartbeats 4000000 in
theorem c_X4_isWay (l : Launch) (G : GG) {h : AH} {v : Int32} : Con l G mX4_isWay 1 0 0 [.int v] h (fun r h2 => r = some (.int (bi (iw v 0 4))) ∧ h2 = h) := by
  refine Con.of 0 rfl (Nat.le_of_ble_eq_true rfl) ?_
  refine j_iload_n dX4_isWay_0 rfl ?_
  refine j_iconst (v := 0) dX4_isWay_1 (by decide) ?_
  refine j_iconst (v := 4) dX4_isWay_2 (by decide) ?_
  refine j_callS (rest := []) (c_X4_within l G) cw_X4_within wl_X4_43 ws_X4_within rfl rfl (Nat.le_of_ble_eq_true rfl) (Nat.le_of_ble_eq_true rfl) (Nat.le_of_ble_eq_true rfl) (Nat.le_of_ble_eq_true rfl) (Nat.le_of_ble_eq_true rfl) dX4_isWay_3 (fun v_3 h_3 e_3 => ?_)
  obtain ⟨rfl, hh⟩ := e_3
  have hh := hh.symm
  subst hh
  refine j_zret rfl (bi_nar _) (Nat.le_of_ble_eq_true rfl) (Nat.le_of_ble_eq_true rfl) dX4_isWay_6 ?_
  exact ⟨rfl, rfl⟩

set_option maxRecDepth 100000 in
set_option maxHeartbeats 4000000 in
theorem c_J7_fill_53178 (l : Launch) (G : GG) {h : AH} {a n : Nat} {f : Nat → Int32} {x : Int32} (ha : h a = some (iA n f)) (hn : n < 2147483648) : Con l G mJ7_fill_53178 0 0 0 [.ref a, .int x] h (fun r h2 => r = none ∧ h2 = upA h a (iA n (fun _ => x))) := by
  have key : ∀ nn i, n < i + nn → i ≤ n → J (thM l G mJ7_fill_53178 0 0 0 (fun r h2 => r = none ∧ h2 = upA h a (iA n (fun _ => x)))) cJ7_fill_53178 (upA h a (iA n (fun j => if j < i then x else f j))) (0, 0) [some (.ref a), some (.int x), some (.int (nI i)), some (.int (nI n))] 5 [] := by
    intro nn
    induction nn with
    | zero => intro i h1 h2; omega
    | succ nn ih =>
      intro i h1 h2 
      refine j_iload_n dJ7_fill_53178_5 rfl ?_
      refine j_iload_n dJ7_fill_53178_6 rfl ?_
      refine j_icmp_ge 20 dJ7_fill_53178_7 (by decide) (fun c_7 => ?_) (fun c_7 => ?_)
      · have hlt : n ≤ i := (nI_leI (a := n) (b := i) (by omega) (by omega)).mp c_7
        refine J.fun0 (fun _ => x) (upA_self _ _ _) (fun j hj => if_pos (by omega)) ?_
        rw [upA_upA]
        refine j_vret rfl (Nat.le_of_ble_eq_true rfl) (Nat.le_of_ble_eq_true rfl) dJ7_fill_53178_20 ?_
        exact ⟨rfl, rfl⟩
      · have hlt : i < n := Nat.not_le.mp (fun q => c_7 ((nI_leI (a := n) (b := i) (by omega) (by omega)).mpr q))
        refine j_aload_n dJ7_fill_53178_10 rfl ?_
        refine j_iload_n dJ7_fill_53178_11 rfl ?_
        refine j_iload_n dJ7_fill_53178_12 rfl ?_
        refine j_iast (upA_self _ _ _) i rfl hlt hn dJ7_fill_53178_13 ?_
        rw [upA_upA]
        have e1 : upd (fun j => if j < i then x else f j) i x = (fun j => if j < i + 1 then x else f j) := by
          funext j
          by_cases hj : j = i
          · simp [upd, hj]
          · simp only [upd, if_neg hj]
            by_cases hj2 : j < i
            · rw [if_pos hj2, if_pos (by omega)]
            · rw [if_neg hj2, if_neg (by omega)]
        rw [e1]
        refine j_iinc dJ7_fill_53178_14 rfl (nI_inc _) (Nat.le_of_ble_eq_true rfl) rfl ?_
        refine j_goto 5 dJ7_fill_53178_17 (by decide) ?_
        exact ih (i + 1) (by omega) (by omega)
  refine Con.of 2 rfl (Nat.le_of_ble_eq_true rfl) ?_
  refine j_iconst (v := 0) dJ7_fill_53178_0 (by decide) ?_
  refine j_istore_n dJ7_fill_53178_1 (Nat.le_of_ble_eq_true rfl) rfl ?_
  refine j_aload_n dJ7_fill_53178_2 rfl ?_
  refine j_alen (t := 0) ha rfl rfl dJ7_fill_53178_3 ?_
  refine j_istore_n dJ7_fill_53178_4 (Nat.le_of_ble_eq_true rfl) rfl ?_
  have e0 : upA h a (iA n (fun j => if j < 0 then x else f j)) = h := by
    have : (fun j => if j < 0 then x else f j) = f := by funext j; exact if_neg (by omega)
    rw [this]
    exact upA_eta ha
  have k0 := key (n + 1) 0 (by omega) (by omega)
  rw [e0] at k0
  exact k0

set_option maxRecDepth 100000 in
set_option maxHeartbeats 4000000 in
theorem c_J7_fill_d0a16 (l : Launch) (G : GG) {h : AH} {a n : Nat} {f : Nat → Int64} {x : Int64} (ha : h a = some (lA n f)) (hn : n < 2147483648) : Con l G mJ7_fill_d0a16 0 0 0 [.ref a, .long x] h (fun r h2 => r = none ∧ h2 = upA h a (lA n (fun _ => x))) := by
  have key : ∀ nn i, n < i + nn → i ≤ n → J (thM l G mJ7_fill_d0a16 0 0 0 (fun r h2 => r = none ∧ h2 = upA h a (lA n (fun _ => x)))) cJ7_fill_d0a16 (upA h a (lA n (fun j => if j < i then x else f j))) (0, 0) [some (.ref a), some (.long x), none, some (.int (nI i)), some (.int (nI n))] 6 [] := by
    intro nn
    induction nn with
    | zero => intro i h1 h2; omega
    | succ nn ih =>
      intro i h1 h2 
      refine j_iload_n dJ7_fill_d0a16_6 rfl ?_
      refine j_iload dJ7_fill_d0a16_7 rfl ?_
      refine j_icmp_ge 22 dJ7_fill_d0a16_9 (by decide) (fun c_9 => ?_) (fun c_9 => ?_)
      · have hlt : n ≤ i := (nI_leI (a := n) (b := i) (by omega) (by omega)).mp c_9
        refine J.fun1 (fun _ => x) (upA_self _ _ _) (fun j hj => if_pos (by omega)) ?_
        rw [upA_upA]
        refine j_vret rfl (Nat.le_of_ble_eq_true rfl) (Nat.le_of_ble_eq_true rfl) dJ7_fill_d0a16_22 ?_
        exact ⟨rfl, rfl⟩
      · have hlt : i < n := Nat.not_le.mp (fun q => c_9 ((nI_leI (a := n) (b := i) (by omega) (by omega)).mpr q))
        refine j_aload_n dJ7_fill_d0a16_12 rfl ?_
        refine j_iload_n dJ7_fill_d0a16_13 rfl ?_
        refine j_lload_n dJ7_fill_d0a16_14 rfl ?_
        refine j_last (upA_self _ _ _) i rfl hlt hn dJ7_fill_d0a16_15 ?_
        rw [upA_upA]
        have e1 : vp_updL (fun j => if j < i then x else f j) i x = (fun j => if j < i + 1 then x else f j) := by
          funext j
          by_cases hj : j = i
          · simp [vp_updL, hj]
          · simp only [vp_updL, if_neg hj]
            by_cases hj2 : j < i
            · rw [if_pos hj2, if_pos (by omega)]
            · rw [if_neg hj2, if_neg (by omega)]
        rw [e1]
        refine j_iinc dJ7_fill_d0a16_16 rfl (nI_inc _) (Nat.le_of_ble_eq_true rfl) rfl ?_
        refine j_goto 6 dJ7_fill_d0a16_19 (by decide) ?_
        exact ih (i + 1) (by omega) (by omega)
  refine Con.of 2 rfl (Nat.le_of_ble_eq_true rfl) ?_
  refine j_iconst (v := 0) dJ7_fill_d0a16_0 (by decide) ?_
  refine j_istore_n dJ7_fill_d0a16_1 (Nat.le_of_ble_eq_true rfl) rfl ?_
  refine j_aload_n dJ7_fill_d0a16_2 rfl ?_
  refine j_alen (t := 1) ha rfl rfl dJ7_fill_d0a16_3 ?_
  refine j_istore dJ7_fill_d0a16_4 (Nat.le_of_ble_eq_true rfl) rfl ?_
  have e0 : upA h a (lA n (fun j => if j < 0 then x else f j)) = h := by
    have : (fun j => if j < 0 then x else f j) = f := by funext j; exact if_neg (by omega)
    rw [this]
    exact upA_eta ha
  have k0 := key (n + 1) 0 (by omega) (by omega)
  rw [e0] at k0
  exact k0

set_option maxRecDepth 100000 in
set_option maxHeartbeats 4000000 in
theorem c_X2_weightWith (l : Launch) (G : GG) {h : AH} {p th b t m s k : Nat} {w : Int32} {f g : Nat → Int32} (hp : h p = some (.inr (2, [.int w, .ref b, .ref t, .ref m, .ref s, .ref k]))) (hm : h m = some (iA 8 f)) (ht : h th = some (iA 8 g)) : Con l G mX2_weightWith 0 0 0 [.ref p, .ref th] h (fun r h2 => r = some (.int (wsum w f g 8)) ∧ h2 = h) := by
  have key : ∀ nn i, 8 < i + nn → i ≤ 8 → J (thM l G mX2_weightWith 0 0 0 (fun r h2 => r = some (.int (wsum w f g 8)) ∧ h2 = h)) cX2_weightWith h (0, 0) [some (.ref p), some (.ref th), some (.int (wsum w f g i)), some (.int (nI i))] 7 [] := by
    intro nn
    induction nn with
    | zero => intro i h1 h2; omega
    | succ nn ih =>
      intro i h1 h2 
      refine j_iload_n dX2_weightWith_7 rfl ?_
      refine j_bipush (v := 8) dX2_weightWith_8 (by decide) ?_
      refine j_icmp_ge 32 dX2_weightWith_10 (by decide) (fun c_10 => ?_) (fun c_10 => ?_)
      · have hlt : 8 ≤ i := (nI_leI (a := 8) (b := i) (by omega) (by omega)).mp c_10
        obtain rfl : i = 8 := by omega
        refine j_iload_n dX2_weightWith_32 rfl ?_
        refine j_iret rfl (Nat.le_of_ble_eq_true rfl) (Nat.le_of_ble_eq_true rfl) dX2_weightWith_33 ?_
        exact ⟨rfl, rfl⟩
      · have hlt : i < 8 := Nat.not_le.mp (fun q => c_10 ((nI_leI (a := 8) (b := i) (by omega) (by omega)).mpr q))
        refine j_iload_n dX2_weightWith_13 rfl ?_
        refine j_aload_n dX2_weightWith_14 rfl ?_
        refine gX2_22 rfl (by assumption) rfl dX2_weightWith_15 ?_
        refine j_iload_n dX2_weightWith_18 rfl ?_
        refine j_iald (by assumption) _ rfl (by omega) (by decide) dX2_weightWith_19 ?_
        refine j_aload_n dX2_weightWith_20 rfl ?_
        refine j_iload_n dX2_weightWith_21 rfl ?_
        refine j_iald (by assumption) _ rfl (by omega) (by decide) dX2_weightWith_22 ?_
        refine j_imul dX2_weightWith_23 ?_
        refine j_iadd dX2_weightWith_24 ?_
        refine j_istore_n dX2_weightWith_25 (Nat.le_of_ble_eq_true rfl) rfl ?_
        refine j_iinc dX2_weightWith_26 rfl (nI_inc _) (Nat.le_of_ble_eq_true rfl) rfl ?_
        refine j_goto 7 dX2_weightWith_29 (by decide) ?_
        exact ih (i + 1) (by omega) (by omega)
  refine Con.of 2 rfl (Nat.le_of_ble_eq_true rfl) ?_
  refine j_aload_n dX2_weightWith_0 rfl ?_
  refine gX2_9 rfl (by assumption) rfl dX2_weightWith_1 ?_
  refine j_istore_n dX2_weightWith_4 (Nat.le_of_ble_eq_true rfl) rfl ?_
  refine j_iconst (v := 0) dX2_weightWith_5 (by decide) ?_
  refine j_istore_n dX2_weightWith_6 (Nat.le_of_ble_eq_true rfl) rfl ?_
  exact key 9 0 (by omega) (by omega)

theorem ix8 (q i : Nat) : nI q * 8 + nI i = nI (q * 8 + i) := by
  rw [show (8 : Int32) = nI 8 from rfl, pk_mul, nI_add]
theorem xi8 (q i : Nat) : 8 * nI q + nI i = nI (8 * q + i) := by
  rw [show (8 : Int32) = nI 8 from rfl, pk_mul, nI_add]
theorem xi5 (q i : Nat) : 5 * nI q + nI i = nI (5 * q + i) := by
  rw [show (5 : Int32) = nI 5 from rfl, pk_mul, nI_add]
theorem xi40 (b q i : Nat) : 40 * nI b + 8 * nI q + nI i = nI (40 * b + 8 * q + i) := by
  rw [show (40 : Int32) = nI 40 from rfl, show (8 : Int32) = nI 8 from rfl, pk_mul, pk_mul, nI_add, nI_add]

set_option maxRecDepth 100000 in
set_option maxHeartbeats 4000000 in
theorem c_X2_partWith (l : Launch) (G : GG) {h : AH} {p th b t m s k : Nat} {w : Int32} {f g : Nat → Int32} {e : Nat → Int32} {q : Nat} (hq : q < 5) (hp : h p = some (.inr (2, [.int w, .ref b, .ref t, .ref m, .ref s, .ref k]))) (hbs : h b = some (iA 5 e)) (htb : h t = some (iA 40 f)) (ht : h th = some (iA 8 g)) : Con l G mX2_partWith 0 0 0 [.ref p, .int (nI q), .ref th] h (fun r h2 => r = some (.int (wsum (e q) (fun i => f (q * 8 + i)) g 8)) ∧ h2 = h) := by
  have key : ∀ nn i, 8 < i + nn → i ≤ 8 → J (thM l G mX2_partWith 0 0 0 (fun r h2 => r = some (.int (wsum (e q) (fun i => f (q * 8 + i)) g 8)) ∧ h2 = h)) cX2_partWith h (0, 0) [some (.ref p), some (.int (nI q)), some (.ref th), some (.int (wsum (e q) (fun i => f (q * 8 + i)) g i)), some (.int (nI i))] 10 [] := by
    intro nn
    induction nn with
    | zero => intro i h1 h2; omega
    | succ nn ih =>
      intro i h1 h2 
      refine j_iload dX2_partWith_10 rfl ?_
      refine j_bipush (v := 8) dX2_partWith_12 (by decide) ?_
      refine j_icmp_ge 43 dX2_partWith_14 (by decide) (fun c_14 => ?_) (fun c_14 => ?_)
      · have hlt : 8 ≤ i := (nI_leI (a := 8) (b := i) (by omega) (by omega)).mp c_14
        obtain rfl : i = 8 := by omega
        refine j_iload_n dX2_partWith_43 rfl ?_
        refine j_iret rfl (Nat.le_of_ble_eq_true rfl) (Nat.le_of_ble_eq_true rfl) dX2_partWith_44 ?_
        exact ⟨rfl, rfl⟩
      · have hlt : i < 8 := Nat.not_le.mp (fun q => c_14 ((nI_leI (a := 8) (b := i) (by omega) (by omega)).mpr q))
        refine j_iload_n dX2_partWith_17 rfl ?_
        refine j_aload_n dX2_partWith_18 rfl ?_
        refine gX2_19 rfl (by assumption) rfl dX2_partWith_19 ?_
        refine j_iload_n dX2_partWith_22 rfl ?_
        refine j_bipush (v := 8) dX2_partWith_23 (by decide) ?_
        refine j_imul dX2_partWith_25 ?_
        refine j_iload dX2_partWith_26 rfl ?_
        refine j_iadd dX2_partWith_28 ?_
        refine j_iald (by assumption) (q * 8 + i) (ix8 q i) (by omega) (by decide) dX2_partWith_29 ?_
        refine j_aload_n dX2_partWith_30 rfl ?_
        refine j_iload dX2_partWith_31 rfl ?_
        refine j_iald (by assumption) _ rfl (by omega) (by decide) dX2_partWith_33 ?_
        refine j_imul dX2_partWith_34 ?_
        refine j_iadd dX2_partWith_35 ?_
        refine j_istore_n dX2_partWith_36 (Nat.le_of_ble_eq_true rfl) rfl ?_
        refine j_iinc dX2_partWith_37 rfl (nI_inc _) (Nat.le_of_ble_eq_true rfl) rfl ?_
        refine j_goto 10 dX2_partWith_40 (by decide) ?_
        exact ih (i + 1) (by omega) (by omega)
  refine Con.of 2 rfl (Nat.le_of_ble_eq_true rfl) ?_
  refine j_aload_n dX2_partWith_0 rfl ?_
  refine gX2_15 rfl (by assumption) rfl dX2_partWith_1 ?_
  refine j_iload_n dX2_partWith_4 rfl ?_
  refine j_iald (by assumption) q rfl hq (by decide) dX2_partWith_5 ?_
  refine j_istore_n dX2_partWith_6 (Nat.le_of_ble_eq_true rfl) rfl ?_
  refine j_iconst (v := 0) dX2_partWith_7 (by decide) ?_
  refine j_istore dX2_partWith_8 (Nat.le_of_ble_eq_true rfl) rfl ?_
  exact key 9 0 (by omega) (by omega)

def wNow (Z : ZT) (b : Nat) : Int32 := wsum (Z (6, b, 0) 0) (Z (6, b, 4)) (Z (4, b, 3)) 8
def pNow (Z : ZT) (b q : Nat) : Int32 := wsum (Z (6, b, 2) q) (fun i => Z (6, b, 3) (q * 8 + i)) (Z (4, b, 3)) 8

set_option maxRecDepth 100000 in
set_option maxHeartbeats 4000000 in
theorem c_X0_weightNow (l : Launch) (G : GG) {ad : NM → Nat} {np nb : Nat} {Z : ZT} {L : LT} {h : AH} (hR : Rm ad np nb Z L h) {b : Nat} (hb : b < nb)  : Con l G mX0_weightNow 1 0 0 [.ref (ad (4, b, 0))] h (fun r h2 => r = some (.int (wNow Z b)) ∧ h2 = h) := by
  refine Con.of 0 rfl (Nat.le_of_ble_eq_true rfl) ?_
  refine j_aload_n dX0_weightNow_0 rfl ?_
  refine gX0_20 rfl (hR.1 _ ⟨by first | assumption | exact Nat.zero_lt_one, rfl⟩) rfl dX0_weightNow_1 ?_
  refine j_aload_n dX0_weightNow_4 rfl ?_
  refine gX0_33 rfl (hR.1 _ ⟨by first | assumption | exact Nat.zero_lt_one, rfl⟩) rfl dX0_weightNow_5 ?_
  refine j_callV (rest := []) (c_X2_weightWith l G (hR.1 _ ⟨by first | assumption | exact Nat.zero_lt_one, rfl⟩) (hR.1 _ ⟨by first | assumption | exact Nat.zero_lt_one, rfl⟩) (hR.1 _ ⟨by first | assumption | exact Nat.zero_lt_one, rfl⟩)) (hR.1 _ ⟨by first | assumption | exact Nat.zero_lt_one, rfl⟩) rfl cw_X2_weightWith wl_X0_46 wm_X2_weightWith wx_X2_weightWith rfl rfl (Nat.le_of_ble_eq_true rfl) (Nat.le_of_ble_eq_true rfl) (Nat.le_of_ble_eq_true rfl) (Nat.le_of_ble_eq_true rfl) (Nat.le_of_ble_eq_true rfl) dX0_weightNow_8 (fun v_8 h_8 e_8 => ?_)
  obtain ⟨rfl, hh⟩ := e_8
  have hh := hh.symm
  subst hh
  refine j_iret rfl (Nat.le_of_ble_eq_true rfl) (Nat.le_of_ble_eq_true rfl) dX0_weightNow_11 ?_
  exact ⟨rfl, rfl⟩

set_option maxRecDepth 100000 in
set_option maxHeartbeats 4000000 in
theorem c_X0_partNow (l : Launch) (G : GG) {ad : NM → Nat} {np nb : Nat} {Z : ZT} {L : LT} {h : AH} (hR : Rm ad np nb Z L h) {b : Nat} (hb : b < nb) {q : Nat} (hq : q < 5) : Con l G mX0_partNow 1 0 0 [.ref (ad (4, b, 0)), .int (nI q)] h (fun r h2 => r = some (.int (pNow Z b q)) ∧ h2 = h) := by
  refine Con.of 0 rfl (Nat.le_of_ble_eq_true rfl) ?_
  refine j_aload_n dX0_partNow_0 rfl ?_
  refine gX0_20 rfl (hR.1 _ ⟨by first | assumption | exact Nat.zero_lt_one, rfl⟩) rfl dX0_partNow_1 ?_
  refine j_iload_n dX0_partNow_4 rfl ?_
  refine j_aload_n dX0_partNow_5 rfl ?_
  refine gX0_33 rfl (hR.1 _ ⟨by first | assumption | exact Nat.zero_lt_one, rfl⟩) rfl dX0_partNow_6 ?_
  refine j_callV (rest := []) (c_X2_partWith l G hq (hR.1 _ ⟨by first | assumption | exact Nat.zero_lt_one, rfl⟩) (hR.1 _ ⟨by first | assumption | exact Nat.zero_lt_one, rfl⟩) (hR.1 _ ⟨by first | assumption | exact Nat.zero_lt_one, rfl⟩) (hR.1 _ ⟨by first | assumption | exact Nat.zero_lt_one, rfl⟩)) (hR.1 _ ⟨by first | assumption | exact Nat.zero_lt_one, rfl⟩) rfl cw_X2_partWith wl_X0_50 wm_X2_partWith wx_X2_partWith rfl rfl (Nat.le_of_ble_eq_true rfl) (Nat.le_of_ble_eq_true rfl) (Nat.le_of_ble_eq_true rfl) (Nat.le_of_ble_eq_true rfl) (Nat.le_of_ble_eq_true rfl) dX0_partNow_9 (fun v_9 h_9 e_9 => ?_)
  obtain ⟨rfl, hh⟩ := e_9
  have hh := hh.symm
  subst hh
  refine j_iret rfl (Nat.le_of_ble_eq_true rfl) (Nat.le_of_ble_eq_true rfl) dX0_partNow_12 ?_
  exact ⟨rfl, rfl⟩

set_option maxRecDepth 100000 in
set_option maxHeartbeats 4000000 in
theorem c_X2_castWeight (l : Launch) (G : GG) {ad : NM → Nat} {np nb : Nat} {Z : ZT} {L : LT} {h : AH} (hR : Rm ad np nb Z L h) {p : Nat} (hp : p < np)  : Con l G mX2_castWeight 1 0 0 [.ref (ad (2, p, 0))] h (fun r h2 => r = some (.int (wsum (Z (2, p, 0) 0) (Z (2, p, 4)) (Z (2, p, 6)) 8)) ∧ h2 = h) := by
  refine Con.of 0 rfl (Nat.le_of_ble_eq_true rfl) ?_
  refine j_aload_n dX2_castWeight_0 rfl ?_
  refine j_aload_n dX2_castWeight_1 rfl ?_
  refine gX2_28 rfl (hR.1 _ ⟨by first | assumption | exact Nat.zero_lt_one, rfl⟩) rfl dX2_castWeight_2 ?_
  refine j_callV (rest := []) (c_X2_weightWith l G (hR.1 _ ⟨by first | assumption | exact Nat.zero_lt_one, rfl⟩) (hR.1 _ ⟨by first | assumption | exact Nat.zero_lt_one, rfl⟩) (hR.1 _ ⟨by first | assumption | exact Nat.zero_lt_one, rfl⟩)) (hR.1 _ ⟨by first | assumption | exact Nat.zero_lt_one, rfl⟩) rfl cw_X2_weightWith wl_X2_46 wm_X2_weightWith wx_X2_weightWith rfl rfl (Nat.le_of_ble_eq_true rfl) (Nat.le_of_ble_eq_true rfl) (Nat.le_of_ble_eq_true rfl) (Nat.le_of_ble_eq_true rfl) (Nat.le_of_ble_eq_true rfl) dX2_castWeight_5 (fun v_5 h_5 e_5 => ?_)
  obtain ⟨rfl, hh⟩ := e_5
  have hh := hh.symm
  subst hh
  refine j_iret rfl (Nat.le_of_ble_eq_true rfl) (Nat.le_of_ble_eq_true rfl) dX2_castWeight_8 ?_
  exact ⟨rfl, rfl⟩

set_option maxRecDepth 100000 in
set_option maxHeartbeats 4000000 in
theorem c_X0_canBeTuned (l : Launch) (G : GG) {ad : NM → Nat} {np nb : Nat} {Z : ZT} {L : LT} {h : AH} (hR : Rm ad np nb Z L h) {b : Nat} (hb : b < nb)  : Con l G mX0_canBeTuned 0 0 0 [.ref (ad (4, b, 0))] h (fun r h2 => r = some (.int (bi (decide (Z (4, b, 0) 3 = 0) && decide (Z (4, b, 0) 4 = 0)))) ∧ h2 = h) := by
  refine Con.of 0 rfl (Nat.le_of_ble_eq_true rfl) ?_
  refine j_aload_n dX0_canBeTuned_0 rfl ?_
  refine gX0_54 rfl (hR.1 _ ⟨by first | assumption | exact Nat.zero_lt_one, rfl⟩) rfl dX0_canBeTuned_1 ?_
  refine j_if_ne 18 dX0_canBeTuned_4 (by decide) (fun c_4 => ?_) (fun c_4 => ?_)
  · refine j_iconst (v := 0) dX0_canBeTuned_18 (by decide) ?_
    refine j_zret rfl rfl (Nat.le_of_ble_eq_true rfl) (Nat.le_of_ble_eq_true rfl) dX0_canBeTuned_19 ?_
    exact ⟨by simp [bi, c_4], rfl⟩
  · refine j_aload_n dX0_canBeTuned_7 rfl ?_
    refine gX0_58 rfl (hR.1 _ ⟨by first | assumption | exact Nat.zero_lt_one, rfl⟩) rfl dX0_canBeTuned_8 ?_
    refine j_if_ne 18 dX0_canBeTuned_11 (by decide) (fun c_11 => ?_) (fun c_11 => ?_)
    · refine j_iconst (v := 0) dX0_canBeTuned_18 (by decide) ?_
      refine j_zret rfl rfl (Nat.le_of_ble_eq_true rfl) (Nat.le_of_ble_eq_true rfl) dX0_canBeTuned_19 ?_
      exact ⟨by simp [bi, c_4, c_11], rfl⟩
    · refine j_iconst (v := 1) dX0_canBeTuned_14 (by decide) ?_
      refine j_goto 19 dX0_canBeTuned_15 (by decide) ?_
      refine j_zret rfl rfl (Nat.le_of_ble_eq_true rfl) (Nat.le_of_ble_eq_true rfl) dX0_canBeTuned_19 ?_
      exact ⟨by simp [bi, c_4, c_11], rfl⟩

set_option maxRecDepth 100000 in
set_option maxHeartbeats 4000000 in
theorem c_X0_roomAt (l : Launch) (G : GG) {ad : NM → Nat} {np nb : Nat} {Z : ZT} {L : LT} {h : AH} (hR : Rm ad np nb Z L h) {b : Nat} (hb : b < nb) {i : Nat} (hi : i < 8) : Con l G mX0_roomAt 0 0 0 [.ref (ad (4, b, 0)), .int (nI i)] h (fun r h2 => r = some (.int (Z (4, b, 3) i - Z (6, b, 5) i)) ∧ h2 = h) := by
  refine Con.of 0 rfl (Nat.le_of_ble_eq_true rfl) ?_
  refine j_aload_n dX0_roomAt_0 rfl ?_
  refine gX0_33 rfl (hR.1 _ ⟨by first | assumption | exact Nat.zero_lt_one, rfl⟩) rfl dX0_roomAt_1 ?_
  refine j_iload_n dX0_roomAt_4 rfl ?_
  refine j_iald (hR.1 _ ⟨by first | assumption | exact Nat.zero_lt_one, rfl⟩) _ rfl (by omega) (by decide) dX0_roomAt_5 ?_
  refine j_aload_n dX0_roomAt_6 rfl ?_
  refine gX0_20 rfl (hR.1 _ ⟨by first | assumption | exact Nat.zero_lt_one, rfl⟩) rfl dX0_roomAt_7 ?_
  refine gX0_61 rfl (hR.1 _ ⟨by first | assumption | exact Nat.zero_lt_one, rfl⟩) rfl dX0_roomAt_10 ?_
  refine j_iload_n dX0_roomAt_13 rfl ?_
  refine j_iald (hR.1 _ ⟨by first | assumption | exact Nat.zero_lt_one, rfl⟩) _ rfl (by omega) (by decide) dX0_roomAt_14 ?_
  refine j_isub dX0_roomAt_15 ?_
  refine j_iret rfl (Nat.le_of_ble_eq_true rfl) (Nat.le_of_ble_eq_true rfl) dX0_roomAt_16 ?_
  exact ⟨rfl, rfl⟩

set_option maxRecDepth 100000 in
set_option maxHeartbeats 4000000 in
theorem c_X0_tableAt (l : Launch) (G : GG) {ad : NM → Nat} {np nb : Nat} {Z : ZT} {L : LT} {h : AH} (hR : Rm ad np nb Z L h) {b : Nat} (hb : b < nb) {q i : Nat} (hq : q < 5) (hi : i < 8) : Con l G mX0_tableAt 0 0 0 [.ref (ad (4, b, 0)), .int (nI q), .int (nI i)] h (fun r h2 => r = some (.int (Z (6, b, 3) (q * 8 + i))) ∧ h2 = h) := by
  refine Con.of 0 rfl (Nat.le_of_ble_eq_true rfl) ?_
  refine j_aload_n dX0_tableAt_0 rfl ?_
  refine gX0_20 rfl (hR.1 _ ⟨by first | assumption | exact Nat.zero_lt_one, rfl⟩) rfl dX0_tableAt_1 ?_
  refine gX0_64 rfl (hR.1 _ ⟨by first | assumption | exact Nat.zero_lt_one, rfl⟩) rfl dX0_tableAt_4 ?_
  refine j_iload_n dX0_tableAt_7 rfl ?_
  refine j_bipush (v := 8) dX0_tableAt_8 (by decide) ?_
  refine j_imul dX0_tableAt_10 ?_
  refine j_iload_n dX0_tableAt_11 rfl ?_
  refine j_iadd dX0_tableAt_12 ?_
  refine j_iald (hR.1 _ ⟨by first | assumption | exact Nat.zero_lt_one, rfl⟩) (q * 8 + i) (ix8 q i) (by omega) (by decide) dX0_tableAt_13 ?_
  refine j_iret rfl (Nat.le_of_ble_eq_true rfl) (Nat.le_of_ble_eq_true rfl) dX0_tableAt_14 ?_
  exact ⟨rfl, rfl⟩

set_option maxRecDepth 100000 in
set_option maxHeartbeats 4000000 in
theorem c_X0_takeOff (l : Launch) (G : GG) {ad : NM → Nat} {np nb : Nat} {Z : ZT} {L : LT} {h : AH} (hR : Rm ad np nb Z L h) {b : Nat} (hb : b < nb) {i : Nat} (hi : i < 8) {c : Int32} : Con l G mX0_takeOff 0 0 0 [.ref (ad (4, b, 0)), .int (nI i), .int c] h (fun r h2 => r = some (.int (Z (6, b, 4) i * c)) ∧ Rm ad np nb (upZ (upZ Z (4, b, 3) i (Z (4, b, 3) i - c)) (4, b, 0) 8 (-1)) L h2) := by
  refine Con.of 0 rfl (Nat.le_of_ble_eq_true rfl) ?_
  refine j_aload_n dX0_takeOff_0 rfl ?_
  refine gX0_33 rfl (hR.1 _ ⟨by first | assumption | exact Nat.zero_lt_one, rfl⟩) rfl dX0_takeOff_1 ?_
  refine j_iload_n dX0_takeOff_4 rfl ?_
  refine j_dup2 dX0_takeOff_5 rfl rfl ?_
  refine j_iald (hR.1 _ ⟨by first | assumption | exact Nat.zero_lt_one, rfl⟩) _ rfl (by omega) (by decide) dX0_takeOff_6 ?_
  refine j_iload_n dX0_takeOff_7 rfl ?_
  refine j_isub dX0_takeOff_8 ?_
  refine r_iast hR ⟨hb, rfl⟩ (fun _ => rfl) i rfl hi (by decide) dX0_takeOff_9 (fun h hR => ?_)
  refine j_aload_n dX0_takeOff_10 rfl ?_
  refine j_iconst (v := (-1)) dX0_takeOff_11 (by decide) ?_
  refine qX0_43 rfl hR hb dX0_takeOff_12 (fun h hR => ?_)
  refine j_aload_n dX0_takeOff_15 rfl ?_
  refine gX0_20 rfl (hR.1 _ ⟨by first | assumption | exact Nat.zero_lt_one, rfl⟩) rfl dX0_takeOff_16 ?_
  refine gX0_67 rfl (hR.1 _ ⟨by first | assumption | exact Nat.zero_lt_one, rfl⟩) rfl dX0_takeOff_19 ?_
  refine j_iload_n dX0_takeOff_22 rfl ?_
  refine j_iald (hR.1 _ ⟨by first | assumption | exact Nat.zero_lt_one, rfl⟩) _ rfl (by omega) (by decide) dX0_takeOff_23 ?_
  refine j_iload_n dX0_takeOff_24 rfl ?_
  refine j_imul dX0_takeOff_25 ?_
  refine j_iret rfl (Nat.le_of_ble_eq_true rfl) (Nat.le_of_ble_eq_true rfl) dX0_takeOff_26 ?_
  exact ⟨rfl, hR⟩
end
section
/-! ===== the reference: small methods ===== -/
theorem iw_lt {v : Int32} {n : Nat} (hn : n < 2147483648) (h : iw v 0 (nI n - 1) = true) : ∃ j, j < n ∧ v = nI j ∧ v.toNatClampNeg = j := by
  obtain ⟨h1, h2⟩ := iw_iff.mp h
  have e0 : (0 : Int32).toInt = 0 := rfl
  have h1' : 0 ≤ v.toInt := by rw [← e0]; exact Int32.le_iff_toInt_le.mp h1
  have h2' := Int32.le_iff_toInt_le.mp h2
  cases n with
  | zero =>
    have e1 : (nI 0 - 1 : Int32).toInt = -1 := by decide
    rw [e1] at h2'
    omega
  | succ n =>
    rw [nI_pred, nI_toInt (by omega)] at h2'
    obtain ⟨j, hj, rfl⟩ := nI_of (x := v) (fun q => by have := Int32.lt_iff_toInt_lt.mp q; rw [e0] at this; omega)
    rw [nI_toInt hj] at h2'
    exact ⟨j, by omega, rfl, nI_clamp hj⟩
theorem iw_le {v : Int32} {n : Nat} (hn : n < 2147483648) (h : iw v 0 (nI n) = true) : ∃ j, j ≤ n ∧ v = nI j ∧ v.toNatClampNeg = j := by
  obtain ⟨h1, h2⟩ := iw_iff.mp h
  have e0 : (0 : Int32).toInt = 0 := rfl
  have h1' : 0 ≤ v.toInt := by rw [← e0]; exact Int32.le_iff_toInt_le.mp h1
  have h2' := Int32.le_iff_toInt_le.mp h2
  obtain ⟨j, hj, rfl⟩ := nI_of (x := v) (fun q => by have := Int32.lt_iff_toInt_lt.mp q; rw [e0] at this; omega)
  rw [nI_toInt hj, nI_toInt hn] at h2'
  exact ⟨j, by omega, rfl, nI_clamp hj⟩
def cl (v : Int32) : Nat := v.toNatClampNeg
theorem cl_nI {j : Nat} (h : j < 2147483648) : cl (nI j) = j := nI_clamp h
def itZ (f : Nat → ZT → ZT) (Z : ZT) : Nat → ZT
  | 0 => Z
  | k + 1 => f k (itZ f Z k)
/-- a way: none, or one of five -/
def wayOk (w : Int32) : Prop := w = -1 ∨ ∃ j, j < 5 ∧ w = nI j
def mW (Z : ZT) (b : Nat) : Int32 := wsum (Z (5, 0, 10) b) (fun i => Z (5, 0, 13) (8 * b + i)) (fun i => Z (5, 0, 11) (8 * b + i)) 8
def mP (Z : ZT) (b q : Nat) : Int32 := wsum (Z (5, 0, 14) (5 * b + q)) (fun i => Z (5, 0, 15) (40 * b + 8 * q + i)) (fun i => Z (5, 0, 11) (8 * b + i)) 8
def mCan (Z : ZT) (v : Int32) : Bool := iw v 0 (Z (5, 0, 0) 7 - 1) && decide (Z (5, 0, 16) (cl v) = 0) && decide (Z (5, 0, 17) (cl v) = 0)
def mPull (Z : ZT) (b : Nat) (w : Int32) : Int32 := if 0 ≤ w then mW Z b * Z (5, 0, 27) (cl w) / 100 else 0
def mPulls (Z : ZT) : Nat → Int32
  | 0 => 0
  | n + 1 => mPulls Z n + mPull Z n (Z (5, 0, 18) n)

theorem sw_5_18 {x : Int32} (h1 : ¬ x.toInt < 5) (h2 : ¬ 18 < x.toInt) : x = 5 ∨ x = 6 ∨ x = 7 ∨ x = 8 ∨ x = 9 ∨ x = 10 ∨ x = 11 ∨ x = 12 ∨ x = 13 ∨ x = 14 ∨ x = 15 ∨ x = 16 ∨ x = 17 ∨ x = 18 := by
  have hh : x.toInt = 5 ∨ x.toInt = 6 ∨ x.toInt = 7 ∨ x.toInt = 8 ∨ x.toInt = 9 ∨ x.toInt = 10 ∨ x.toInt = 11 ∨ x.toInt = 12 ∨ x.toInt = 13 ∨ x.toInt = 14 ∨ x.toInt = 15 ∨ x.toInt = 16 ∨ x.toInt = 17 ∨ x.toInt = 18 := by omega
  rcases hh with q | q | q | q | q | q | q | q | q | q | q | q | q | q
  · exact Or.inl (Int32.toInt_inj.mp q)
  · exact Or.inr (Or.inl (Int32.toInt_inj.mp q))
  · exact Or.inr (Or.inr (Or.inl (Int32.toInt_inj.mp q)))
  · exact Or.inr (Or.inr (Or.inr (Or.inl (Int32.toInt_inj.mp q))))
  · exact Or.inr (Or.inr (Or.inr (Or.inr (Or.inl (Int32.toInt_inj.mp q)))))
  · exact Or.inr (Or.inr (Or.inr (Or.inr (Or.inr (Or.inl (Int32.toInt_inj.mp q))))))
  · exact Or.inr (Or.inr (Or.inr (Or.inr (Or.inr (Or.inr (Or.inl (Int32.toInt_inj.mp q)))))))
  · exact Or.inr (Or.inr (Or.inr (Or.inr (Or.inr (Or.inr (Or.inr (Or.inl (Int32.toInt_inj.mp q))))))))
  · exact Or.inr (Or.inr (Or.inr (Or.inr (Or.inr (Or.inr (Or.inr (Or.inr (Or.inl (Int32.toInt_inj.mp q)))))))))
  · exact Or.inr (Or.inr (Or.inr (Or.inr (Or.inr (Or.inr (Or.inr (Or.inr (Or.inr (Or.inl (Int32.toInt_inj.mp q))))))))))
  · exact Or.inr (Or.inr (Or.inr (Or.inr (Or.inr (Or.inr (Or.inr (Or.inr (Or.inr (Or.inr (Or.inl (Int32.toInt_inj.mp q)))))))))))
  · exact Or.inr (Or.inr (Or.inr (Or.inr (Or.inr (Or.inr (Or.inr (Or.inr (Or.inr (Or.inr (Or.inr (Or.inl (Int32.toInt_inj.mp q))))))))))))
  · exact Or.inr (Or.inr (Or.inr (Or.inr (Or.inr (Or.inr (Or.inr (Or.inr (Or.inr (Or.inr (Or.inr (Or.inr (Or.inl (Int32.toInt_inj.mp q)))))))))))))
  · exact Or.inr (Or.inr (Or.inr (Or.inr (Or.inr (Or.inr (Or.inr (Or.inr (Or.inr (Or.inr (Or.inr (Or.inr (Or.inr ((Int32.toInt_inj.mp q))))))))))))))
theorem sw_0_9 {x : Int32} (h1 : ¬ x.toInt < 0) (h2 : ¬ 9 < x.toInt) : x = 0 ∨ x = 1 ∨ x = 2 ∨ x = 3 ∨ x = 4 ∨ x = 5 ∨ x = 6 ∨ x = 7 ∨ x = 8 ∨ x = 9 := by
  have hh : x.toInt = 0 ∨ x.toInt = 1 ∨ x.toInt = 2 ∨ x.toInt = 3 ∨ x.toInt = 4 ∨ x.toInt = 5 ∨ x.toInt = 6 ∨ x.toInt = 7 ∨ x.toInt = 8 ∨ x.toInt = 9 := by omega
  rcases hh with q | q | q | q | q | q | q | q | q | q
  · exact Or.inl (Int32.toInt_inj.mp q)
  · exact Or.inr (Or.inl (Int32.toInt_inj.mp q))
  · exact Or.inr (Or.inr (Or.inl (Int32.toInt_inj.mp q)))
  · exact Or.inr (Or.inr (Or.inr (Or.inl (Int32.toInt_inj.mp q))))
  · exact Or.inr (Or.inr (Or.inr (Or.inr (Or.inl (Int32.toInt_inj.mp q)))))
  · exact Or.inr (Or.inr (Or.inr (Or.inr (Or.inr (Or.inl (Int32.toInt_inj.mp q))))))
  · exact Or.inr (Or.inr (Or.inr (Or.inr (Or.inr (Or.inr (Or.inl (Int32.toInt_inj.mp q)))))))
  · exact Or.inr (Or.inr (Or.inr (Or.inr (Or.inr (Or.inr (Or.inr (Or.inl (Int32.toInt_inj.mp q))))))))
  · exact Or.inr (Or.inr (Or.inr (Or.inr (Or.inr (Or.inr (Or.inr (Or.inr (Or.inl (Int32.toInt_inj.mp q)))))))))
  · exact Or.inr (Or.inr (Or.inr (Or.inr (Or.inr (Or.inr (Or.inr (Or.inr (Or.inr ((Int32.toInt_inj.mp q))))))))))
theorem sw_5_7 {x : Int32} (h1 : ¬ x.toInt < 5) (h2 : ¬ 7 < x.toInt) : x = 5 ∨ x = 6 ∨ x = 7 := by
  have hh : x.toInt = 5 ∨ x.toInt = 6 ∨ x.toInt = 7 := by omega
  rcases hh with q | q | q
  · exact Or.inl (Int32.toInt_inj.mp q)
  · exact Or.inr (Or.inl (Int32.toInt_inj.mp q))
  · exact Or.inr (Or.inr ((Int32.toInt_inj.mp q)))
set_option maxRecDepth 100000 in
set_option maxHeartbeats 4000000 in
theorem c_X5_isBell (l : Launch) (G : GG) {ad : NM → Nat} {np nb : Nat} {Z : ZT} {L : LT} {h : AH} (hR : Rm ad np nb Z L h) {v : Int32} : Con l G mX5_isBell 1 0 0 [.ref (ad (5, 0, 0)), .int v] h (fun r h2 => r = some (.int (bi (iw v 0 (Z (5, 0, 0) 7 - 1)))) ∧ h2 = h) := by
  refine Con.of 0 rfl (Nat.le_of_ble_eq_true rfl) ?_
  refine j_iload_n dX5_isBell_0 rfl ?_
  refine j_iconst (v := 0) dX5_isBell_1 (by decide) ?_
  refine j_aload_n dX5_isBell_2 rfl ?_
  refine gX5_86 rfl (hR.1 _ ⟨by first | assumption | exact Nat.zero_lt_one, rfl⟩) rfl dX5_isBell_3 ?_
  refine j_iconst (v := 1) dX5_isBell_6 (by decide) ?_
  refine j_isub dX5_isBell_7 ?_
  refine j_callS (rest := []) (c_X5_in l G) cw_X5_in wl_X5_90 ws_X5_in rfl rfl (Nat.le_of_ble_eq_true rfl) (Nat.le_of_ble_eq_true rfl) (Nat.le_of_ble_eq_true rfl) (Nat.le_of_ble_eq_true rfl) (Nat.le_of_ble_eq_true rfl) dX5_isBell_8 (fun v_8 h_8 e_8 => ?_)
  obtain ⟨rfl, hh⟩ := e_8
  have hh := hh.symm
  subst hh
  refine j_zret rfl (bi_nar _) (Nat.le_of_ble_eq_true rfl) (Nat.le_of_ble_eq_true rfl) dX5_isBell_11 ?_
  exact ⟨rfl, rfl⟩

set_option maxRecDepth 100000 in
set_option maxHeartbeats 4000000 in
theorem c_X5_weightOf (l : Launch) (G : GG) {ad : NM → Nat} {np nb : Nat} {Z : ZT} {L : LT} {h : AH} (hR : Rm ad np nb Z L h) {b : Nat} (hb : b < 24) : Con l G mX5_weightOf 0 0 0 [.ref (ad (5, 0, 0)), .int (nI b)] h (fun r h2 => r = some (.int (mW Z b)) ∧ h2 = h) := by
  have key : ∀ nn i, 8 < i + nn → i ≤ 8 → J (thM l G mX5_weightOf 0 0 0 (fun r h2 => r = some (.int (mW Z b)) ∧ h2 = h)) cX5_weightOf h (0, 0) [some (.ref (ad (5, 0, 0))), some (.int (nI b)), some (.int (wsum (Z (5, 0, 10) b) (fun i => Z (5, 0, 13) (8 * b + i)) (fun i => Z (5, 0, 11) (8 * b + i)) i)), some (.int (nI (8 * b + i)))] 12 [] := by
    intro nn
    induction nn with
    | zero => intro i h1 h2; omega
    | succ nn ih =>
      intro i h1 h2 
      refine j_iload_n dX5_weightOf_12 rfl ?_
      refine j_bipush (v := 8) dX5_weightOf_13 (by decide) ?_
      refine j_iload_n dX5_weightOf_15 rfl ?_
      refine j_imul dX5_weightOf_16 ?_
      refine j_bipush (v := 8) dX5_weightOf_17 (by decide) ?_
      refine j_iadd dX5_weightOf_19 ?_
      refine j_icmp_ge 45 dX5_weightOf_20 (by decide) (fun c_20 => ?_) (fun c_20 => ?_)
      · have hlt : 8 * b + 8 ≤ 8 * b + i := (nI_leI (a := 8 * b + 8) (b := 8 * b + i) (by omega) (by omega)).mp ((xi8 b 8) ▸ c_20)
        obtain rfl : i = 8 := by omega
        refine j_iload_n dX5_weightOf_45 rfl ?_
        refine j_iret rfl (Nat.le_of_ble_eq_true rfl) (Nat.le_of_ble_eq_true rfl) dX5_weightOf_46 ?_
        exact ⟨rfl, rfl⟩
      · have hlt : i < 8 := by
          have := Nat.not_le.mp (fun q => c_20 ((xi8 b 8) ▸ (nI_leI (a := 8 * b + 8) (b := 8 * b + i) (by omega) (by omega)).mpr q))
          omega
        refine j_iload_n dX5_weightOf_23 rfl ?_
        refine j_aload_n dX5_weightOf_24 rfl ?_
        refine gX5_40 rfl (hR.1 _ ⟨by first | assumption | exact Nat.zero_lt_one, rfl⟩) rfl dX5_weightOf_25 ?_
        refine j_iload_n dX5_weightOf_28 rfl ?_
        refine j_iald (hR.1 _ ⟨by first | assumption | exact Nat.zero_lt_one, rfl⟩) _ rfl (by omega) (by decide) dX5_weightOf_29 ?_
        refine j_aload_n dX5_weightOf_30 rfl ?_
        refine gX5_34 rfl (hR.1 _ ⟨by first | assumption | exact Nat.zero_lt_one, rfl⟩) rfl dX5_weightOf_31 ?_
        refine j_iload_n dX5_weightOf_34 rfl ?_
        refine j_iald (hR.1 _ ⟨by first | assumption | exact Nat.zero_lt_one, rfl⟩) _ rfl (by omega) (by decide) dX5_weightOf_35 ?_
        refine j_imul dX5_weightOf_36 ?_
        refine j_iadd dX5_weightOf_37 ?_
        refine j_istore_n dX5_weightOf_38 (Nat.le_of_ble_eq_true rfl) rfl ?_
        refine j_iinc dX5_weightOf_39 rfl (nI_inc _) (Nat.le_of_ble_eq_true rfl) rfl ?_
        refine j_goto 12 dX5_weightOf_42 (by decide) ?_
        exact ih (i + 1) (by omega) (by omega)
  refine Con.of 2 rfl (Nat.le_of_ble_eq_true rfl) ?_
  refine j_aload_n dX5_weightOf_0 rfl ?_
  refine gX5_31 rfl (hR.1 _ ⟨by first | assumption | exact Nat.zero_lt_one, rfl⟩) rfl dX5_weightOf_1 ?_
  refine j_iload_n dX5_weightOf_4 rfl ?_
  refine j_iald (hR.1 _ ⟨by first | assumption | exact Nat.zero_lt_one, rfl⟩) _ rfl (by omega) (by decide) dX5_weightOf_5 ?_
  refine j_istore_n dX5_weightOf_6 (Nat.le_of_ble_eq_true rfl) rfl ?_
  refine j_bipush (v := 8) dX5_weightOf_7 (by decide) ?_
  refine j_iload_n dX5_weightOf_9 rfl ?_
  refine j_imul dX5_weightOf_10 ?_
  refine j_istore_n dX5_weightOf_11 (Nat.le_of_ble_eq_true rfl) rfl ?_
  rw [show (8 : Int32) * nI b = nI (8 * b + 0) from pk_mul 8 b]
  exact key 9 0 (by omega) (by omega)

set_option maxRecDepth 100000 in
set_option maxHeartbeats 4000000 in
theorem c_X5_partOf (l : Launch) (G : GG) {ad : NM → Nat} {np nb : Nat} {Z : ZT} {L : LT} {h : AH} (hR : Rm ad np nb Z L h) {b q : Nat} (hb : b < 24) (hq : q < 5) : Con l G mX5_partOf 0 0 0 [.ref (ad (5, 0, 0)), .int (nI b), .int (nI q)] h (fun r h2 => r = some (.int (mP Z b q)) ∧ h2 = h) := by
  have key : ∀ nn i, 8 < i + nn → i ≤ 8 → J (thM l G mX5_partOf 0 0 0 (fun r h2 => r = some (.int (mP Z b q)) ∧ h2 = h)) cX5_partOf h (0, 0) [some (.ref (ad (5, 0, 0))), some (.int (nI b)), some (.int (nI q)), some (.int (wsum (Z (5, 0, 14) (5 * b + q)) (fun i => Z (5, 0, 15) (40 * b + 8 * q + i)) (fun i => Z (5, 0, 11) (8 * b + i)) i)), some (.int (nI i))] 14 [] := by
    intro nn
    induction nn with
    | zero => intro i h1 h2; omega
    | succ nn ih =>
      intro i h1 h2 
      refine j_iload dX5_partOf_14 rfl ?_
      refine j_bipush (v := 8) dX5_partOf_16 (by decide) ?_
      refine j_icmp_ge 60 dX5_partOf_18 (by decide) (fun c_18 => ?_) (fun c_18 => ?_)
      · have hlt : 8 ≤ i := (nI_leI (a := 8) (b := i) (by omega) (by omega)).mp c_18
        obtain rfl : i = 8 := by omega
        refine j_iload_n dX5_partOf_60 rfl ?_
        refine j_iret rfl (Nat.le_of_ble_eq_true rfl) (Nat.le_of_ble_eq_true rfl) dX5_partOf_61 ?_
        exact ⟨rfl, rfl⟩
      · have hlt : i < 8 := Nat.not_le.mp (fun q => c_18 ((nI_leI (a := 8) (b := i) (by omega) (by omega)).mpr q))
        refine j_iload_n dX5_partOf_21 rfl ?_
        refine j_aload_n dX5_partOf_22 rfl ?_
        refine gX5_46 rfl (hR.1 _ ⟨by first | assumption | exact Nat.zero_lt_one, rfl⟩) rfl dX5_partOf_23 ?_
        refine j_bipush (v := 40) dX5_partOf_26 (by decide) ?_
        refine j_iload_n dX5_partOf_28 rfl ?_
        refine j_imul dX5_partOf_29 ?_
        refine j_bipush (v := 8) dX5_partOf_30 (by decide) ?_
        refine j_iload_n dX5_partOf_32 rfl ?_
        refine j_imul dX5_partOf_33 ?_
        refine j_iadd dX5_partOf_34 ?_
        refine j_iload dX5_partOf_35 rfl ?_
        refine j_iadd dX5_partOf_37 ?_
        refine j_iald (hR.1 _ ⟨by first | assumption | exact Nat.zero_lt_one, rfl⟩) (40 * b + 8 * q + i) (xi40 b q i) (by omega) (by decide) dX5_partOf_38 ?_
        refine j_aload_n dX5_partOf_39 rfl ?_
        refine gX5_34 rfl (hR.1 _ ⟨by first | assumption | exact Nat.zero_lt_one, rfl⟩) rfl dX5_partOf_40 ?_
        refine j_bipush (v := 8) dX5_partOf_43 (by decide) ?_
        refine j_iload_n dX5_partOf_45 rfl ?_
        refine j_imul dX5_partOf_46 ?_
        refine j_iload dX5_partOf_47 rfl ?_
        refine j_iadd dX5_partOf_49 ?_
        refine j_iald (hR.1 _ ⟨by first | assumption | exact Nat.zero_lt_one, rfl⟩) (8 * b + i) (xi8 b i) (by omega) (by decide) dX5_partOf_50 ?_
        refine j_imul dX5_partOf_51 ?_
        refine j_iadd dX5_partOf_52 ?_
        refine j_istore_n dX5_partOf_53 (Nat.le_of_ble_eq_true rfl) rfl ?_
        refine j_iinc dX5_partOf_54 rfl (nI_inc _) (Nat.le_of_ble_eq_true rfl) rfl ?_
        refine j_goto 14 dX5_partOf_57 (by decide) ?_
        exact ih (i + 1) (by omega) (by omega)
  refine Con.of 2 rfl (Nat.le_of_ble_eq_true rfl) ?_
  refine j_aload_n dX5_partOf_0 rfl ?_
  refine gX5_43 rfl (hR.1 _ ⟨by first | assumption | exact Nat.zero_lt_one, rfl⟩) rfl dX5_partOf_1 ?_
  refine j_iconst (v := 5) dX5_partOf_4 (by decide) ?_
  refine j_iload_n dX5_partOf_5 rfl ?_
  refine j_imul dX5_partOf_6 ?_
  refine j_iload_n dX5_partOf_7 rfl ?_
  refine j_iadd dX5_partOf_8 ?_
  refine j_iald (hR.1 _ ⟨by first | assumption | exact Nat.zero_lt_one, rfl⟩) (5 * b + q) (xi5 b q) (by omega) (by decide) dX5_partOf_9 ?_
  refine j_istore_n dX5_partOf_10 (Nat.le_of_ble_eq_true rfl) rfl ?_
  refine j_iconst (v := 0) dX5_partOf_11 (by decide) ?_
  refine j_istore dX5_partOf_12 (Nat.le_of_ble_eq_true rfl) rfl ?_
  exact key 9 0 (by omega) (by omega)

set_option maxRecDepth 100000 in
set_option maxHeartbeats 4000000 in
theorem c_X5_canCut (l : Launch) (G : GG) {ad : NM → Nat} {np nb : Nat} {Z : ZT} {L : LT} {h : AH} (hR : Rm ad np nb Z L h) {mb : Nat} (hmb : Z (5, 0, 0) 7 = nI mb) (hm : mb ≤ 24) {v : Int32} : Con l G mX5_canCut 2 0 0 [.ref (ad (5, 0, 0)), .int v] h (fun r h2 => r = some (.int (bi (mCan Z v))) ∧ h2 = h) := by
  refine Con.of 0 rfl (Nat.le_of_ble_eq_true rfl) ?_
  refine j_aload_n dX5_canCut_0 rfl ?_
  refine j_iload_n dX5_canCut_1 rfl ?_
  refine j_callV (rest := []) (c_X5_isBell l G hR) (hR.1 _ ⟨by first | assumption | exact Nat.zero_lt_one, rfl⟩) rfl cw_X5_isBell wl_X5_108 wm_X5_isBell wx_X5_isBell rfl rfl (Nat.le_of_ble_eq_true rfl) (Nat.le_of_ble_eq_true rfl) (Nat.le_of_ble_eq_true rfl) (Nat.le_of_ble_eq_true rfl) (Nat.le_of_ble_eq_true rfl) dX5_canCut_2 (fun v_2 h_2 e_2 => ?_)
  obtain ⟨rfl, hh⟩ := e_2
  have hh := hh.symm
  subst hh
  refine j_if_eq 30 dX5_canCut_5 (by decide) (fun c_5 => ?_) (fun c_5 => ?_)
  · have g_5 := (bi_eq0 _).mp c_5
    refine j_iconst (v := 0) dX5_canCut_30 (by decide) ?_
    refine j_zret rfl rfl (Nat.le_of_ble_eq_true rfl) (Nat.le_of_ble_eq_true rfl) dX5_canCut_31 ?_
    exact ⟨by simp [bi, mCan, g_5], rfl⟩
  · have g_5 := (bi_ne0 _).mp c_5
    obtain ⟨j, hj, rfl, hcl⟩ := iw_lt (by omega) (hmb ▸ g_5)
    have hcl : cl (nI j) = j := hcl
    refine j_aload_n dX5_canCut_8 rfl ?_
    refine gX5_49 rfl (hR.1 _ ⟨by first | assumption | exact Nat.zero_lt_one, rfl⟩) rfl dX5_canCut_9 ?_
    refine j_iload_n dX5_canCut_12 rfl ?_
    refine j_zald (hR.1 _ ⟨by first | assumption | exact Nat.zero_lt_one, rfl⟩) _ rfl (by omega) (by decide) dX5_canCut_13 ?_
    refine j_if_ne 30 dX5_canCut_14 (by decide) (fun c_14 => ?_) (fun c_14 => ?_)
    · refine j_iconst (v := 0) dX5_canCut_30 (by decide) ?_
      refine j_zret rfl rfl (Nat.le_of_ble_eq_true rfl) (Nat.le_of_ble_eq_true rfl) dX5_canCut_31 ?_
      exact ⟨by simp [bi, mCan, g_5, hcl, c_14], rfl⟩
    · refine j_aload_n dX5_canCut_17 rfl ?_
      refine gX5_53 rfl (hR.1 _ ⟨by first | assumption | exact Nat.zero_lt_one, rfl⟩) rfl dX5_canCut_18 ?_
      refine j_iload_n dX5_canCut_21 rfl ?_
      refine j_zald (hR.1 _ ⟨by first | assumption | exact Nat.zero_lt_one, rfl⟩) _ rfl (by omega) (by decide) dX5_canCut_22 ?_
      refine j_if_ne 30 dX5_canCut_23 (by decide) (fun c_23 => ?_) (fun c_23 => ?_)
      · refine j_iconst (v := 0) dX5_canCut_30 (by decide) ?_
        refine j_zret rfl rfl (Nat.le_of_ble_eq_true rfl) (Nat.le_of_ble_eq_true rfl) dX5_canCut_31 ?_
        exact ⟨by simp [bi, mCan, g_5, hcl, c_14, c_23], rfl⟩
      · refine j_iconst (v := 1) dX5_canCut_26 (by decide) ?_
        refine j_goto 31 dX5_canCut_27 (by decide) ?_
        refine j_zret rfl rfl (Nat.le_of_ble_eq_true rfl) (Nat.le_of_ble_eq_true rfl) dX5_canCut_31 ?_
        exact ⟨by simp [bi, mCan, g_5, hcl, c_14, c_23], rfl⟩

set_option maxRecDepth 100000 in
set_option maxHeartbeats 4000000 in
theorem c_X5_pull (l : Launch) (G : GG) {ad : NM → Nat} {np nb : Nat} {Z : ZT} {L : LT} {h : AH} (hR : Rm ad np nb Z L h) {b : Nat} (hb : b < 24) {w : Int32} (hw : wayOk w) : Con l G mX5_pull 1 0 0 [.ref (ad (5, 0, 0)), .int (nI b), .int w] h (fun r h2 => r = some (.int (mPull Z b w)) ∧ h2 = h) := by
  refine Con.of 0 rfl (Nat.le_of_ble_eq_true rfl) ?_
  refine j_iload_n dX5_pull_0 rfl ?_
  refine j_if_ge 8 dX5_pull_1 (by decide) (fun c_1 => ?_) (fun c_1 => ?_)
  · obtain ⟨j, hj, rfl⟩ : ∃ j, j < 5 ∧ w = nI j := by
      rcases hw with rfl | h9
      · exact absurd c_1 (by decide)
      · exact h9
    refine j_aload_n dX5_pull_8 rfl ?_
    refine j_iload_n dX5_pull_9 rfl ?_
    refine j_callV (rest := []) (c_X5_weightOf l G hR hb) (hR.1 _ ⟨by first | assumption | exact Nat.zero_lt_one, rfl⟩) rfl cw_X5_weightOf wl_X5_115 wm_X5_weightOf wx_X5_weightOf rfl rfl (Nat.le_of_ble_eq_true rfl) (Nat.le_of_ble_eq_true rfl) (Nat.le_of_ble_eq_true rfl) (Nat.le_of_ble_eq_true rfl) (Nat.le_of_ble_eq_true rfl) dX5_pull_10 (fun v_10 h_10 e_10 => ?_)
    obtain ⟨rfl, hh⟩ := e_10
    have hh := hh.symm
    subst hh
    refine j_aload_n dX5_pull_13 rfl ?_
    refine gX5_68 rfl (hR.1 _ ⟨by first | assumption | exact Nat.zero_lt_one, rfl⟩) rfl dX5_pull_14 ?_
    refine j_iload_n dX5_pull_17 rfl ?_
    refine j_iald (hR.1 _ ⟨by first | assumption | exact Nat.zero_lt_one, rfl⟩) j rfl hj (by decide) dX5_pull_18 ?_
    refine j_imul dX5_pull_19 ?_
    refine j_bipush (v := 100) dX5_pull_20 (by decide) ?_
    refine j_idiv dX5_pull_22 (by decide) ?_
    refine j_iret rfl (Nat.le_of_ble_eq_true rfl) (Nat.le_of_ble_eq_true rfl) dX5_pull_23 ?_
    first | exact ⟨by rw [mPull, if_neg c_1], rfl⟩ | exact ⟨by rw [mPull, if_pos c_1, cl_nI (by omega)], rfl⟩
  · refine j_iconst (v := 0) dX5_pull_4 (by decide) ?_
    refine j_goto 23 dX5_pull_5 (by decide) ?_
    refine j_iret rfl (Nat.le_of_ble_eq_true rfl) (Nat.le_of_ble_eq_true rfl) dX5_pull_23 ?_
    first | exact ⟨by rw [mPull, if_neg c_1], rfl⟩ | exact ⟨by rw [mPull, if_pos c_1, cl_nI (by omega)], rfl⟩

set_option maxRecDepth 100000 in
set_option maxHeartbeats 4000000 in
theorem c_X5_pulls (l : Launch) (G : GG) {ad : NM → Nat} {np nb : Nat} {Z : ZT} {L : LT} {h : AH} (hR : Rm ad np nb Z L h) {mb : Nat} (hmb : Z (5, 0, 0) 7 = nI mb) (hm : mb ≤ 24) (hg : ∀ b, b < mb → wayOk (Z (5, 0, 18) b)) : Con l G mX5_pulls 2 0 0 [.ref (ad (5, 0, 0))] h (fun r h2 => r = some (.int (mPulls Z mb)) ∧ h2 = h) := by
  have key : ∀ nn i, mb < i + nn → i ≤ mb → J (thM l G mX5_pulls 2 0 0 (fun r h2 => r = some (.int (mPulls Z mb)) ∧ h2 = h)) cX5_pulls h (0, 0) [some (.ref (ad (5, 0, 0))), some (.int (mPulls Z i)), some (.int (nI i))] 4 [] := by
    intro nn
    induction nn with
    | zero => intro i h1 h2; omega
    | succ nn ih =>
      intro i h1 h2 
      refine j_iload_n dX5_pulls_4 rfl ?_
      refine j_aload_n dX5_pulls_5 rfl ?_
      refine gX5_86 rfl (hR.1 _ ⟨by first | assumption | exact Nat.zero_lt_one, rfl⟩) rfl dX5_pulls_6 ?_
      refine j_icmp_ge 32 dX5_pulls_9 (by decide) (fun c_9 => ?_) (fun c_9 => ?_)
      · have hlt : mb ≤ i := (nI_leI (a := mb) (b := i) (by omega) (by omega)).mp (hmb ▸ c_9)
        obtain rfl : i = mb := by omega
        refine j_iload_n dX5_pulls_32 rfl ?_
        refine j_iret rfl (Nat.le_of_ble_eq_true rfl) (Nat.le_of_ble_eq_true rfl) dX5_pulls_33 ?_
        exact ⟨rfl, rfl⟩
      · have hlt : i < mb := Nat.not_le.mp (fun q => c_9 (hmb ▸ (nI_leI (a := mb) (b := i) (by omega) (by omega)).mpr q))
        refine j_iload_n dX5_pulls_12 rfl ?_
        refine j_aload_n dX5_pulls_13 rfl ?_
        refine j_iload_n dX5_pulls_14 rfl ?_
        refine j_aload_n dX5_pulls_15 rfl ?_
        refine gX5_56 rfl (hR.1 _ ⟨by first | assumption | exact Nat.zero_lt_one, rfl⟩) rfl dX5_pulls_16 ?_
        refine j_iload_n dX5_pulls_19 rfl ?_
        refine j_iald (hR.1 _ ⟨by first | assumption | exact Nat.zero_lt_one, rfl⟩) _ rfl (by omega) (by decide) dX5_pulls_20 ?_
        refine j_callV (rest := [.int (mPulls Z i)]) (c_X5_pull l G hR (b := i) (by omega) (hg i hlt)) (hR.1 _ ⟨by first | assumption | exact Nat.zero_lt_one, rfl⟩) rfl cw_X5_pull wl_X5_124 wm_X5_pull wx_X5_pull rfl rfl (Nat.le_of_ble_eq_true rfl) (Nat.le_of_ble_eq_true rfl) (Nat.le_of_ble_eq_true rfl) (Nat.le_of_ble_eq_true rfl) (Nat.le_of_ble_eq_true rfl) dX5_pulls_21 (fun v_21 h_21 e_21 => ?_)
        obtain ⟨rfl, hh⟩ := e_21
        have hh := hh.symm
        subst hh
        refine j_iadd dX5_pulls_24 ?_
        refine j_istore_n dX5_pulls_25 (Nat.le_of_ble_eq_true rfl) rfl ?_
        refine j_iinc dX5_pulls_26 rfl (nI_inc _) (Nat.le_of_ble_eq_true rfl) rfl ?_
        refine j_goto 4 dX5_pulls_29 (by decide) ?_
        exact ih (i + 1) (by omega) (by omega)
  refine Con.of 2 rfl (Nat.le_of_ble_eq_true rfl) ?_
  refine j_iconst (v := 0) dX5_pulls_0 (by decide) ?_
  refine j_istore_n dX5_pulls_1 (Nat.le_of_ble_eq_true rfl) rfl ?_
  refine j_iconst (v := 0) dX5_pulls_2 (by decide) ?_
  refine j_istore_n dX5_pulls_3 (Nat.le_of_ble_eq_true rfl) rfl ?_
  exact key (mb + 1) 0 (by omega) (by omega)
end
section
def mBuy (c t : Int32) (Z : ZT) : Int32 × ZT :=
  if iw c 0 1000000 && iw t 0 1000000 && !decide (100000000 < Z (5, 0, 0) 18 + c) && decide (Z (5, 0, 0) 19 + t ≤ 100000000) then
    (1, upZ (upZ Z (5, 0, 0) 18 (Z (5, 0, 0) 18 + c)) (5, 0, 0) 19 (upZ Z (5, 0, 0) 18 (Z (5, 0, 0) 18 + c) (5, 0, 0) 19 + t)) else (0, Z)
set_option maxRecDepth 100000 in
set_option maxHeartbeats 4000000 in
theorem c_X5_buy (l : Launch) (G : GG) {ad : NM → Nat} {np nb : Nat} {Z : ZT} {L : LT} {h : AH} (hR : Rm ad np nb Z L h) {c t : Int32} : Con l G mX5_buy 1 0 0 [.ref (ad (5, 0, 0)), .int c, .int t] h (fun r h2 => r = some (.int (mBuy c t Z).1) ∧ Rm ad np nb (mBuy c t Z).2 L h2) := by
  refine Con.of 0 rfl (Nat.le_of_ble_eq_true rfl) ?_
  refine j_iload_n dX5_buy_0 rfl ?_
  refine j_iconst (v := 0) dX5_buy_1 (by decide) ?_
  refine j_ldc (own := RX5) rfl wc_X5_97 dX5_buy_2 ?_
  refine j_callS (rest := []) (c_X5_in l G) cw_X5_in wl_X5_90 ws_X5_in rfl rfl (Nat.le_of_ble_eq_true rfl) (Nat.le_of_ble_eq_true rfl) (Nat.le_of_ble_eq_true rfl) (Nat.le_of_ble_eq_true rfl) (Nat.le_of_ble_eq_true rfl) dX5_buy_4 (fun v_4 h_4 e_4 => ?_)
  obtain ⟨rfl, hh⟩ := e_4
  have hh := hh.symm
  subst hh
  refine j_if_eq 42 dX5_buy_7 (by decide) (fun c_7 => ?_) (fun c_7 => ?_)
  · have g_7 := (bi_eq0 _).mp c_7
    refine j_iconst (v := 0) dX5_buy_42 (by decide) ?_
    refine j_zret rfl rfl (Nat.le_of_ble_eq_true rfl) (Nat.le_of_ble_eq_true rfl) dX5_buy_43 ?_
    exact ⟨by simp [mBuy, g_7], by simpa [mBuy, g_7] using hR⟩
  · have g_7 := (bi_ne0 _).mp c_7
    refine j_iload_n dX5_buy_10 rfl ?_
    refine j_iconst (v := 0) dX5_buy_11 (by decide) ?_
    refine j_ldc (own := RX5) rfl wc_X5_97 dX5_buy_12 ?_
    refine j_callS (rest := []) (c_X5_in l G) cw_X5_in wl_X5_90 ws_X5_in rfl rfl (Nat.le_of_ble_eq_true rfl) (Nat.le_of_ble_eq_true rfl) (Nat.le_of_ble_eq_true rfl) (Nat.le_of_ble_eq_true rfl) (Nat.le_of_ble_eq_true rfl) dX5_buy_14 (fun v_14 h_14 e_14 => ?_)
    obtain ⟨rfl, hh⟩ := e_14
    have hh := hh.symm
    subst hh
    refine j_if_eq 42 dX5_buy_17 (by decide) (fun c_17 => ?_) (fun c_17 => ?_)
    · have g_17 := (bi_eq0 _).mp c_17
      refine j_iconst (v := 0) dX5_buy_42 (by decide) ?_
      refine j_zret rfl rfl (Nat.le_of_ble_eq_true rfl) (Nat.le_of_ble_eq_true rfl) dX5_buy_43 ?_
      exact ⟨by simp [mBuy, g_7, g_17], by simpa [mBuy, g_7, g_17] using hR⟩
    · have g_17 := (bi_ne0 _).mp c_17
      refine j_aload_n dX5_buy_20 rfl ?_
      refine gX5_98 rfl (hR.1 _ ⟨by first | assumption | exact Nat.zero_lt_one, rfl⟩) rfl dX5_buy_21 ?_
      refine j_iload_n dX5_buy_24 rfl ?_
      refine j_iadd dX5_buy_25 ?_
      refine j_ldc (own := RX5) rfl wc_X5_101 dX5_buy_26 ?_
      refine j_icmp_gt 42 dX5_buy_28 (by decide) (fun c_28 => ?_) (fun c_28 => ?_)
      · refine j_iconst (v := 0) dX5_buy_42 (by decide) ?_
        refine j_zret rfl rfl (Nat.le_of_ble_eq_true rfl) (Nat.le_of_ble_eq_true rfl) dX5_buy_43 ?_
        exact ⟨by simp [mBuy, g_7, g_17, c_28], by simpa [mBuy, g_7, g_17, c_28] using hR⟩
      · refine j_aload_n dX5_buy_31 rfl ?_
        refine gX5_102 rfl (hR.1 _ ⟨by first | assumption | exact Nat.zero_lt_one, rfl⟩) rfl dX5_buy_32 ?_
        refine j_iload_n dX5_buy_35 rfl ?_
        refine j_iadd dX5_buy_36 ?_
        refine j_ldc (own := RX5) rfl wc_X5_101 dX5_buy_37 ?_
        refine j_icmp_le 44 dX5_buy_39 (by decide) (fun c_39 => ?_) (fun c_39 => ?_)
        · refine j_aload_n dX5_buy_44 rfl ?_
          refine j_dup dX5_buy_45 rfl ?_
          refine gX5_98 rfl (hR.1 _ ⟨by first | assumption | exact Nat.zero_lt_one, rfl⟩) rfl dX5_buy_46 ?_
          refine j_iload_n dX5_buy_49 rfl ?_
          refine j_iadd dX5_buy_50 ?_
          refine qX5_98 rfl hR dX5_buy_51 (fun h hR => ?_)
          refine j_aload_n dX5_buy_54 rfl ?_
          refine j_dup dX5_buy_55 rfl ?_
          refine gX5_102 rfl (hR.1 _ ⟨by first | assumption | exact Nat.zero_lt_one, rfl⟩) rfl dX5_buy_56 ?_
          refine j_iload_n dX5_buy_59 rfl ?_
          refine j_iadd dX5_buy_60 ?_
          refine qX5_102 rfl hR dX5_buy_61 (fun h hR => ?_)
          refine j_iconst (v := 1) dX5_buy_64 (by decide) ?_
          refine j_zret rfl rfl (Nat.le_of_ble_eq_true rfl) (Nat.le_of_ble_eq_true rfl) dX5_buy_65 ?_
          exact ⟨by simp [mBuy, g_7, g_17, c_28, c_39], by simpa [mBuy, g_7, g_17, c_28, c_39] using hR⟩
        · refine j_iconst (v := 0) dX5_buy_42 (by decide) ?_
          refine j_zret rfl rfl (Nat.le_of_ble_eq_true rfl) (Nat.le_of_ble_eq_true rfl) dX5_buy_43 ?_
          exact ⟨by simp [mBuy, g_7, g_17, c_28, c_39], by simpa [mBuy, g_7, g_17, c_28, c_39] using hR⟩

def mBase (p q v : Int32) (Z : ZT) : Int32 × ZT :=
  if iw p 0 (Z (5, 0, 0) 0 - 1) && iw q 0 4 && iw v (-20000) 20000 then (1, upZ Z (5, 0, 6) (5 * cl p + cl q) v) else (0, Z)
set_option maxRecDepth 100000 in
set_option maxHeartbeats 4000000 in
theorem c_X5_base (l : Launch) (G : GG) {ad : NM → Nat} {np nb : Nat} {Z : ZT} {L : LT} {h : AH} (hR : Rm ad np nb Z L h) {mp : Nat} (hmp : Z (5, 0, 0) 0 = nI mp) (hp4 : mp ≤ 4) {p q v : Int32} : Con l G mX5_base 1 0 0 [.ref (ad (5, 0, 0)), .int p, .int q, .int v] h (fun r h2 => r = some (.int (mBase p q v Z).1) ∧ Rm ad np nb (mBase p q v Z).2 L h2) := by
  refine Con.of 0 rfl (Nat.le_of_ble_eq_true rfl) ?_
  refine j_iload_n dX5_base_0 rfl ?_
  refine j_iconst (v := 0) dX5_base_1 (by decide) ?_
  refine j_aload_n dX5_base_2 rfl ?_
  refine gX5_94 rfl (hR.1 _ ⟨by first | assumption | exact Nat.zero_lt_one, rfl⟩) rfl dX5_base_3 ?_
  refine j_iconst (v := 1) dX5_base_6 (by decide) ?_
  refine j_isub dX5_base_7 ?_
  refine j_callS (rest := []) (c_X5_in l G) cw_X5_in wl_X5_90 ws_X5_in rfl rfl (Nat.le_of_ble_eq_true rfl) (Nat.le_of_ble_eq_true rfl) (Nat.le_of_ble_eq_true rfl) (Nat.le_of_ble_eq_true rfl) (Nat.le_of_ble_eq_true rfl) dX5_base_8 (fun v_8 h_8 e_8 => ?_)
  obtain ⟨rfl, hh⟩ := e_8
  have hh := hh.symm
  subst hh
  refine j_if_eq 36 dX5_base_11 (by decide) (fun c_11 => ?_) (fun c_11 => ?_)
  · have g_11 := (bi_eq0 _).mp c_11
    refine j_iconst (v := 0) dX5_base_36 (by decide) ?_
    refine j_zret rfl rfl (Nat.le_of_ble_eq_true rfl) (Nat.le_of_ble_eq_true rfl) dX5_base_37 ?_
    exact ⟨by simp [mBase, g_11], by simpa [mBase, g_11] using hR⟩
  · have g_11 := (bi_ne0 _).mp c_11
    obtain ⟨p, hp, rfl, hclp⟩ := iw_lt (by omega) (hmp ▸ g_11)
    have hclp : cl (nI p) = p := hclp
    refine j_iload_n dX5_base_14 rfl ?_
    refine j_iconst (v := 0) dX5_base_15 (by decide) ?_
    refine j_iconst (v := 4) dX5_base_16 (by decide) ?_
    refine j_callS (rest := []) (c_X5_in l G) cw_X5_in wl_X5_90 ws_X5_in rfl rfl (Nat.le_of_ble_eq_true rfl) (Nat.le_of_ble_eq_true rfl) (Nat.le_of_ble_eq_true rfl) (Nat.le_of_ble_eq_true rfl) (Nat.le_of_ble_eq_true rfl) dX5_base_17 (fun v_17 h_17 e_17 => ?_)
    obtain ⟨rfl, hh⟩ := e_17
    have hh := hh.symm
    subst hh
    refine j_if_eq 36 dX5_base_20 (by decide) (fun c_20 => ?_) (fun c_20 => ?_)
    · have g_20 := (bi_eq0 _).mp c_20
      refine j_iconst (v := 0) dX5_base_36 (by decide) ?_
      refine j_zret rfl rfl (Nat.le_of_ble_eq_true rfl) (Nat.le_of_ble_eq_true rfl) dX5_base_37 ?_
      exact ⟨by simp [mBase, g_11, hclp, g_20], by simpa [mBase, g_11, hclp, g_20] using hR⟩
    · have g_20 := (bi_ne0 _).mp c_20
      obtain ⟨q, hq, rfl, hclq⟩ := iw_le (n := 4) (by omega) g_20
      have hclq : cl (nI q) = q := hclq
      refine j_iload_n dX5_base_23 rfl ?_
      refine j_sipush (v := (-20000)) dX5_base_24 (by decide) ?_
      refine j_sipush (v := 20000) dX5_base_27 (by decide) ?_
      refine j_callS (rest := []) (c_X5_in l G) cw_X5_in wl_X5_90 ws_X5_in rfl rfl (Nat.le_of_ble_eq_true rfl) (Nat.le_of_ble_eq_true rfl) (Nat.le_of_ble_eq_true rfl) (Nat.le_of_ble_eq_true rfl) (Nat.le_of_ble_eq_true rfl) dX5_base_30 (fun v_30 h_30 e_30 => ?_)
      obtain ⟨rfl, hh⟩ := e_30
      have hh := hh.symm
      subst hh
      refine j_if_ne 38 dX5_base_33 (by decide) (fun c_33 => ?_) (fun c_33 => ?_)
      · have g_33 := (bi_ne0 _).mp c_33
        refine j_aload_n dX5_base_38 rfl ?_
        refine gX5_22 rfl (hR.1 _ ⟨by first | assumption | exact Nat.zero_lt_one, rfl⟩) rfl dX5_base_39 ?_
        refine j_iconst (v := 5) dX5_base_42 (by decide) ?_
        refine j_iload_n dX5_base_43 rfl ?_
        refine j_imul dX5_base_44 ?_
        refine j_iload_n dX5_base_45 rfl ?_
        refine j_iadd dX5_base_46 ?_
        refine j_iload_n dX5_base_47 rfl ?_
        refine r_iast hR ⟨Nat.zero_lt_one, rfl⟩ (fun _ => rfl) (5 * p + q) (xi5 p q) (by omega) (by decide) dX5_base_48 (fun h hR => ?_)
        refine j_iconst (v := 1) dX5_base_49 (by decide) ?_
        refine j_zret rfl rfl (Nat.le_of_ble_eq_true rfl) (Nat.le_of_ble_eq_true rfl) dX5_base_50 ?_
        exact ⟨by simp [mBase, g_11, hclp, g_20, hclq, g_33], by simpa [mBase, g_11, hclp, g_20, hclq, g_33] using hR⟩
      · have g_33 := (bi_eq0 _).mp c_33
        refine j_iconst (v := 0) dX5_base_36 (by decide) ?_
        refine j_zret rfl rfl (Nat.le_of_ble_eq_true rfl) (Nat.le_of_ble_eq_true rfl) dX5_base_37 ?_
        exact ⟨by simp [mBase, g_11, hclp, g_20, hclq, g_33], by simpa [mBase, g_11, hclp, g_20, hclq, g_33] using hR⟩

def mOld (v : Int32) (Z : ZT) : Int32 × ZT := if iw v 0 (Z (5, 0, 0) 7 - 1) then (1, upZ Z (5, 0, 16) (cl v) 1) else (0, Z)
set_option maxRecDepth 100000 in
set_option maxHeartbeats 4000000 in
theorem c_X5_old (l : Launch) (G : GG) {ad : NM → Nat} {np nb : Nat} {Z : ZT} {L : LT} {h : AH} (hR : Rm ad np nb Z L h) {mb : Nat} (hmb : Z (5, 0, 0) 7 = nI mb) (hm : mb ≤ 24) {v : Int32} : Con l G mX5_old 2 0 0 [.ref (ad (5, 0, 0)), .int v] h (fun r h2 => r = some (.int (mOld v Z).1) ∧ Rm ad np nb (mOld v Z).2 L h2) := by
  refine Con.of 0 rfl (Nat.le_of_ble_eq_true rfl) ?_
  refine j_aload_n dX5_old_0 rfl ?_
  refine j_iload_n dX5_old_1 rfl ?_
  refine j_callV (rest := []) (c_X5_isBell l G hR) (hR.1 _ ⟨by first | assumption | exact Nat.zero_lt_one, rfl⟩) rfl cw_X5_isBell wl_X5_108 wm_X5_isBell wx_X5_isBell rfl rfl (Nat.le_of_ble_eq_true rfl) (Nat.le_of_ble_eq_true rfl) (Nat.le_of_ble_eq_true rfl) (Nat.le_of_ble_eq_true rfl) (Nat.le_of_ble_eq_true rfl) dX5_old_2 (fun v_2 h_2 e_2 => ?_)
  obtain ⟨rfl, hh⟩ := e_2
  have hh := hh.symm
  subst hh
  refine j_if_ne 10 dX5_old_5 (by decide) (fun c_5 => ?_) (fun c_5 => ?_)
  · have g_5 := (bi_ne0 _).mp c_5
    obtain ⟨j, hj, rfl, hcl⟩ := iw_lt (by omega) (hmb ▸ g_5)
    have hcl : cl (nI j) = j := hcl
    refine j_aload_n dX5_old_10 rfl ?_
    refine gX5_49 rfl (hR.1 _ ⟨by first | assumption | exact Nat.zero_lt_one, rfl⟩) rfl dX5_old_11 ?_
    refine j_iload_n dX5_old_14 rfl ?_
    refine j_iconst (v := 1) dX5_old_15 (by decide) ?_
    refine r_zast hR ⟨Nat.zero_lt_one, rfl⟩ (fun _ => rfl) j rfl (by omega) (by decide) rfl dX5_old_16 (fun h hR => ?_)
    refine j_iconst (v := 1) dX5_old_17 (by decide) ?_
    refine j_zret rfl rfl (Nat.le_of_ble_eq_true rfl) (Nat.le_of_ble_eq_true rfl) dX5_old_18 ?_
    exact ⟨by simp [mOld, g_5, hcl], by simpa [mOld, g_5, hcl] using hR⟩
  · have g_5 := (bi_eq0 _).mp c_5
    refine j_iconst (v := 0) dX5_old_8 (by decide) ?_
    refine j_zret rfl rfl (Nat.le_of_ble_eq_true rfl) (Nat.le_of_ble_eq_true rfl) dX5_old_9 ?_
    exact ⟨by simp [mOld, g_5], by simpa [mOld, g_5] using hR⟩

def mSpan (p a b : Int32) (Z : ZT) : Int32 × ZT := if iw p 0 4 && iw a (-30000) 30000 && iw b a 30000 then (1, upZ (upZ Z (5, 0, 22) (cl p) a) (5, 0, 23) (cl p) b) else (0, Z)
set_option maxRecDepth 100000 in
set_option maxHeartbeats 4000000 in
theorem c_X5_span (l : Launch) (G : GG) {ad : NM → Nat} {np nb : Nat} {Z : ZT} {L : LT} {h : AH} (hR : Rm ad np nb Z L h) {p a b : Int32} : Con l G mX5_span 1 0 0 [.ref (ad (5, 0, 0)), .int p, .int a, .int b] h (fun r h2 => r = some (.int (mSpan p a b Z).1) ∧ Rm ad np nb (mSpan p a b Z).2 L h2) := by
  refine Con.of 0 rfl (Nat.le_of_ble_eq_true rfl) ?_
  refine j_iload_n dX5_span_0 rfl ?_
  refine j_iconst (v := 0) dX5_span_1 (by decide) ?_
  refine j_iconst (v := 4) dX5_span_2 (by decide) ?_
  refine j_callS (rest := []) (c_X5_in l G) cw_X5_in wl_X5_90 ws_X5_in rfl rfl (Nat.le_of_ble_eq_true rfl) (Nat.le_of_ble_eq_true rfl) (Nat.le_of_ble_eq_true rfl) (Nat.le_of_ble_eq_true rfl) (Nat.le_of_ble_eq_true rfl) dX5_span_3 (fun v_3 h_3 e_3 => ?_)
  obtain ⟨rfl, hh⟩ := e_3
  have hh := hh.symm
  subst hh
  refine j_if_eq 33 dX5_span_6 (by decide) (fun c_6 => ?_) (fun c_6 => ?_)
  · have g_6 := (bi_eq0 _).mp c_6
    refine j_iconst (v := 0) dX5_span_33 (by decide) ?_
    refine j_zret rfl rfl (Nat.le_of_ble_eq_true rfl) (Nat.le_of_ble_eq_true rfl) dX5_span_34 ?_
    exact ⟨by simp [mSpan, g_6], by simpa [mSpan, g_6] using hR⟩
  · have g_6 := (bi_ne0 _).mp c_6
    obtain ⟨p, hp, rfl, hclp⟩ := iw_le (n := 4) (by omega) g_6
    have hclp : cl (nI p) = p := hclp
    refine j_iload_n dX5_span_9 rfl ?_
    refine j_sipush (v := (-30000)) dX5_span_10 (by decide) ?_
    refine j_sipush (v := 30000) dX5_span_13 (by decide) ?_
    refine j_callS (rest := []) (c_X5_in l G) cw_X5_in wl_X5_90 ws_X5_in rfl rfl (Nat.le_of_ble_eq_true rfl) (Nat.le_of_ble_eq_true rfl) (Nat.le_of_ble_eq_true rfl) (Nat.le_of_ble_eq_true rfl) (Nat.le_of_ble_eq_true rfl) dX5_span_16 (fun v_16 h_16 e_16 => ?_)
    obtain ⟨rfl, hh⟩ := e_16
    have hh := hh.symm
    subst hh
    refine j_if_eq 33 dX5_span_19 (by decide) (fun c_19 => ?_) (fun c_19 => ?_)
    · have g_19 := (bi_eq0 _).mp c_19
      refine j_iconst (v := 0) dX5_span_33 (by decide) ?_
      refine j_zret rfl rfl (Nat.le_of_ble_eq_true rfl) (Nat.le_of_ble_eq_true rfl) dX5_span_34 ?_
      exact ⟨by simp [mSpan, g_6, hclp, g_19], by simpa [mSpan, g_6, hclp, g_19] using hR⟩
    · have g_19 := (bi_ne0 _).mp c_19
      refine j_iload_n dX5_span_22 rfl ?_
      refine j_iload_n dX5_span_23 rfl ?_
      refine j_sipush (v := 30000) dX5_span_24 (by decide) ?_
      refine j_callS (rest := []) (c_X5_in l G) cw_X5_in wl_X5_90 ws_X5_in rfl rfl (Nat.le_of_ble_eq_true rfl) (Nat.le_of_ble_eq_true rfl) (Nat.le_of_ble_eq_true rfl) (Nat.le_of_ble_eq_true rfl) (Nat.le_of_ble_eq_true rfl) dX5_span_27 (fun v_27 h_27 e_27 => ?_)
      obtain ⟨rfl, hh⟩ := e_27
      have hh := hh.symm
      subst hh
      refine j_if_ne 35 dX5_span_30 (by decide) (fun c_30 => ?_) (fun c_30 => ?_)
      · have g_30 := (bi_ne0 _).mp c_30
        refine j_aload_n dX5_span_35 rfl ?_
        refine gX5_59 rfl (hR.1 _ ⟨by first | assumption | exact Nat.zero_lt_one, rfl⟩) rfl dX5_span_36 ?_
        refine j_iload_n dX5_span_39 rfl ?_
        refine j_iload_n dX5_span_40 rfl ?_
        refine r_iast hR ⟨Nat.zero_lt_one, rfl⟩ (fun _ => rfl) p rfl (by omega) (by decide) dX5_span_41 (fun h hR => ?_)
        refine j_aload_n dX5_span_42 rfl ?_
        refine gX5_62 rfl (hR.1 _ ⟨by first | assumption | exact Nat.zero_lt_one, rfl⟩) rfl dX5_span_43 ?_
        refine j_iload_n dX5_span_46 rfl ?_
        refine j_iload_n dX5_span_47 rfl ?_
        refine r_iast hR ⟨Nat.zero_lt_one, rfl⟩ (fun _ => rfl) p rfl (by omega) (by decide) dX5_span_48 (fun h hR => ?_)
        refine j_iconst (v := 1) dX5_span_49 (by decide) ?_
        refine j_zret rfl rfl (Nat.le_of_ble_eq_true rfl) (Nat.le_of_ble_eq_true rfl) dX5_span_50 ?_
        exact ⟨by simp [mSpan, g_6, hclp, g_19, g_30], by simpa [mSpan, g_6, hclp, g_19, g_30] using hR⟩
      · have g_30 := (bi_eq0 _).mp c_30
        refine j_iconst (v := 0) dX5_span_33 (by decide) ?_
        refine j_zret rfl rfl (Nat.le_of_ble_eq_true rfl) (Nat.le_of_ble_eq_true rfl) dX5_span_34 ?_
        exact ⟨by simp [mSpan, g_6, hclp, g_19, g_30], by simpa [mSpan, g_6, hclp, g_19, g_30] using hR⟩

def mRing (a : Int32) (Z : ZT) : Int32 × ZT := if iw a 0 200 then (1, upZ (upZ Z (5, 0, 0) 25 a) (5, 0, 0) 23 0) else (0, Z)
set_option maxRecDepth 100000 in
set_option maxHeartbeats 4000000 in
theorem c_X5_ring (l : Launch) (G : GG) {ad : NM → Nat} {np nb : Nat} {Z : ZT} {L : LT} {h : AH} (hR : Rm ad np nb Z L h) {a : Int32} : Con l G mX5_ring 1 0 0 [.ref (ad (5, 0, 0)), .int a] h (fun r h2 => r = some (.int (mRing a Z).1) ∧ Rm ad np nb (mRing a Z).2 L h2) := by
  refine Con.of 0 rfl (Nat.le_of_ble_eq_true rfl) ?_
  refine j_iload_n dX5_ring_0 rfl ?_
  refine j_iconst (v := 0) dX5_ring_1 (by decide) ?_
  refine j_sipush (v := 200) dX5_ring_2 (by decide) ?_
  refine j_callS (rest := []) (c_X5_in l G) cw_X5_in wl_X5_90 ws_X5_in rfl rfl (Nat.le_of_ble_eq_true rfl) (Nat.le_of_ble_eq_true rfl) (Nat.le_of_ble_eq_true rfl) (Nat.le_of_ble_eq_true rfl) (Nat.le_of_ble_eq_true rfl) dX5_ring_5 (fun v_5 h_5 e_5 => ?_)
  obtain ⟨rfl, hh⟩ := e_5
  have hh := hh.symm
  subst hh
  refine j_if_ne 13 dX5_ring_8 (by decide) (fun c_8 => ?_) (fun c_8 => ?_)
  · have g_8 := (bi_ne0 _).mp c_8
    refine j_aload_n dX5_ring_13 rfl ?_
    refine j_iload_n dX5_ring_14 rfl ?_
    refine qX5_143 rfl hR dX5_ring_15 (fun h hR => ?_)
    refine j_aload_n dX5_ring_18 rfl ?_
    refine j_iconst (v := 0) dX5_ring_19 (by decide) ?_
    refine qX5_140 rfl hR dX5_ring_20 (fun h hR => ?_)
    refine j_iconst (v := 1) dX5_ring_23 (by decide) ?_
    refine j_zret rfl rfl (Nat.le_of_ble_eq_true rfl) (Nat.le_of_ble_eq_true rfl) dX5_ring_24 ?_
    exact ⟨by simp [mRing, g_8], by simpa [mRing, g_8] using hR⟩
  · have g_8 := (bi_eq0 _).mp c_8
    refine j_iconst (v := 0) dX5_ring_11 (by decide) ?_
    refine j_zret rfl rfl (Nat.le_of_ble_eq_true rfl) (Nat.le_of_ble_eq_true rfl) dX5_ring_12 ?_
    exact ⟨by simp [mRing, g_8], by simpa [mRing, g_8] using hR⟩
end
section
theorem mCan_lt {Z : ZT} {v : Int32} {mb : Nat} (hmb : Z (5, 0, 0) 7 = nI mb) (hm : mb ≤ 24) (h : mCan Z v = true) : ∃ j, j < mb ∧ v = nI j ∧ cl v = j := by
  simp only [mCan, Bool.and_eq_true] at h
  exact iw_lt (by omega) (hmb ▸ h.1.1)
theorem wayOk_of {w : Int32} (h : iw w (-1) 4 = true) : wayOk w := by
  obtain ⟨h1, h2⟩ := iw_iff.mp h
  by_cases h0 : w < 0
  · left
    have a := Int32.le_iff_toInt_le.mp h1
    have b := Int32.lt_iff_toInt_lt.mp h0
    have e1 : (-1 : Int32).toInt = -1 := by decide
    have e0 : (0 : Int32).toInt = 0 := rfl
    rw [e1] at a
    rw [e0] at b
    exact Int32.toInt_inj.mp (by rw [e1]; omega)
  · right
    obtain ⟨j, hj, rfl⟩ := nI_of2 (M := 4) (n := 4) (by decide) h0 h2
    exact ⟨j, by omega, rfl⟩
theorem itZ_keep {f : Nat → ZT → ZT} {Z : ZT} {n : NM} (hf : ∀ k Y, f k Y n = Y n) (k : Nat) : itZ f Z k n = Z n := by
  induction k with
  | zero => rfl
  | succ k ih => rw [itZ, hf, ih]
def mCut1 (Z : ZT) (i : Nat) : ZT := upZ Z (5, 0, 11) i (Z (5, 0, 11) i - 1)
def mCut2 (Z : ZT) (i : Nat) : ZT := upZ (mCut1 Z i) (5, 0, 0) 20 (mCut1 Z i (5, 0, 0) 20 + mCut1 Z i (5, 0, 13) i)
def mCut (v k : Int32) (Z : ZT) : Int32 × ZT :=
  if mCan Z v && iw k 0 7 && !decide (Z (5, 0, 11) (8 * cl v + cl k) = Z (5, 0, 12) (8 * cl v + cl k)) then (mCut2 Z (8 * cl v + cl k) (5, 0, 11) (8 * cl v + cl k), mCut2 Z (8 * cl v + cl k)) else (-1, Z)
set_option maxRecDepth 100000 in
set_option maxHeartbeats 4000000 in
theorem c_X5_cut (l : Launch) (G : GG) {ad : NM → Nat} {np nb : Nat} {Z : ZT} {L : LT} {h : AH} (hR : Rm ad np nb Z L h) {mb : Nat} (hmb : Z (5, 0, 0) 7 = nI mb) (hm : mb ≤ 24) {v k : Int32} : Con l G mX5_cut 3 0 0 [.ref (ad (5, 0, 0)), .int v, .int k] h (fun r h2 => r = some (.int (mCut v k Z).1) ∧ Rm ad np nb (mCut v k Z).2 L h2) := by
  refine Con.of 0 rfl (Nat.le_of_ble_eq_true rfl) ?_
  refine j_aload_n dX5_cut_0 rfl ?_
  refine j_iload_n dX5_cut_1 rfl ?_
  refine j_callV (rest := []) (c_X5_canCut l G hR hmb hm) (hR.1 _ ⟨by first | assumption | exact Nat.zero_lt_one, rfl⟩) rfl cw_X5_canCut wl_X5_112 wm_X5_canCut wx_X5_canCut rfl rfl (Nat.le_of_ble_eq_true rfl) (Nat.le_of_ble_eq_true rfl) (Nat.le_of_ble_eq_true rfl) (Nat.le_of_ble_eq_true rfl) (Nat.le_of_ble_eq_true rfl) dX5_cut_2 (fun v_2 h_2 e_2 => ?_)
  obtain ⟨rfl, hh⟩ := e_2
  have hh := hh.symm
  subst hh
  refine j_if_eq 43 dX5_cut_5 (by decide) (fun c_5 => ?_) (fun c_5 => ?_)
  · have g_5 := (bi_eq0 _).mp c_5
    refine j_iconst (v := (-1)) dX5_cut_43 (by decide) ?_
    refine j_iret rfl (Nat.le_of_ble_eq_true rfl) (Nat.le_of_ble_eq_true rfl) dX5_cut_44 ?_
    exact ⟨by simp [mCut, g_5, mCut2, mCut1], by simpa [mCut, g_5, mCut2, mCut1] using hR⟩
  · have g_5 := (bi_ne0 _).mp c_5
    obtain ⟨j, hj, rfl, hcl⟩ := mCan_lt hmb hm g_5
    refine j_iload_n dX5_cut_8 rfl ?_
    refine j_iconst (v := 0) dX5_cut_9 (by decide) ?_
    refine j_bipush (v := 7) dX5_cut_10 (by decide) ?_
    refine j_callS (rest := []) (c_X5_in l G) cw_X5_in wl_X5_90 ws_X5_in rfl rfl (Nat.le_of_ble_eq_true rfl) (Nat.le_of_ble_eq_true rfl) (Nat.le_of_ble_eq_true rfl) (Nat.le_of_ble_eq_true rfl) (Nat.le_of_ble_eq_true rfl) dX5_cut_12 (fun v_12 h_12 e_12 => ?_)
    obtain ⟨rfl, hh⟩ := e_12
    have hh := hh.symm
    subst hh
    refine j_if_eq 43 dX5_cut_15 (by decide) (fun c_15 => ?_) (fun c_15 => ?_)
    · have g_15 := (bi_eq0 _).mp c_15
      refine j_iconst (v := (-1)) dX5_cut_43 (by decide) ?_
      refine j_iret rfl (Nat.le_of_ble_eq_true rfl) (Nat.le_of_ble_eq_true rfl) dX5_cut_44 ?_
      exact ⟨by simp [mCut, g_5, hcl, g_15, mCut2, mCut1], by simpa [mCut, g_5, hcl, g_15, mCut2, mCut1] using hR⟩
    · have g_15 := (bi_ne0 _).mp c_15
      obtain ⟨i, hi, rfl, hcli⟩ := iw_le (n := 7) (by omega) g_15
      have hcli : cl (nI i) = i := hcli
      refine j_aload_n dX5_cut_18 rfl ?_
      refine gX5_34 rfl (hR.1 _ ⟨by first | assumption | exact Nat.zero_lt_one, rfl⟩) rfl dX5_cut_19 ?_
      refine j_bipush (v := 8) dX5_cut_22 (by decide) ?_
      refine j_iload_n dX5_cut_24 rfl ?_
      refine j_imul dX5_cut_25 ?_
      refine j_iload_n dX5_cut_26 rfl ?_
      refine j_iadd dX5_cut_27 ?_
      refine j_iald (hR.1 _ ⟨by first | assumption | exact Nat.zero_lt_one, rfl⟩) (8 * j + i) (xi8 j i) (by omega) (by decide) dX5_cut_28 ?_
      refine j_aload_n dX5_cut_29 rfl ?_
      refine gX5_37 rfl (hR.1 _ ⟨by first | assumption | exact Nat.zero_lt_one, rfl⟩) rfl dX5_cut_30 ?_
      refine j_bipush (v := 8) dX5_cut_33 (by decide) ?_
      refine j_iload_n dX5_cut_35 rfl ?_
      refine j_imul dX5_cut_36 ?_
      refine j_iload_n dX5_cut_37 rfl ?_
      refine j_iadd dX5_cut_38 ?_
      refine j_iald (hR.1 _ ⟨by first | assumption | exact Nat.zero_lt_one, rfl⟩) (8 * j + i) (xi8 j i) (by omega) (by decide) dX5_cut_39 ?_
      refine j_icmp_ne 45 dX5_cut_40 (by decide) (fun c_40 => ?_) (fun c_40 => ?_)
      · refine j_aload_n dX5_cut_45 rfl ?_
        refine gX5_34 rfl (hR.1 _ ⟨by first | assumption | exact Nat.zero_lt_one, rfl⟩) rfl dX5_cut_46 ?_
        refine j_bipush (v := 8) dX5_cut_49 (by decide) ?_
        refine j_iload_n dX5_cut_51 rfl ?_
        refine j_imul dX5_cut_52 ?_
        refine j_iload_n dX5_cut_53 rfl ?_
        refine j_iadd dX5_cut_54 ?_
        refine j_dup2 dX5_cut_55 rfl rfl ?_
        refine j_iald (hR.1 _ ⟨by first | assumption | exact Nat.zero_lt_one, rfl⟩) (8 * j + i) (xi8 j i) (by omega) (by decide) dX5_cut_56 ?_
        refine j_iconst (v := 1) dX5_cut_57 (by decide) ?_
        refine j_isub dX5_cut_58 ?_
        refine r_iast hR ⟨by first | assumption | exact Nat.zero_lt_one, rfl⟩ (fun _ => rfl) (8 * j + i) (xi8 j i) (by omega) (by decide) dX5_cut_59 (fun h hR => ?_)
        refine j_aload_n dX5_cut_60 rfl ?_
        refine j_dup dX5_cut_61 rfl ?_
        refine gX5_105 rfl (hR.1 _ ⟨by first | assumption | exact Nat.zero_lt_one, rfl⟩) rfl dX5_cut_62 ?_
        refine j_aload_n dX5_cut_65 rfl ?_
        refine gX5_40 rfl (hR.1 _ ⟨by first | assumption | exact Nat.zero_lt_one, rfl⟩) rfl dX5_cut_66 ?_
        refine j_bipush (v := 8) dX5_cut_69 (by decide) ?_
        refine j_iload_n dX5_cut_71 rfl ?_
        refine j_imul dX5_cut_72 ?_
        refine j_iload_n dX5_cut_73 rfl ?_
        refine j_iadd dX5_cut_74 ?_
        refine j_iald (hR.1 _ ⟨by first | assumption | exact Nat.zero_lt_one, rfl⟩) (8 * j + i) (xi8 j i) (by omega) (by decide) dX5_cut_75 ?_
        refine j_iadd dX5_cut_76 ?_
        refine qX5_105 rfl hR dX5_cut_77 (fun h hR => ?_)
        refine j_aload_n dX5_cut_80 rfl ?_
        refine gX5_34 rfl (hR.1 _ ⟨by first | assumption | exact Nat.zero_lt_one, rfl⟩) rfl dX5_cut_81 ?_
        refine j_bipush (v := 8) dX5_cut_84 (by decide) ?_
        refine j_iload_n dX5_cut_86 rfl ?_
        refine j_imul dX5_cut_87 ?_
        refine j_iload_n dX5_cut_88 rfl ?_
        refine j_iadd dX5_cut_89 ?_
        refine j_iald (hR.1 _ ⟨by first | assumption | exact Nat.zero_lt_one, rfl⟩) (8 * j + i) (xi8 j i) (by omega) (by decide) dX5_cut_90 ?_
        refine j_iret rfl (Nat.le_of_ble_eq_true rfl) (Nat.le_of_ble_eq_true rfl) dX5_cut_91 ?_
        exact ⟨by simp [mCut, g_5, hcl, g_15, hcli, c_40, mCut2, mCut1], by simpa [mCut, g_5, hcl, g_15, hcli, c_40, mCut2, mCut1] using hR⟩
      · refine j_iconst (v := (-1)) dX5_cut_43 (by decide) ?_
        refine j_iret rfl (Nat.le_of_ble_eq_true rfl) (Nat.le_of_ble_eq_true rfl) dX5_cut_44 ?_
        exact ⟨by simp [mCut, g_5, hcl, g_15, hcli, c_40, mCut2, mCut1], by simpa [mCut, g_5, hcl, g_15, hcli, c_40, mCut2, mCut1] using hR⟩

def mCrack1 (Z : ZT) (j : Nat) : ZT := upZ (upZ Z (5, 0, 17) j 1) (5, 0, 18) j (-1)
def mCrack2 (Z : ZT) (j : Nat) : ZT := upZ (mCrack1 Z j) (5, 0, 0) 20 (mCrack1 Z j (5, 0, 0) 20 + mW (mCrack1 Z j) j)
def mCrack (v : Int32) (Z : ZT) : Int32 × ZT := if iw v 0 (Z (5, 0, 0) 7 - 1) && decide (Z (5, 0, 17) (cl v) = 0) then (1, mCrack2 Z (cl v)) else (0, Z)
set_option maxRecDepth 100000 in
set_option maxHeartbeats 4000000 in
theorem c_X5_crack (l : Launch) (G : GG) {ad : NM → Nat} {np nb : Nat} {Z : ZT} {L : LT} {h : AH} (hR : Rm ad np nb Z L h) {mb : Nat} (hmb : Z (5, 0, 0) 7 = nI mb) (hm : mb ≤ 24) {v : Int32} : Con l G mX5_crack 2 0 0 [.ref (ad (5, 0, 0)), .int v] h (fun r h2 => r = some (.int (mCrack v Z).1) ∧ Rm ad np nb (mCrack v Z).2 L h2) := by
  refine Con.of 0 rfl (Nat.le_of_ble_eq_true rfl) ?_
  refine j_aload_n dX5_crack_0 rfl ?_
  refine j_iload_n dX5_crack_1 rfl ?_
  refine j_callV (rest := []) (c_X5_isBell l G hR) (hR.1 _ ⟨by first | assumption | exact Nat.zero_lt_one, rfl⟩) rfl cw_X5_isBell wl_X5_108 wm_X5_isBell wx_X5_isBell rfl rfl (Nat.le_of_ble_eq_true rfl) (Nat.le_of_ble_eq_true rfl) (Nat.le_of_ble_eq_true rfl) (Nat.le_of_ble_eq_true rfl) (Nat.le_of_ble_eq_true rfl) dX5_crack_2 (fun v_2 h_2 e_2 => ?_)
  obtain ⟨rfl, hh⟩ := e_2
  have hh := hh.symm
  subst hh
  refine j_if_eq 17 dX5_crack_5 (by decide) (fun c_5 => ?_) (fun c_5 => ?_)
  · have g_5 := (bi_eq0 _).mp c_5
    refine j_iconst (v := 0) dX5_crack_17 (by decide) ?_
    refine j_zret rfl rfl (Nat.le_of_ble_eq_true rfl) (Nat.le_of_ble_eq_true rfl) dX5_crack_18 ?_
    exact ⟨by simp [mCrack, g_5], by simpa [mCrack, g_5, mCrack2, mCrack1] using hR⟩
  · have g_5 := (bi_ne0 _).mp c_5
    obtain ⟨j, hj, rfl, hcl⟩ := iw_lt (by omega) (hmb ▸ g_5)
    have hcl : cl (nI j) = j := hcl
    refine j_aload_n dX5_crack_8 rfl ?_
    refine gX5_53 rfl (hR.1 _ ⟨by first | assumption | exact Nat.zero_lt_one, rfl⟩) rfl dX5_crack_9 ?_
    refine j_iload_n dX5_crack_12 rfl ?_
    refine j_zald (hR.1 _ ⟨by first | assumption | exact Nat.zero_lt_one, rfl⟩) j rfl (by omega) (by decide) dX5_crack_13 ?_
    refine j_if_eq 19 dX5_crack_14 (by decide) (fun c_14 => ?_) (fun c_14 => ?_)
    · refine j_aload_n dX5_crack_19 rfl ?_
      refine gX5_53 rfl (hR.1 _ ⟨by first | assumption | exact Nat.zero_lt_one, rfl⟩) rfl dX5_crack_20 ?_
      refine j_iload_n dX5_crack_23 rfl ?_
      refine j_iconst (v := 1) dX5_crack_24 (by decide) ?_
      refine r_zast hR ⟨by first | assumption | exact Nat.zero_lt_one, rfl⟩ (fun _ => rfl) j rfl (by omega) (by decide) rfl dX5_crack_25 (fun h hR => ?_)
      refine j_aload_n dX5_crack_26 rfl ?_
      refine gX5_56 rfl (hR.1 _ ⟨by first | assumption | exact Nat.zero_lt_one, rfl⟩) rfl dX5_crack_27 ?_
      refine j_iload_n dX5_crack_30 rfl ?_
      refine j_iconst (v := (-1)) dX5_crack_31 (by decide) ?_
      refine r_iast hR ⟨by first | assumption | exact Nat.zero_lt_one, rfl⟩ (fun _ => rfl) j rfl (by omega) (by decide) dX5_crack_32 (fun h hR => ?_)
      refine j_aload_n dX5_crack_33 rfl ?_
      refine j_dup dX5_crack_34 rfl ?_
      refine gX5_105 rfl (hR.1 _ ⟨by first | assumption | exact Nat.zero_lt_one, rfl⟩) rfl dX5_crack_35 ?_
      refine j_aload_n dX5_crack_38 rfl ?_
      refine j_iload_n dX5_crack_39 rfl ?_
      refine j_callV (rest := [.int (mCrack1 Z j (5, 0, 0) 20), .ref (ad (5, 0, 0))]) (c_X5_weightOf l G hR (by omega)) (hR.1 _ ⟨by first | assumption | exact Nat.zero_lt_one, rfl⟩) rfl cw_X5_weightOf wl_X5_115 wm_X5_weightOf wx_X5_weightOf rfl rfl (Nat.le_of_ble_eq_true rfl) (Nat.le_of_ble_eq_true rfl) (Nat.le_of_ble_eq_true rfl) (Nat.le_of_ble_eq_true rfl) (Nat.le_of_ble_eq_true rfl) dX5_crack_40 (fun v_40 h_40 e_40 => ?_)
      obtain ⟨rfl, hh⟩ := e_40
      have hh := hh.symm
      subst hh
      refine j_iadd dX5_crack_43 ?_
      refine qX5_105 rfl hR dX5_crack_44 (fun h hR => ?_)
      refine j_iconst (v := 1) dX5_crack_47 (by decide) ?_
      refine j_zret rfl rfl (Nat.le_of_ble_eq_true rfl) (Nat.le_of_ble_eq_true rfl) dX5_crack_48 ?_
      exact ⟨by simp [mCrack, g_5, hcl, c_14], by simpa [mCrack, g_5, hcl, c_14, mCrack2, mCrack1] using hR⟩
    · refine j_iconst (v := 0) dX5_crack_17 (by decide) ?_
      refine j_zret rfl rfl (Nat.le_of_ble_eq_true rfl) (Nat.le_of_ble_eq_true rfl) dX5_crack_18 ?_
      exact ⟨by simp [mCrack, g_5, hcl, c_14], by simpa [mCrack, g_5, hcl, c_14, mCrack2, mCrack1] using hR⟩

def mNote (s : Int32) (Z : ZT) : Int32 × ZT :=
  if iw s (-5000) 5000 && !decide (Z (5, 0, 0) 23 = 8) then
    (upZ Z (5, 0, 25) (cl (Z (5, 0, 0) 23)) s (5, 0, 0) 23 + 1, upZ (upZ Z (5, 0, 25) (cl (Z (5, 0, 0) 23)) s) (5, 0, 0) 23 (upZ Z (5, 0, 25) (cl (Z (5, 0, 0) 23)) s (5, 0, 0) 23 + 1)) else (-1, Z)
set_option maxRecDepth 100000 in
set_option maxHeartbeats 4000000 in
theorem c_X5_note (l : Launch) (G : GG) {ad : NM → Nat} {np nb : Nat} {Z : ZT} {L : LT} {h : AH} (hR : Rm ad np nb Z L h) {nn : Nat} (hnn : Z (5, 0, 0) 23 = nI nn) (hn8 : nn ≤ 8) {s : Int32} : Con l G mX5_note 1 0 0 [.ref (ad (5, 0, 0)), .int s] h (fun r h2 => r = some (.int (mNote s Z).1) ∧ Rm ad np nb (mNote s Z).2 L h2) := by
  refine Con.of 0 rfl (Nat.le_of_ble_eq_true rfl) ?_
  refine j_iload_n dX5_note_0 rfl ?_
  refine j_sipush (v := (-5000)) dX5_note_1 (by decide) ?_
  refine j_sipush (v := 5000) dX5_note_4 (by decide) ?_
  refine j_callS (rest := []) (c_X5_in l G) cw_X5_in wl_X5_90 ws_X5_in rfl rfl (Nat.le_of_ble_eq_true rfl) (Nat.le_of_ble_eq_true rfl) (Nat.le_of_ble_eq_true rfl) (Nat.le_of_ble_eq_true rfl) (Nat.le_of_ble_eq_true rfl) dX5_note_7 (fun v_7 h_7 e_7 => ?_)
  obtain ⟨rfl, hh⟩ := e_7
  have hh := hh.symm
  subst hh
  refine j_if_eq 22 dX5_note_10 (by decide) (fun c_10 => ?_) (fun c_10 => ?_)
  · have g_10 := (bi_eq0 _).mp c_10
    refine j_iconst (v := (-1)) dX5_note_22 (by decide) ?_
    refine j_iret rfl (Nat.le_of_ble_eq_true rfl) (Nat.le_of_ble_eq_true rfl) dX5_note_23 ?_
    exact ⟨by simp [mNote, g_10, upZ_at], by simpa [mNote, g_10] using hR⟩
  · have g_10 := (bi_ne0 _).mp c_10
    refine j_aload_n dX5_note_13 rfl ?_
    refine gX5_140 rfl (hR.1 _ ⟨by first | assumption | exact Nat.zero_lt_one, rfl⟩) rfl dX5_note_14 ?_
    refine j_bipush (v := 8) dX5_note_17 (by decide) ?_
    refine j_icmp_ne 24 dX5_note_19 (by decide) (fun c_19 => ?_) (fun c_19 => ?_)
    · have hlt : nn < 8 := by
        rcases Nat.lt_or_ge nn 8 with q | q
        · exact q
        · obtain rfl : nn = 8 := by omega
          exact absurd hnn c_19
      have hcl : cl (Z (5, 0, 0) 23) = nn := by rw [hnn]; exact cl_nI (by omega)
      refine j_aload_n dX5_note_24 rfl ?_
      refine gX5_65 rfl (hR.1 _ ⟨by first | assumption | exact Nat.zero_lt_one, rfl⟩) rfl dX5_note_25 ?_
      refine j_aload_n dX5_note_28 rfl ?_
      refine gX5_140 rfl (hR.1 _ ⟨by first | assumption | exact Nat.zero_lt_one, rfl⟩) rfl dX5_note_29 ?_
      refine j_iload_n dX5_note_32 rfl ?_
      refine r_iast hR ⟨by first | assumption | exact Nat.zero_lt_one, rfl⟩ (fun _ => rfl) nn hnn hlt (by decide) dX5_note_33 (fun h hR => ?_)
      refine j_aload_n dX5_note_34 rfl ?_
      refine j_dup dX5_note_35 rfl ?_
      refine gX5_140 rfl (hR.1 _ ⟨by first | assumption | exact Nat.zero_lt_one, rfl⟩) rfl dX5_note_36 ?_
      refine j_iconst (v := 1) dX5_note_39 (by decide) ?_
      refine j_iadd dX5_note_40 ?_
      refine qX5_140 rfl hR dX5_note_41 (fun h hR => ?_)
      refine j_aload_n dX5_note_44 rfl ?_
      refine gX5_140 rfl (hR.1 _ ⟨by first | assumption | exact Nat.zero_lt_one, rfl⟩) rfl dX5_note_45 ?_
      refine j_iret rfl (Nat.le_of_ble_eq_true rfl) (Nat.le_of_ble_eq_true rfl) dX5_note_48 ?_
      exact ⟨by simp [mNote, g_10, c_19, hcl, upZ_at], by simpa [mNote, g_10, c_19, hcl] using hR⟩
    · refine j_iconst (v := (-1)) dX5_note_22 (by decide) ?_
      refine j_iret rfl (Nat.le_of_ble_eq_true rfl) (Nat.le_of_ble_eq_true rfl) dX5_note_23 ?_
      exact ⟨by simp [mNote, g_10, c_19, upZ_at], by simpa [mNote, g_10, c_19] using hR⟩

def mHang (mb : Nat) (v w : Int32) (Z : ZT) : Int32 × ZT :=
  if iw v 0 (Z (5, 0, 0) 7 - 1) && decide (Z (5, 0, 17) (cl v) = 0) && iw w (-1) 4 then
    (if mPulls (upZ Z (5, 0, 18) (cl v) w) mb ≤ upZ Z (5, 0, 18) (cl v) w (5, 0, 0) 27 then (1, upZ Z (5, 0, 18) (cl v) w) else (0, upZ (upZ Z (5, 0, 18) (cl v) w) (5, 0, 18) (cl v) (Z (5, 0, 18) (cl v)))) else (0, Z)
set_option maxRecDepth 100000 in
set_option maxHeartbeats 4000000 in
theorem c_X5_hang (l : Launch) (G : GG) {ad : NM → Nat} {np nb : Nat} {Z : ZT} {L : LT} {h : AH} (hR : Rm ad np nb Z L h) {mb : Nat} (hmb : Z (5, 0, 0) 7 = nI mb) (hm : mb ≤ 24) (hg : ∀ b, b < mb → wayOk (Z (5, 0, 18) b)) {v w : Int32} : Con l G mX5_hang 3 0 0 [.ref (ad (5, 0, 0)), .int v, .int w] h (fun r h2 => r = some (.int (mHang mb v w Z).1) ∧ Rm ad np nb (mHang mb v w Z).2 L h2) := by
  refine Con.of 1 rfl (Nat.le_of_ble_eq_true rfl) ?_
  refine j_aload_n dX5_hang_0 rfl ?_
  refine j_iload_n dX5_hang_1 rfl ?_
  refine j_callV (rest := []) (c_X5_isBell l G hR) (hR.1 _ ⟨by first | assumption | exact Nat.zero_lt_one, rfl⟩) rfl cw_X5_isBell wl_X5_108 wm_X5_isBell wx_X5_isBell rfl rfl (Nat.le_of_ble_eq_true rfl) (Nat.le_of_ble_eq_true rfl) (Nat.le_of_ble_eq_true rfl) (Nat.le_of_ble_eq_true rfl) (Nat.le_of_ble_eq_true rfl) dX5_hang_2 (fun v_2 h_2 e_2 => ?_)
  obtain ⟨rfl, hh⟩ := e_2
  have hh := hh.symm
  subst hh
  refine j_if_eq 26 dX5_hang_5 (by decide) (fun c_5 => ?_) (fun c_5 => ?_)
  · have g_5 := (bi_eq0 _).mp c_5
    refine j_iconst (v := 0) dX5_hang_26 (by decide) ?_
    refine j_zret rfl rfl (Nat.le_of_ble_eq_true rfl) (Nat.le_of_ble_eq_true rfl) dX5_hang_27 ?_
    exact ⟨by simp [mHang, g_5], by simpa [mHang, g_5] using hR⟩
  · have g_5 := (bi_ne0 _).mp c_5
    obtain ⟨j, hj, rfl, hcl⟩ := iw_lt (by omega) (hmb ▸ g_5)
    have hcl : cl (nI j) = j := hcl
    refine j_aload_n dX5_hang_8 rfl ?_
    refine gX5_53 rfl (hR.1 _ ⟨by first | assumption | exact Nat.zero_lt_one, rfl⟩) rfl dX5_hang_9 ?_
    refine j_iload_n dX5_hang_12 rfl ?_
    refine j_zald (hR.1 _ ⟨by first | assumption | exact Nat.zero_lt_one, rfl⟩) j rfl (by omega) (by decide) dX5_hang_13 ?_
    refine j_if_ne 26 dX5_hang_14 (by decide) (fun c_14 => ?_) (fun c_14 => ?_)
    · refine j_iconst (v := 0) dX5_hang_26 (by decide) ?_
      refine j_zret rfl rfl (Nat.le_of_ble_eq_true rfl) (Nat.le_of_ble_eq_true rfl) dX5_hang_27 ?_
      exact ⟨by simp [mHang, g_5, hcl, c_14], by simpa [mHang, g_5, hcl, c_14] using hR⟩
    · refine j_iload_n dX5_hang_17 rfl ?_
      refine j_iconst (v := (-1)) dX5_hang_18 (by decide) ?_
      refine j_iconst (v := 4) dX5_hang_19 (by decide) ?_
      refine j_callS (rest := []) (c_X5_in l G) cw_X5_in wl_X5_90 ws_X5_in rfl rfl (Nat.le_of_ble_eq_true rfl) (Nat.le_of_ble_eq_true rfl) (Nat.le_of_ble_eq_true rfl) (Nat.le_of_ble_eq_true rfl) (Nat.le_of_ble_eq_true rfl) dX5_hang_20 (fun v_20 h_20 e_20 => ?_)
      obtain ⟨rfl, hh⟩ := e_20
      have hh := hh.symm
      subst hh
      refine j_if_ne 28 dX5_hang_23 (by decide) (fun c_23 => ?_) (fun c_23 => ?_)
      · have g_23 := (bi_ne0 _).mp c_23
        have hwo := wayOk_of g_23
        refine j_aload_n dX5_hang_28 rfl ?_
        refine gX5_56 rfl (hR.1 _ ⟨by first | assumption | exact Nat.zero_lt_one, rfl⟩) rfl dX5_hang_29 ?_
        refine j_iload_n dX5_hang_32 rfl ?_
        refine j_iald (hR.1 _ ⟨by first | assumption | exact Nat.zero_lt_one, rfl⟩) j rfl (by omega) (by decide) dX5_hang_33 ?_
        refine j_istore_n dX5_hang_34 (Nat.le_of_ble_eq_true rfl) rfl ?_
        refine j_aload_n dX5_hang_35 rfl ?_
        refine gX5_56 rfl (hR.1 _ ⟨by first | assumption | exact Nat.zero_lt_one, rfl⟩) rfl dX5_hang_36 ?_
        refine j_iload_n dX5_hang_39 rfl ?_
        refine j_iload_n dX5_hang_40 rfl ?_
        refine r_iast hR ⟨by first | assumption | exact Nat.zero_lt_one, rfl⟩ (fun _ => rfl) j rfl (by omega) (by decide) dX5_hang_41 (fun h hR => ?_)
        refine j_aload_n dX5_hang_42 rfl ?_
        refine j_callV (rest := []) (c_X5_pulls l G hR (mb := mb) (by rw [upZ_nk (Or.inl (by decide))]; exact hmb) hm (fun b hb => by
          by_cases hbj : b = j
          · subst hbj; rw [upZ_at]; exact hwo
          · rw [upZ_nk (Or.inr hbj)]; exact hg b hb)) (hR.1 _ ⟨by first | assumption | exact Nat.zero_lt_one, rfl⟩) rfl cw_X5_pulls wl_X5_161 wm_X5_pulls wx_X5_pulls rfl rfl (Nat.le_of_ble_eq_true rfl) (Nat.le_of_ble_eq_true rfl) (Nat.le_of_ble_eq_true rfl) (Nat.le_of_ble_eq_true rfl) (Nat.le_of_ble_eq_true rfl) dX5_hang_43 (fun v_43 h_43 e_43 => ?_)
        obtain ⟨rfl, hh⟩ := e_43
        have hh := hh.symm
        subst hh
        refine j_aload_n dX5_hang_46 rfl ?_
        refine gX5_164 rfl (hR.1 _ ⟨by first | assumption | exact Nat.zero_lt_one, rfl⟩) rfl dX5_hang_47 ?_
        refine j_icmp_le 62 dX5_hang_50 (by decide) (fun c_50 => ?_) (fun c_50 => ?_)
        · refine j_iconst (v := 1) dX5_hang_62 (by decide) ?_
          refine j_zret rfl rfl (Nat.le_of_ble_eq_true rfl) (Nat.le_of_ble_eq_true rfl) dX5_hang_63 ?_
          exact ⟨by simp [mHang, g_5, hcl, c_14, g_23, c_50], by simpa [mHang, g_5, hcl, c_14, g_23, c_50] using hR⟩
        · refine j_aload_n dX5_hang_53 rfl ?_
          refine gX5_56 rfl (hR.1 _ ⟨by first | assumption | exact Nat.zero_lt_one, rfl⟩) rfl dX5_hang_54 ?_
          refine j_iload_n dX5_hang_57 rfl ?_
          refine j_iload_n dX5_hang_58 rfl ?_
          refine r_iast hR ⟨by first | assumption | exact Nat.zero_lt_one, rfl⟩ (fun _ => rfl) j rfl (by omega) (by decide) dX5_hang_59 (fun h hR => ?_)
          refine j_iconst (v := 0) dX5_hang_60 (by decide) ?_
          refine j_zret rfl rfl (Nat.le_of_ble_eq_true rfl) (Nat.le_of_ble_eq_true rfl) dX5_hang_61 ?_
          exact ⟨by simp [mHang, g_5, hcl, c_14, g_23, c_50], by simpa [mHang, g_5, hcl, c_14, g_23, c_50] using hR⟩
      · have g_23 := (bi_eq0 _).mp c_23
        refine j_iconst (v := 0) dX5_hang_26 (by decide) ?_
        refine j_zret rfl rfl (Nat.le_of_ble_eq_true rfl) (Nat.le_of_ble_eq_true rfl) dX5_hang_27 ?_
        exact ⟨by simp [mHang, g_5, hcl, c_14, g_23], by simpa [mHang, g_5, hcl, c_14, g_23] using hR⟩

def mTow1 (w s : Int32) (Z : ZT) : ZT := if 0 ≤ w then upZ Z (5, 0, 27) (cl w) s else Z
def mTower (mb : Nat) (w s b : Int32) (Z : ZT) : Int32 × ZT :=
  if iw w (-1) 4 && (decide (w < 0) || iw s 0 300) && iw b 0 1000000 then
    (if mPulls (mTow1 w s Z) mb ≤ b then (1, upZ (mTow1 w s Z) (5, 0, 0) 27 b) else (0, mTow1 w (Z (5, 0, 27) (cl w)) (mTow1 w s Z))) else (0, Z)
set_option maxRecDepth 100000 in
set_option maxHeartbeats 4000000 in
theorem c_X5_tower (l : Launch) (G : GG) {ad : NM → Nat} {np nb : Nat} {Z : ZT} {L : LT} {h : AH} (hR : Rm ad np nb Z L h) {mb : Nat} (hmb : Z (5, 0, 0) 7 = nI mb) (hm : mb ≤ 24) (hg : ∀ b, b < mb → wayOk (Z (5, 0, 18) b)) {w s b : Int32} : Con l G mX5_tower 3 0 0 [.ref (ad (5, 0, 0)), .int w, .int s, .int b] h (fun r h2 => r = some (.int (mTower mb w s b Z).1) ∧ Rm ad np nb (mTower mb w s b Z).2 L h2) := by
  refine Con.of 1 rfl (Nat.le_of_ble_eq_true rfl) ?_
  by_cases hw : iw w (-1) 4 = true
  · rcases wayOk_of hw with rfl | ⟨j, hj, rfl⟩
    · have hcl : True := trivial
      refine j_iload_n dX5_tower_0 rfl ?_
      refine j_iconst (v := (-1)) dX5_tower_1 (by decide) ?_
      refine j_iconst (v := 4) dX5_tower_2 (by decide) ?_
      refine j_callS (rest := []) (c_X5_in l G) cw_X5_in wl_X5_90 ws_X5_in rfl rfl (Nat.le_of_ble_eq_true rfl) (Nat.le_of_ble_eq_true rfl) (Nat.le_of_ble_eq_true rfl) (Nat.le_of_ble_eq_true rfl) (Nat.le_of_ble_eq_true rfl) dX5_tower_3 (fun v_3 h_3 e_3 => ?_)
      obtain ⟨rfl, hh⟩ := e_3
      have hh := hh.symm
      subst hh
      refine j_if_eq 34 dX5_tower_6 (by decide) (fun c_6 => ?_) (fun c_6 => ?_)
      · have g_6 := (bi_eq0 _).mp c_6
        exact absurd g_6 (by decide)
      · have g_6 := (bi_ne0 _).mp c_6
        refine j_iload_n dX5_tower_9 rfl ?_
        refine j_if_lt 24 dX5_tower_10 (by decide) (fun c_10 => ?_) (fun c_10 => ?_)
        · refine j_iload_n dX5_tower_24 rfl ?_
          refine j_iconst (v := 0) dX5_tower_25 (by decide) ?_
          refine j_ldc (own := RX5) rfl wc_X5_97 dX5_tower_26 ?_
          refine j_callS (rest := []) (c_X5_in l G) cw_X5_in wl_X5_90 ws_X5_in rfl rfl (Nat.le_of_ble_eq_true rfl) (Nat.le_of_ble_eq_true rfl) (Nat.le_of_ble_eq_true rfl) (Nat.le_of_ble_eq_true rfl) (Nat.le_of_ble_eq_true rfl) dX5_tower_28 (fun v_28 h_28 e_28 => ?_)
          obtain ⟨rfl, hh⟩ := e_28
          have hh := hh.symm
          subst hh
          refine j_if_ne 36 dX5_tower_31 (by decide) (fun c_31 => ?_) (fun c_31 => ?_)
          · have g_31 := (bi_ne0 _).mp c_31
            refine j_iload_n dX5_tower_36 rfl ?_
            refine j_if_ge 44 dX5_tower_37 (by decide) (fun c_37 => ?_) (fun c_37 => ?_)
            · exact absurd c_37 (by decide)
            · refine j_iconst (v := 0) dX5_tower_40 (by decide) ?_
              refine j_goto 50 dX5_tower_41 (by decide) ?_
              refine j_istore dX5_tower_50 (Nat.le_of_ble_eq_true rfl) rfl ?_
              refine j_iload_n dX5_tower_52 rfl ?_
              refine j_if_lt 63 dX5_tower_53 (by decide) (fun c_53 => ?_) (fun c_53 => ?_)
              · refine j_aload_n dX5_tower_63 rfl ?_
                refine j_callV (rest := []) (c_X5_pulls l G hR hmb hm hg) (hR.1 _ ⟨by first | assumption | exact Nat.zero_lt_one, rfl⟩) rfl cw_X5_pulls wl_X5_161 wm_X5_pulls wx_X5_pulls rfl rfl (Nat.le_of_ble_eq_true rfl) (Nat.le_of_ble_eq_true rfl) (Nat.le_of_ble_eq_true rfl) (Nat.le_of_ble_eq_true rfl) (Nat.le_of_ble_eq_true rfl) dX5_tower_64 (fun v_64 h_64 e_64 => ?_)
                obtain ⟨rfl, hh⟩ := e_64
                have hh := hh.symm
                subst hh
                refine j_iload_n dX5_tower_67 rfl ?_
                refine j_icmp_le 85 dX5_tower_68 (by decide) (fun c_68 => ?_) (fun c_68 => ?_)
                · refine j_aload_n dX5_tower_85 rfl ?_
                  refine j_iload_n dX5_tower_86 rfl ?_
                  refine qX5_164 rfl hR dX5_tower_87 (fun h hR => ?_)
                  refine j_iconst (v := 1) dX5_tower_90 (by decide) ?_
                  refine j_zret rfl rfl (Nat.le_of_ble_eq_true rfl) (Nat.le_of_ble_eq_true rfl) dX5_tower_91 ?_
                  exact ⟨by simp [mTower, mTow1, g_6, c_10, g_31, c_37, c_53, c_68], by simpa [mTower, mTow1, g_6, c_10, g_31, c_37, c_53, c_68] using hR⟩
                · refine j_iload_n dX5_tower_71 rfl ?_
                  refine j_if_lt 83 dX5_tower_72 (by decide) (fun c_72 => ?_) (fun c_72 => ?_)
                  · refine j_iconst (v := 0) dX5_tower_83 (by decide) ?_
                    refine j_zret rfl rfl (Nat.le_of_ble_eq_true rfl) (Nat.le_of_ble_eq_true rfl) dX5_tower_84 ?_
                    exact ⟨by simp [mTower, mTow1, g_6, c_10, g_31, c_37, c_53, c_68, c_72], by simpa [mTower, mTow1, g_6, c_10, g_31, c_37, c_53, c_68, c_72] using hR⟩
                  · exact absurd (show (-1 : Int32) < 0 by decide) c_72
              · exact absurd (show (-1 : Int32) < 0 by decide) c_53
          · have g_31 := (bi_eq0 _).mp c_31
            refine j_iconst (v := 0) dX5_tower_34 (by decide) ?_
            refine j_zret rfl rfl (Nat.le_of_ble_eq_true rfl) (Nat.le_of_ble_eq_true rfl) dX5_tower_35 ?_
            exact ⟨by simp [mTower, mTow1, g_6, c_10, g_31], by simpa [mTower, mTow1, g_6, c_10, g_31] using hR⟩
        · exact absurd (show (-1 : Int32) < 0 by decide) c_10
    · have hcl : cl (nI j) = j := cl_nI (by omega)
      refine j_iload_n dX5_tower_0 rfl ?_
      refine j_iconst (v := (-1)) dX5_tower_1 (by decide) ?_
      refine j_iconst (v := 4) dX5_tower_2 (by decide) ?_
      refine j_callS (rest := []) (c_X5_in l G) cw_X5_in wl_X5_90 ws_X5_in rfl rfl (Nat.le_of_ble_eq_true rfl) (Nat.le_of_ble_eq_true rfl) (Nat.le_of_ble_eq_true rfl) (Nat.le_of_ble_eq_true rfl) (Nat.le_of_ble_eq_true rfl) dX5_tower_3 (fun v_3 h_3 e_3 => ?_)
      obtain ⟨rfl, hh⟩ := e_3
      have hh := hh.symm
      subst hh
      refine j_if_eq 34 dX5_tower_6 (by decide) (fun c_6 => ?_) (fun c_6 => ?_)
      · have g_6 := (bi_eq0 _).mp c_6
        rw [hw] at g_6
        exact absurd g_6 (by decide)
      · have g_6 := (bi_ne0 _).mp c_6
        refine j_iload_n dX5_tower_9 rfl ?_
        refine j_if_lt 24 dX5_tower_10 (by decide) (fun c_10 => ?_) (fun c_10 => ?_)
        · exact absurd c_10 (nI_pos (n := j) (by omega))
        · refine j_iload_n dX5_tower_13 rfl ?_
          refine j_iconst (v := 0) dX5_tower_14 (by decide) ?_
          refine j_sipush (v := 300) dX5_tower_15 (by decide) ?_
          refine j_callS (rest := []) (c_X5_in l G) cw_X5_in wl_X5_90 ws_X5_in rfl rfl (Nat.le_of_ble_eq_true rfl) (Nat.le_of_ble_eq_true rfl) (Nat.le_of_ble_eq_true rfl) (Nat.le_of_ble_eq_true rfl) (Nat.le_of_ble_eq_true rfl) dX5_tower_18 (fun v_18 h_18 e_18 => ?_)
          obtain ⟨rfl, hh⟩ := e_18
          have hh := hh.symm
          subst hh
          refine j_if_eq 34 dX5_tower_21 (by decide) (fun c_21 => ?_) (fun c_21 => ?_)
          · have g_21 := (bi_eq0 _).mp c_21
            refine j_iconst (v := 0) dX5_tower_34 (by decide) ?_
            refine j_zret rfl rfl (Nat.le_of_ble_eq_true rfl) (Nat.le_of_ble_eq_true rfl) dX5_tower_35 ?_
            exact ⟨by simp [mTower, mTow1, hw, hcl, g_6, c_10, g_21], by simpa [mTower, mTow1, hw, hcl, g_6, c_10, g_21] using hR⟩
          · have g_21 := (bi_ne0 _).mp c_21
            refine j_iload_n dX5_tower_24 rfl ?_
            refine j_iconst (v := 0) dX5_tower_25 (by decide) ?_
            refine j_ldc (own := RX5) rfl wc_X5_97 dX5_tower_26 ?_
            refine j_callS (rest := []) (c_X5_in l G) cw_X5_in wl_X5_90 ws_X5_in rfl rfl (Nat.le_of_ble_eq_true rfl) (Nat.le_of_ble_eq_true rfl) (Nat.le_of_ble_eq_true rfl) (Nat.le_of_ble_eq_true rfl) (Nat.le_of_ble_eq_true rfl) dX5_tower_28 (fun v_28 h_28 e_28 => ?_)
            obtain ⟨rfl, hh⟩ := e_28
            have hh := hh.symm
            subst hh
            refine j_if_ne 36 dX5_tower_31 (by decide) (fun c_31 => ?_) (fun c_31 => ?_)
            · have g_31 := (bi_ne0 _).mp c_31
              refine j_iload_n dX5_tower_36 rfl ?_
              refine j_if_ge 44 dX5_tower_37 (by decide) (fun c_37 => ?_) (fun c_37 => ?_)
              · refine j_aload_n dX5_tower_44 rfl ?_
                refine gX5_68 rfl (hR.1 _ ⟨by first | assumption | exact Nat.zero_lt_one, rfl⟩) rfl dX5_tower_45 ?_
                refine j_iload_n dX5_tower_48 rfl ?_
                refine j_iald (hR.1 _ ⟨by first | assumption | exact Nat.zero_lt_one, rfl⟩) j rfl hj (by decide) dX5_tower_49 ?_
                refine j_istore dX5_tower_50 (Nat.le_of_ble_eq_true rfl) rfl ?_
                refine j_iload_n dX5_tower_52 rfl ?_
                refine j_if_lt 63 dX5_tower_53 (by decide) (fun c_53 => ?_) (fun c_53 => ?_)
                · exact absurd c_53 (nI_pos (n := j) (by omega))
                · refine j_aload_n dX5_tower_56 rfl ?_
                  refine gX5_68 rfl (hR.1 _ ⟨by first | assumption | exact Nat.zero_lt_one, rfl⟩) rfl dX5_tower_57 ?_
                  refine j_iload_n dX5_tower_60 rfl ?_
                  refine j_iload_n dX5_tower_61 rfl ?_
                  refine r_iast hR ⟨by first | assumption | exact Nat.zero_lt_one, rfl⟩ (fun _ => rfl) j rfl hj (by decide) dX5_tower_62 (fun h hR => ?_)
                  refine j_aload_n dX5_tower_63 rfl ?_
                  refine j_callV (rest := []) (c_X5_pulls l G hR (mb := mb) (by rw [upZ_nk (Or.inl (by decide))]; exact hmb) hm (fun b hb => by rw [upZ_nk (Or.inl (by decide))]; exact hg b hb)) (hR.1 _ ⟨by first | assumption | exact Nat.zero_lt_one, rfl⟩) rfl cw_X5_pulls wl_X5_161 wm_X5_pulls wx_X5_pulls rfl rfl (Nat.le_of_ble_eq_true rfl) (Nat.le_of_ble_eq_true rfl) (Nat.le_of_ble_eq_true rfl) (Nat.le_of_ble_eq_true rfl) (Nat.le_of_ble_eq_true rfl) dX5_tower_64 (fun v_64 h_64 e_64 => ?_)
                  obtain ⟨rfl, hh⟩ := e_64
                  have hh := hh.symm
                  subst hh
                  refine j_iload_n dX5_tower_67 rfl ?_
                  refine j_icmp_le 85 dX5_tower_68 (by decide) (fun c_68 => ?_) (fun c_68 => ?_)
                  · refine j_aload_n dX5_tower_85 rfl ?_
                    refine j_iload_n dX5_tower_86 rfl ?_
                    refine qX5_164 rfl hR dX5_tower_87 (fun h hR => ?_)
                    refine j_iconst (v := 1) dX5_tower_90 (by decide) ?_
                    refine j_zret rfl rfl (Nat.le_of_ble_eq_true rfl) (Nat.le_of_ble_eq_true rfl) dX5_tower_91 ?_
                    exact ⟨by simp [mTower, mTow1, hw, hcl, g_6, c_10, g_21, g_31, c_37, c_53, c_68], by simpa [mTower, mTow1, hw, hcl, g_6, c_10, g_21, g_31, c_37, c_53, c_68] using hR⟩
                  · refine j_iload_n dX5_tower_71 rfl ?_
                    refine j_if_lt 83 dX5_tower_72 (by decide) (fun c_72 => ?_) (fun c_72 => ?_)
                    · exact absurd c_72 (nI_pos (n := j) (by omega))
                    · refine j_aload_n dX5_tower_75 rfl ?_
                      refine gX5_68 rfl (hR.1 _ ⟨by first | assumption | exact Nat.zero_lt_one, rfl⟩) rfl dX5_tower_76 ?_
                      refine j_iload_n dX5_tower_79 rfl ?_
                      refine j_iload dX5_tower_80 rfl ?_
                      refine r_iast hR ⟨by first | assumption | exact Nat.zero_lt_one, rfl⟩ (fun _ => rfl) j rfl hj (by decide) dX5_tower_82 (fun h hR => ?_)
                      refine j_iconst (v := 0) dX5_tower_83 (by decide) ?_
                      refine j_zret rfl rfl (Nat.le_of_ble_eq_true rfl) (Nat.le_of_ble_eq_true rfl) dX5_tower_84 ?_
                      exact ⟨by simp [mTower, mTow1, hw, hcl, g_6, c_10, g_21, g_31, c_37, c_53, c_68, c_72], by simpa [mTower, mTow1, hw, hcl, g_6, c_10, g_21, g_31, c_37, c_53, c_68, c_72] using hR⟩
              · exact absurd (nI_pos' (n := j) (by omega)) c_37
            · have g_31 := (bi_eq0 _).mp c_31
              refine j_iconst (v := 0) dX5_tower_34 (by decide) ?_
              refine j_zret rfl rfl (Nat.le_of_ble_eq_true rfl) (Nat.le_of_ble_eq_true rfl) dX5_tower_35 ?_
              exact ⟨by simp [mTower, mTow1, hw, hcl, g_6, c_10, g_21, g_31], by simpa [mTower, mTow1, hw, hcl, g_6, c_10, g_21, g_31] using hR⟩
  · have hcl : True := trivial
    refine j_iload_n dX5_tower_0 rfl ?_
    refine j_iconst (v := (-1)) dX5_tower_1 (by decide) ?_
    refine j_iconst (v := 4) dX5_tower_2 (by decide) ?_
    refine j_callS (rest := []) (c_X5_in l G) cw_X5_in wl_X5_90 ws_X5_in rfl rfl (Nat.le_of_ble_eq_true rfl) (Nat.le_of_ble_eq_true rfl) (Nat.le_of_ble_eq_true rfl) (Nat.le_of_ble_eq_true rfl) (Nat.le_of_ble_eq_true rfl) dX5_tower_3 (fun v_3 h_3 e_3 => ?_)
    obtain ⟨rfl, hh⟩ := e_3
    have hh := hh.symm
    subst hh
    refine j_if_eq 34 dX5_tower_6 (by decide) (fun c_6 => ?_) (fun c_6 => ?_)
    · have g_6 := (bi_eq0 _).mp c_6
      refine j_iconst (v := 0) dX5_tower_34 (by decide) ?_
      refine j_zret rfl rfl (Nat.le_of_ble_eq_true rfl) (Nat.le_of_ble_eq_true rfl) dX5_tower_35 ?_
      exact ⟨by simp [mTower, hw], by simpa [mTower, hw] using hR⟩
    · have g_6 := (bi_ne0 _).mp c_6
      exact absurd g_6 hw

def mProf1 (mp : Nat) (w : Int32) (Z : ZT) : ZT := itZ (fun i Y => upZ Y (5, 0, 5) (8 * mp + i) 1) (upZ Z (5, 0, 2) mp w) 8
def mProfile (mp : Nat) (w : Int32) (Z : ZT) : Int32 × ZT := if iw w 0 5000 && !decide (Z (5, 0, 0) 0 = 4) then (nI mp, upZ (mProf1 mp w Z) (5, 0, 0) 0 (nI (mp + 1))) else (-1, Z)
set_option maxRecDepth 100000 in
set_option maxHeartbeats 4000000 in
theorem c_X5_profile (l : Launch) (G : GG) {ad : NM → Nat} {np nb : Nat} {Z : ZT} {L : LT} {h : AH} (hR : Rm ad np nb Z L h) {mp : Nat} (hmp : Z (5, 0, 0) 0 = nI mp) (hp4 : mp ≤ 4) {w : Int32} : Con l G mX5_profile 1 0 0 [.ref (ad (5, 0, 0)), .int w] h (fun r h2 => r = some (.int (mProfile mp w Z).1) ∧ Rm ad np nb (mProfile mp w Z).2 L h2) := by
  refine Con.of 1 rfl (Nat.le_of_ble_eq_true rfl) ?_
  refine j_iload_n dX5_profile_0 rfl ?_
  refine j_iconst (v := 0) dX5_profile_1 (by decide) ?_
  refine j_sipush (v := 5000) dX5_profile_2 (by decide) ?_
  refine j_callS (rest := []) (c_X5_in l G) cw_X5_in wl_X5_90 ws_X5_in rfl rfl (Nat.le_of_ble_eq_true rfl) (Nat.le_of_ble_eq_true rfl) (Nat.le_of_ble_eq_true rfl) (Nat.le_of_ble_eq_true rfl) (Nat.le_of_ble_eq_true rfl) dX5_profile_5 (fun v_5 h_5 e_5 => ?_)
  obtain ⟨rfl, hh⟩ := e_5
  have hh := hh.symm
  subst hh
  refine j_if_eq 19 dX5_profile_8 (by decide) (fun c_8 => ?_) (fun c_8 => ?_)
  · have g_8 := (bi_eq0 _).mp c_8
    refine j_iconst (v := (-1)) dX5_profile_19 (by decide) ?_
    refine j_iret rfl (Nat.le_of_ble_eq_true rfl) (Nat.le_of_ble_eq_true rfl) dX5_profile_20 ?_
    exact ⟨by simp [mProfile, g_8], by simpa [mProfile, g_8] using hR⟩
  · have g_8 := (bi_ne0 _).mp c_8
    refine j_aload_n dX5_profile_11 rfl ?_
    refine gX5_94 rfl (hR.1 _ ⟨by first | assumption | exact Nat.zero_lt_one, rfl⟩) rfl dX5_profile_12 ?_
    refine j_iconst (v := 4) dX5_profile_15 (by decide) ?_
    refine j_icmp_ne 21 dX5_profile_16 (by decide) (fun c_16 => ?_) (fun c_16 => ?_)
    · have hlt : mp < 4 := by
        rcases Nat.lt_or_ge mp 4 with q | q
        · exact q
        · obtain rfl : mp = 4 := by omega
          exact absurd hmp c_16
      refine j_aload_n dX5_profile_21 rfl ?_
      refine gX5_7 rfl (hR.1 _ ⟨by first | assumption | exact Nat.zero_lt_one, rfl⟩) rfl dX5_profile_22 ?_
      refine j_aload_n dX5_profile_25 rfl ?_
      refine gX5_94 rfl (hR.1 _ ⟨by first | assumption | exact Nat.zero_lt_one, rfl⟩) rfl dX5_profile_26 ?_
      refine j_iload_n dX5_profile_29 rfl ?_
      refine r_iast hR ⟨by first | assumption | exact Nat.zero_lt_one, rfl⟩ (fun _ => rfl) mp hmp hlt (by decide) dX5_profile_30 (fun h hR => ?_)
      refine j_iconst (v := 0) dX5_profile_31 (by decide) ?_
      refine j_istore_n dX5_profile_32 (Nat.le_of_ble_eq_true rfl) rfl ?_
      have key : ∀ nn i, 8 < i + nn → i ≤ 8 → ∀ h, Rm ad np nb (itZ (fun i Y => upZ Y (5, 0, 5) (8 * mp + i) 1) (upZ Z (5, 0, 2) mp w) i) L h → J (thM l G mX5_profile 1 0 0 (fun r h2 => r = some (.int (mProfile mp w Z).1) ∧ Rm ad np nb (mProfile mp w Z).2 L h2)) cX5_profile h (0, 0) [some (.ref (ad (5, 0, 0))), some (.int w), some (.int (nI i))] 33 [] := by
        intro nn
        induction nn with
        | zero => intro i h1 h2; omega
        | succ nn ih =>
          intro i h1 h2 h hR
          have hpi : itZ (fun i Y => upZ Y (5, 0, 5) (8 * mp + i) 1) (upZ Z (5, 0, 2) mp w) i (5, 0, 0) 0 = nI mp := by
            rw [itZ_keep (n := (5, 0, 0)) (fun k Y => upZ_ne (by decide)), upZ_nk (Or.inl (by decide))]
            exact hmp
          refine j_iload_n dX5_profile_33 rfl ?_
          refine j_bipush (v := 8) dX5_profile_34 (by decide) ?_
          refine j_icmp_ge 60 dX5_profile_36 (by decide) (fun c_36 => ?_) (fun c_36 => ?_)
          · have hl8 : 8 ≤ i := (nI_leI (a := 8) (b := i) (by omega) (by omega)).mp c_36
            obtain rfl : i = 8 := by omega
            refine j_aload_n dX5_profile_60 rfl ?_
            refine j_dup dX5_profile_61 rfl ?_
            refine gX5_94 rfl (hR.1 _ ⟨by first | assumption | exact Nat.zero_lt_one, rfl⟩) rfl dX5_profile_62 ?_
            refine j_iconst (v := 1) dX5_profile_65 (by decide) ?_
            refine j_iadd dX5_profile_66 ?_
            rw [hpi, nI_1]
            refine qX5_94 rfl hR dX5_profile_67 (fun h hR => ?_)
            refine j_aload_n dX5_profile_70 rfl ?_
            refine gX5_94 rfl (hR.1 _ ⟨by first | assumption | exact Nat.zero_lt_one, rfl⟩) rfl dX5_profile_71 ?_
            rw [upZ_at]
            refine j_iconst (v := 1) dX5_profile_74 (by decide) ?_
            refine j_isub dX5_profile_75 ?_
            refine j_iret rfl (Nat.le_of_ble_eq_true rfl) (Nat.le_of_ble_eq_true rfl) dX5_profile_76 ?_
            exact ⟨by simp [mProfile, g_8, c_16, nI_pred], by simpa [mProfile, g_8, c_16, mProf1] using hR⟩
          · have hl8 : i < 8 := Nat.not_le.mp (fun q => c_36 ((nI_leI (a := 8) (b := i) (by omega) (by omega)).mpr q))
            refine j_aload_n dX5_profile_39 rfl ?_
            refine gX5_19 rfl (hR.1 _ ⟨by first | assumption | exact Nat.zero_lt_one, rfl⟩) rfl dX5_profile_40 ?_
            refine j_bipush (v := 8) dX5_profile_43 (by decide) ?_
            refine j_aload_n dX5_profile_45 rfl ?_
            refine gX5_94 rfl (hR.1 _ ⟨by first | assumption | exact Nat.zero_lt_one, rfl⟩) rfl dX5_profile_46 ?_
            refine j_imul dX5_profile_49 ?_
            refine j_iload_n dX5_profile_50 rfl ?_
            refine j_iadd dX5_profile_51 ?_
            refine j_iconst (v := 1) dX5_profile_52 (by decide) ?_
            refine r_iast hR ⟨by first | assumption | exact Nat.zero_lt_one, rfl⟩ (fun _ => rfl) (8 * mp + i) (by rw [hpi]; exact xi8 mp i) (by omega) (by decide) dX5_profile_53 (fun h hR => ?_)
            refine j_iinc dX5_profile_54 rfl (nI_inc _) (Nat.le_of_ble_eq_true rfl) rfl ?_
            refine j_goto 33 dX5_profile_57 (by decide) ?_
            exact ih (i + 1) (by omega) (by omega) _ hR
      exact key 9 0 (by omega) (by omega) _ hR
    · refine j_iconst (v := (-1)) dX5_profile_19 (by decide) ?_
      refine j_iret rfl (Nat.le_of_ble_eq_true rfl) (Nat.le_of_ble_eq_true rfl) dX5_profile_20 ?_
      exact ⟨by simp [mProfile, g_8, c_16], by simpa [mProfile, g_8, c_16] using hR⟩
end
section
theorem iw_ab {v : Int32} (a b : Nat) (hb : b < 2147483648) (h : iw v (nI a) (nI b) = true) (ha : a ≤ b) : ∃ j, a ≤ j ∧ j ≤ b ∧ v = nI j ∧ cl v = j := by
  obtain ⟨h1, h2⟩ := iw_iff.mp h
  have h1' := Int32.le_iff_toInt_le.mp h1
  have h2' := Int32.le_iff_toInt_le.mp h2
  have e0 : (0 : Int32).toInt = 0 := rfl
  rw [nI_toInt (by omega)] at h1' h2'
  obtain ⟨j, hj, rfl⟩ := nI_of (x := v) (fun q => by have := Int32.lt_iff_toInt_lt.mp q; rw [e0] at this; omega)
  rw [nI_toInt hj] at h1' h2'
  exact ⟨j, by omega, by omega, rfl, nI_clamp hj⟩
def mGood (v : Int32) (q i : Nat) (Z : ZT) : Bool := if q < 5 then iw v (-50) 50 else if q = 5 then iw v 1 50 else if q = 6 then iw v 0 (Z (5, 0, 3) i) else iw v (Z (5, 0, 4) i) 99
def mShape (p w k v : Int32) (Z : ZT) : Int32 × ZT :=
  if iw p 0 (Z (5, 0, 0) 0 - 1) && iw w 0 7 && iw k 0 7 && mGood v (cl w) (8 * cl p + cl k) Z then
    (1, if cl w < 5 then upZ Z (5, 0, 7) (40 * cl p + 8 * cl w + cl k) v else if cl w = 5 then upZ Z (5, 0, 5) (8 * cl p + cl k) v else if cl w = 6 then upZ Z (5, 0, 4) (8 * cl p + cl k) v else upZ Z (5, 0, 3) (8 * cl p + cl k) v) else (0, Z)
set_option maxRecDepth 100000 in
set_option maxHeartbeats 4000000 in
theorem c_X5_shape (l : Launch) (G : GG) {ad : NM → Nat} {np nb : Nat} {Z : ZT} {L : LT} {h : AH} (hR : Rm ad np nb Z L h) {mp : Nat} (hmp : Z (5, 0, 0) 0 = nI mp) (hp4 : mp ≤ 4) {p w k v : Int32} : Con l G mX5_shape 1 0 0 [.ref (ad (5, 0, 0)), .int p, .int w, .int k, .int v] h (fun r h2 => r = some (.int (mShape p w k v Z).1) ∧ Rm ad np nb (mShape p w k v Z).2 L h2) := by
  refine Con.of 2 rfl (Nat.le_of_ble_eq_true rfl) ?_
  refine j_iload_n dX5_shape_0 rfl ?_
  refine j_iconst (v := 0) dX5_shape_1 (by decide) ?_
  refine j_aload_n dX5_shape_2 rfl ?_
  refine gX5_94 rfl (hR.1 _ ⟨by first | assumption | exact Nat.zero_lt_one, rfl⟩) rfl dX5_shape_3 ?_
  refine j_iconst (v := 1) dX5_shape_6 (by decide) ?_
  refine j_isub dX5_shape_7 ?_
  refine j_callS (rest := []) (c_X5_in l G) cw_X5_in wl_X5_90 ws_X5_in rfl rfl (Nat.le_of_ble_eq_true rfl) (Nat.le_of_ble_eq_true rfl) (Nat.le_of_ble_eq_true rfl) (Nat.le_of_ble_eq_true rfl) (Nat.le_of_ble_eq_true rfl) dX5_shape_8 (fun v_8 h_8 e_8 => ?_)
  obtain ⟨rfl, hh⟩ := e_8
  have hh := hh.symm
  subst hh
  refine j_if_eq 34 dX5_shape_11 (by decide) (fun c_11 => ?_) (fun c_11 => ?_)
  · have g_11 := (bi_eq0 _).mp c_11
    refine j_iconst (v := 0) dX5_shape_34 (by decide) ?_
    refine j_zret rfl rfl (Nat.le_of_ble_eq_true rfl) (Nat.le_of_ble_eq_true rfl) dX5_shape_35 ?_
    exact ⟨by simp [mShape, g_11], by simpa [mShape, g_11] using hR⟩
  · have g_11 := (bi_ne0 _).mp c_11
    obtain ⟨p, hp, rfl, hclp⟩ := iw_lt (by omega) (hmp ▸ g_11)
    have hclp : cl (nI p) = p := hclp
    refine j_iload_n dX5_shape_14 rfl ?_
    refine j_iconst (v := 0) dX5_shape_15 (by decide) ?_
    refine j_bipush (v := 7) dX5_shape_16 (by decide) ?_
    refine j_callS (rest := []) (c_X5_in l G) cw_X5_in wl_X5_90 ws_X5_in rfl rfl (Nat.le_of_ble_eq_true rfl) (Nat.le_of_ble_eq_true rfl) (Nat.le_of_ble_eq_true rfl) (Nat.le_of_ble_eq_true rfl) (Nat.le_of_ble_eq_true rfl) dX5_shape_18 (fun v_18 h_18 e_18 => ?_)
    obtain ⟨rfl, hh⟩ := e_18
    have hh := hh.symm
    subst hh
    refine j_if_eq 34 dX5_shape_21 (by decide) (fun c_21 => ?_) (fun c_21 => ?_)
    · have g_21 := (bi_eq0 _).mp c_21
      refine j_iconst (v := 0) dX5_shape_34 (by decide) ?_
      refine j_zret rfl rfl (Nat.le_of_ble_eq_true rfl) (Nat.le_of_ble_eq_true rfl) dX5_shape_35 ?_
      exact ⟨by simp [mShape, g_11, hclp, g_21], by simpa [mShape, g_11, hclp, g_21] using hR⟩
    · have g_21 := (bi_ne0 _).mp c_21
      obtain ⟨q, hq, rfl, hclw⟩ := iw_le (n := 7) (by omega) g_21
      have hclw : cl (nI q) = q := hclw
      refine j_iload_n dX5_shape_24 rfl ?_
      refine j_iconst (v := 0) dX5_shape_25 (by decide) ?_
      refine j_bipush (v := 7) dX5_shape_26 (by decide) ?_
      refine j_callS (rest := []) (c_X5_in l G) cw_X5_in wl_X5_90 ws_X5_in rfl rfl (Nat.le_of_ble_eq_true rfl) (Nat.le_of_ble_eq_true rfl) (Nat.le_of_ble_eq_true rfl) (Nat.le_of_ble_eq_true rfl) (Nat.le_of_ble_eq_true rfl) dX5_shape_28 (fun v_28 h_28 e_28 => ?_)
      obtain ⟨rfl, hh⟩ := e_28
      have hh := hh.symm
      subst hh
      refine j_if_ne 36 dX5_shape_31 (by decide) (fun c_31 => ?_) (fun c_31 => ?_)
      · have g_31 := (bi_ne0 _).mp c_31
        obtain ⟨k, hk, rfl, hclk⟩ := iw_le (n := 7) (by omega) g_31
        have hclk : cl (nI k) = k := hclk
        refine j_bipush (v := 8) dX5_shape_36 (by decide) ?_
        refine j_iload_n dX5_shape_38 rfl ?_
        refine j_imul dX5_shape_39 ?_
        refine j_iload_n dX5_shape_40 rfl ?_
        refine j_iadd dX5_shape_41 ?_
        refine j_istore dX5_shape_42 (Nat.le_of_ble_eq_true rfl) rfl ?_
        rcases (show q < 5 ∨ q = 5 ∨ q = 6 ∨ q = 7 by omega) with hq5 | rfl | rfl | rfl
        · refine j_iload_n dX5_shape_44 rfl ?_
          refine j_iconst (v := 5) dX5_shape_45 (by decide) ?_
          refine j_icmp_ge 61 dX5_shape_46 (by decide) (fun c_46 => ?_) (fun c_46 => ?_)
          · exact absurd ((nI_leI (a := 5) (b := q) (by omega) (by omega)).mp c_46) (by omega)
          · refine j_iload dX5_shape_49 rfl ?_
            refine j_bipush (v := (-50)) dX5_shape_51 (by decide) ?_
            refine j_bipush (v := 50) dX5_shape_53 (by decide) ?_
            refine j_callS (rest := []) (c_X5_in l G) cw_X5_in wl_X5_90 ws_X5_in rfl rfl (Nat.le_of_ble_eq_true rfl) (Nat.le_of_ble_eq_true rfl) (Nat.le_of_ble_eq_true rfl) (Nat.le_of_ble_eq_true rfl) (Nat.le_of_ble_eq_true rfl) dX5_shape_55 (fun v_55 h_55 e_55 => ?_)
            obtain ⟨rfl, hh⟩ := e_55
            have hh := hh.symm
            subst hh
            refine j_goto 113 dX5_shape_58 (by decide) ?_
            refine j_istore dX5_shape_113 (Nat.le_of_ble_eq_true rfl) rfl ?_
            refine j_iload dX5_shape_115 rfl ?_
            refine j_if_ne 122 dX5_shape_117 (by decide) (fun c_117 => ?_) (fun c_117 => ?_)
            · have g_117 := (bi_ne0 _).mp c_117
              refine j_iload_n dX5_shape_122 rfl ?_
              refine j_iconst (v := 5) dX5_shape_123 (by decide) ?_
              refine j_icmp_ge 148 dX5_shape_124 (by decide) (fun c_124 => ?_) (fun c_124 => ?_)
              · exact absurd ((nI_leI (a := 5) (b := q) (by omega) (by omega)).mp c_124) (by omega)
              · refine j_aload_n dX5_shape_127 rfl ?_
                refine gX5_25 rfl (hR.1 _ ⟨by first | assumption | exact Nat.zero_lt_one, rfl⟩) rfl dX5_shape_128 ?_
                refine j_bipush (v := 40) dX5_shape_131 (by decide) ?_
                refine j_iload_n dX5_shape_133 rfl ?_
                refine j_imul dX5_shape_134 ?_
                refine j_bipush (v := 8) dX5_shape_135 (by decide) ?_
                refine j_iload_n dX5_shape_137 rfl ?_
                refine j_imul dX5_shape_138 ?_
                refine j_iadd dX5_shape_139 ?_
                refine j_iload_n dX5_shape_140 rfl ?_
                refine j_iadd dX5_shape_141 ?_
                refine j_iload dX5_shape_142 rfl ?_
                refine r_iast hR ⟨by first | assumption | exact Nat.zero_lt_one, rfl⟩ (fun _ => rfl) (40 * p + 8 * q + k) (xi40 p q k) (by omega) (by decide) dX5_shape_144 (fun h hR => ?_)
                refine j_goto 192 dX5_shape_145 (by decide) ?_
                refine j_iconst (v := 1) dX5_shape_192 (by decide) ?_
                refine j_zret rfl rfl (Nat.le_of_ble_eq_true rfl) (Nat.le_of_ble_eq_true rfl) dX5_shape_193 ?_
                exact ⟨by simp [mShape, mGood, g_11, hclp, g_21, hclw, g_31, hclk, hq5, g_117], by simpa [mShape, mGood, g_11, hclp, g_21, hclw, g_31, hclk, hq5, g_117] using hR⟩
            · have g_117 := (bi_eq0 _).mp c_117
              refine j_iconst (v := 0) dX5_shape_120 (by decide) ?_
              refine j_zret rfl rfl (Nat.le_of_ble_eq_true rfl) (Nat.le_of_ble_eq_true rfl) dX5_shape_121 ?_
              exact ⟨by simp [mShape, mGood, g_11, hclp, g_21, hclw, g_31, hclk, hq5, g_117], by simpa [mShape, mGood, g_11, hclp, g_21, hclw, g_31, hclk, hq5, g_117] using hR⟩
        · refine j_iload_n dX5_shape_44 rfl ?_
          refine j_iconst (v := 5) dX5_shape_45 (by decide) ?_
          refine j_icmp_ge 61 dX5_shape_46 (by decide) (fun c_46 => ?_) (fun c_46 => ?_)
          · refine j_iload_n dX5_shape_61 rfl ?_
            refine j_iconst (v := 5) dX5_shape_62 (by decide) ?_
            refine j_icmp_ne 77 dX5_shape_63 (by decide) (fun c_63 => ?_) (fun c_63 => ?_)
            · exact absurd rfl c_63
            · refine j_iload dX5_shape_66 rfl ?_
              refine j_iconst (v := 1) dX5_shape_68 (by decide) ?_
              refine j_bipush (v := 50) dX5_shape_69 (by decide) ?_
              refine j_callS (rest := []) (c_X5_in l G) cw_X5_in wl_X5_90 ws_X5_in rfl rfl (Nat.le_of_ble_eq_true rfl) (Nat.le_of_ble_eq_true rfl) (Nat.le_of_ble_eq_true rfl) (Nat.le_of_ble_eq_true rfl) (Nat.le_of_ble_eq_true rfl) dX5_shape_71 (fun v_71 h_71 e_71 => ?_)
              obtain ⟨rfl, hh⟩ := e_71
              have hh := hh.symm
              subst hh
              refine j_goto 113 dX5_shape_74 (by decide) ?_
              refine j_istore dX5_shape_113 (Nat.le_of_ble_eq_true rfl) rfl ?_
              refine j_iload dX5_shape_115 rfl ?_
              refine j_if_ne 122 dX5_shape_117 (by decide) (fun c_117 => ?_) (fun c_117 => ?_)
              · have g_117 := (bi_ne0 _).mp c_117
                refine j_iload_n dX5_shape_122 rfl ?_
                refine j_iconst (v := 5) dX5_shape_123 (by decide) ?_
                refine j_icmp_ge 148 dX5_shape_124 (by decide) (fun c_124 => ?_) (fun c_124 => ?_)
                · refine j_iload_n dX5_shape_148 rfl ?_
                  refine j_iconst (v := 5) dX5_shape_149 (by decide) ?_
                  refine j_icmp_ne 165 dX5_shape_150 (by decide) (fun c_150 => ?_) (fun c_150 => ?_)
                  · exact absurd rfl c_150
                  · refine j_aload_n dX5_shape_153 rfl ?_
                    refine gX5_19 rfl (hR.1 _ ⟨by first | assumption | exact Nat.zero_lt_one, rfl⟩) rfl dX5_shape_154 ?_
                    refine j_iload dX5_shape_157 rfl ?_
                    refine j_iload dX5_shape_159 rfl ?_
                    refine r_iast hR ⟨by first | assumption | exact Nat.zero_lt_one, rfl⟩ (fun _ => rfl) (8 * p + k) (xi8 p k) (by omega) (by decide) dX5_shape_161 (fun h hR => ?_)
                    refine j_goto 192 dX5_shape_162 (by decide) ?_
                    refine j_iconst (v := 1) dX5_shape_192 (by decide) ?_
                    refine j_zret rfl rfl (Nat.le_of_ble_eq_true rfl) (Nat.le_of_ble_eq_true rfl) dX5_shape_193 ?_
                    exact ⟨by simp [mShape, mGood, g_11, hclp, g_21, hclw, g_31, hclk, g_117], by simpa [mShape, mGood, g_11, hclp, g_21, hclw, g_31, hclk, g_117] using hR⟩
                · exact absurd (by decide) c_124
              · have g_117 := (bi_eq0 _).mp c_117
                refine j_iconst (v := 0) dX5_shape_120 (by decide) ?_
                refine j_zret rfl rfl (Nat.le_of_ble_eq_true rfl) (Nat.le_of_ble_eq_true rfl) dX5_shape_121 ?_
                exact ⟨by simp [mShape, mGood, g_11, hclp, g_21, hclw, g_31, hclk, g_117], by simpa [mShape, mGood, g_11, hclp, g_21, hclw, g_31, hclk, g_117] using hR⟩
          · exact absurd (by decide) c_46
        · refine j_iload_n dX5_shape_44 rfl ?_
          refine j_iconst (v := 5) dX5_shape_45 (by decide) ?_
          refine j_icmp_ge 61 dX5_shape_46 (by decide) (fun c_46 => ?_) (fun c_46 => ?_)
          · refine j_iload_n dX5_shape_61 rfl ?_
            refine j_iconst (v := 5) dX5_shape_62 (by decide) ?_
            refine j_icmp_ne 77 dX5_shape_63 (by decide) (fun c_63 => ?_) (fun c_63 => ?_)
            · refine j_iload_n dX5_shape_77 rfl ?_
              refine j_bipush (v := 6) dX5_shape_78 (by decide) ?_
              refine j_icmp_ne 99 dX5_shape_80 (by decide) (fun c_80 => ?_) (fun c_80 => ?_)
              · exact absurd rfl c_80
              · refine j_iload dX5_shape_83 rfl ?_
                refine j_iconst (v := 0) dX5_shape_85 (by decide) ?_
                refine j_aload_n dX5_shape_86 rfl ?_
                refine gX5_13 rfl (hR.1 _ ⟨by first | assumption | exact Nat.zero_lt_one, rfl⟩) rfl dX5_shape_87 ?_
                refine j_iload dX5_shape_90 rfl ?_
                refine j_iald (hR.1 _ ⟨by first | assumption | exact Nat.zero_lt_one, rfl⟩) (8 * p + k) (xi8 p k) (by omega) (by decide) dX5_shape_92 ?_
                refine j_callS (rest := []) (c_X5_in l G) cw_X5_in wl_X5_90 ws_X5_in rfl rfl (Nat.le_of_ble_eq_true rfl) (Nat.le_of_ble_eq_true rfl) (Nat.le_of_ble_eq_true rfl) (Nat.le_of_ble_eq_true rfl) (Nat.le_of_ble_eq_true rfl) dX5_shape_93 (fun v_93 h_93 e_93 => ?_)
                obtain ⟨rfl, hh⟩ := e_93
                have hh := hh.symm
                subst hh
                refine j_goto 113 dX5_shape_96 (by decide) ?_
                refine j_istore dX5_shape_113 (Nat.le_of_ble_eq_true rfl) rfl ?_
                refine j_iload dX5_shape_115 rfl ?_
                refine j_if_ne 122 dX5_shape_117 (by decide) (fun c_117 => ?_) (fun c_117 => ?_)
                · have g_117 := (bi_ne0 _).mp c_117
                  refine j_iload_n dX5_shape_122 rfl ?_
                  refine j_iconst (v := 5) dX5_shape_123 (by decide) ?_
                  refine j_icmp_ge 148 dX5_shape_124 (by decide) (fun c_124 => ?_) (fun c_124 => ?_)
                  · refine j_iload_n dX5_shape_148 rfl ?_
                    refine j_iconst (v := 5) dX5_shape_149 (by decide) ?_
                    refine j_icmp_ne 165 dX5_shape_150 (by decide) (fun c_150 => ?_) (fun c_150 => ?_)
                    · refine j_iload_n dX5_shape_165 rfl ?_
                      refine j_bipush (v := 6) dX5_shape_166 (by decide) ?_
                      refine j_icmp_ne 183 dX5_shape_168 (by decide) (fun c_168 => ?_) (fun c_168 => ?_)
                      · exact absurd rfl c_168
                      · refine j_aload_n dX5_shape_171 rfl ?_
                        refine gX5_16 rfl (hR.1 _ ⟨by first | assumption | exact Nat.zero_lt_one, rfl⟩) rfl dX5_shape_172 ?_
                        refine j_iload dX5_shape_175 rfl ?_
                        refine j_iload dX5_shape_177 rfl ?_
                        refine r_iast hR ⟨by first | assumption | exact Nat.zero_lt_one, rfl⟩ (fun _ => rfl) (8 * p + k) (xi8 p k) (by omega) (by decide) dX5_shape_179 (fun h hR => ?_)
                        refine j_goto 192 dX5_shape_180 (by decide) ?_
                        refine j_iconst (v := 1) dX5_shape_192 (by decide) ?_
                        refine j_zret rfl rfl (Nat.le_of_ble_eq_true rfl) (Nat.le_of_ble_eq_true rfl) dX5_shape_193 ?_
                        exact ⟨by simp [mShape, mGood, g_11, hclp, g_21, hclw, g_31, hclk, g_117], by simpa [mShape, mGood, g_11, hclp, g_21, hclw, g_31, hclk, g_117] using hR⟩
                    · exact absurd c_150 (by decide)
                  · exact absurd (by decide) c_124
                · have g_117 := (bi_eq0 _).mp c_117
                  refine j_iconst (v := 0) dX5_shape_120 (by decide) ?_
                  refine j_zret rfl rfl (Nat.le_of_ble_eq_true rfl) (Nat.le_of_ble_eq_true rfl) dX5_shape_121 ?_
                  exact ⟨by simp [mShape, mGood, g_11, hclp, g_21, hclw, g_31, hclk, g_117], by simpa [mShape, mGood, g_11, hclp, g_21, hclw, g_31, hclk, g_117] using hR⟩
            · exact absurd c_63 (by decide)
          · exact absurd (by decide) c_46
        · refine j_iload_n dX5_shape_44 rfl ?_
          refine j_iconst (v := 5) dX5_shape_45 (by decide) ?_
          refine j_icmp_ge 61 dX5_shape_46 (by decide) (fun c_46 => ?_) (fun c_46 => ?_)
          · refine j_iload_n dX5_shape_61 rfl ?_
            refine j_iconst (v := 5) dX5_shape_62 (by decide) ?_
            refine j_icmp_ne 77 dX5_shape_63 (by decide) (fun c_63 => ?_) (fun c_63 => ?_)
            · refine j_iload_n dX5_shape_77 rfl ?_
              refine j_bipush (v := 6) dX5_shape_78 (by decide) ?_
              refine j_icmp_ne 99 dX5_shape_80 (by decide) (fun c_80 => ?_) (fun c_80 => ?_)
              · refine j_iload dX5_shape_99 rfl ?_
                refine j_aload_n dX5_shape_101 rfl ?_
                refine gX5_16 rfl (hR.1 _ ⟨by first | assumption | exact Nat.zero_lt_one, rfl⟩) rfl dX5_shape_102 ?_
                refine j_iload dX5_shape_105 rfl ?_
                refine j_iald (hR.1 _ ⟨by first | assumption | exact Nat.zero_lt_one, rfl⟩) (8 * p + k) (xi8 p k) (by omega) (by decide) dX5_shape_107 ?_
                refine j_bipush (v := 99) dX5_shape_108 (by decide) ?_
                refine j_callS (rest := []) (c_X5_in l G) cw_X5_in wl_X5_90 ws_X5_in rfl rfl (Nat.le_of_ble_eq_true rfl) (Nat.le_of_ble_eq_true rfl) (Nat.le_of_ble_eq_true rfl) (Nat.le_of_ble_eq_true rfl) (Nat.le_of_ble_eq_true rfl) dX5_shape_110 (fun v_110 h_110 e_110 => ?_)
                obtain ⟨rfl, hh⟩ := e_110
                have hh := hh.symm
                subst hh
                refine j_istore dX5_shape_113 (Nat.le_of_ble_eq_true rfl) rfl ?_
                refine j_iload dX5_shape_115 rfl ?_
                refine j_if_ne 122 dX5_shape_117 (by decide) (fun c_117 => ?_) (fun c_117 => ?_)
                · have g_117 := (bi_ne0 _).mp c_117
                  refine j_iload_n dX5_shape_122 rfl ?_
                  refine j_iconst (v := 5) dX5_shape_123 (by decide) ?_
                  refine j_icmp_ge 148 dX5_shape_124 (by decide) (fun c_124 => ?_) (fun c_124 => ?_)
                  · refine j_iload_n dX5_shape_148 rfl ?_
                    refine j_iconst (v := 5) dX5_shape_149 (by decide) ?_
                    refine j_icmp_ne 165 dX5_shape_150 (by decide) (fun c_150 => ?_) (fun c_150 => ?_)
                    · refine j_iload_n dX5_shape_165 rfl ?_
                      refine j_bipush (v := 6) dX5_shape_166 (by decide) ?_
                      refine j_icmp_ne 183 dX5_shape_168 (by decide) (fun c_168 => ?_) (fun c_168 => ?_)
                      · refine j_aload_n dX5_shape_183 rfl ?_
                        refine gX5_13 rfl (hR.1 _ ⟨by first | assumption | exact Nat.zero_lt_one, rfl⟩) rfl dX5_shape_184 ?_
                        refine j_iload dX5_shape_187 rfl ?_
                        refine j_iload dX5_shape_189 rfl ?_
                        refine r_iast hR ⟨by first | assumption | exact Nat.zero_lt_one, rfl⟩ (fun _ => rfl) (8 * p + k) (xi8 p k) (by omega) (by decide) dX5_shape_191 (fun h hR => ?_)
                        refine j_iconst (v := 1) dX5_shape_192 (by decide) ?_
                        refine j_zret rfl rfl (Nat.le_of_ble_eq_true rfl) (Nat.le_of_ble_eq_true rfl) dX5_shape_193 ?_
                        exact ⟨by simp [mShape, mGood, g_11, hclp, g_21, hclw, g_31, hclk, g_117], by simpa [mShape, mGood, g_11, hclp, g_21, hclw, g_31, hclk, g_117] using hR⟩
                      · exact absurd c_168 (by decide)
                    · exact absurd c_150 (by decide)
                  · exact absurd (by decide) c_124
                · have g_117 := (bi_eq0 _).mp c_117
                  refine j_iconst (v := 0) dX5_shape_120 (by decide) ?_
                  refine j_zret rfl rfl (Nat.le_of_ble_eq_true rfl) (Nat.le_of_ble_eq_true rfl) dX5_shape_121 ?_
                  exact ⟨by simp [mShape, mGood, g_11, hclp, g_21, hclw, g_31, hclk, g_117], by simpa [mShape, mGood, g_11, hclp, g_21, hclw, g_31, hclk, g_117] using hR⟩
              · exact absurd c_80 (by decide)
            · exact absurd c_63 (by decide)
          · exact absurd (by decide) c_46
      · have g_31 := (bi_eq0 _).mp c_31
        refine j_iconst (v := 0) dX5_shape_34 (by decide) ?_
        refine j_zret rfl rfl (Nat.le_of_ble_eq_true rfl) (Nat.le_of_ble_eq_true rfl) dX5_shape_35 ?_
        exact ⟨by simp [mShape, g_11, hclp, g_21, hclw, g_31], by simpa [mShape, g_11, hclp, g_21, hclw, g_31] using hR⟩

def mBellOf (v w : Int32) (Z : ZT) : Int32 :=
  if iw v 0 (Z (5, 0, 0) 7 - 1) then
    if iw w 0 4 then mP Z (cl v) (cl w) else if iw w 10 17 then Z (5, 0, 11) (8 * cl v + (cl w - 10)) else if w = 5 then mW Z (cl v) else if w = 6 then (if Z (5, 0, 16) (cl v) = 0 then 0 else 1)
    else if w = 7 then (if Z (5, 0, 17) (cl v) = 0 then 0 else 1) else if w = 8 then Z (5, 0, 18) (cl v) else if w = 9 then mPull Z (cl v) (Z (5, 0, 18) (cl v)) else if w = 18 then Z (5, 0, 9) (cl v) else -100000
  else -100000
theorem sub10 (j i : Nat) (h : 10 ≤ i) : 8 * nI j + nI i - 10 = nI (8 * j + (i - 10)) := by
  rw [xi8, show (10 : Int32) = nI 10 from rfl, pk_sub (by omega)]
  congr 1
  omega
theorem ne_of_toInt {x : Int32} {lo hi : Int} (h : x.toInt < lo ∨ hi < x.toInt) (y : Int32) (h1 : lo ≤ y.toInt) (h2 : y.toInt ≤ hi) : ¬ x = y := by
  rintro rfl
  omega
set_option maxRecDepth 100000 in
set_option maxHeartbeats 4000000 in
theorem c_X5_bellOf (l : Launch) (G : GG) {ad : NM → Nat} {np nb : Nat} {Z : ZT} {L : LT} {h : AH} (hR : Rm ad np nb Z L h) {mb : Nat} (hmb : Z (5, 0, 0) 7 = nI mb) (hm : mb ≤ 24) (hg : ∀ b, b < mb → wayOk (Z (5, 0, 18) b)) {v w : Int32} : Con l G mX5_bellOf 3 0 0 [.ref (ad (5, 0, 0)), .int v, .int w] h (fun r h2 => r = some (.int (mBellOf v w Z)) ∧ h2 = h) := by
  refine Con.of 0 rfl (Nat.le_of_ble_eq_true rfl) ?_
  refine j_aload_n dX5_bellOf_0 rfl ?_
  refine j_iload_n dX5_bellOf_1 rfl ?_
  refine j_callV (rest := []) (c_X5_isBell l G hR) (hR.1 _ ⟨by first | assumption | exact Nat.zero_lt_one, rfl⟩) rfl cw_X5_isBell wl_X5_108 wm_X5_isBell wx_X5_isBell rfl rfl (Nat.le_of_ble_eq_true rfl) (Nat.le_of_ble_eq_true rfl) (Nat.le_of_ble_eq_true rfl) (Nat.le_of_ble_eq_true rfl) (Nat.le_of_ble_eq_true rfl) dX5_bellOf_2 (fun v_2 h_2 e_2 => ?_)
  obtain ⟨rfl, hh⟩ := e_2
  have hh := hh.symm
  subst hh
  refine j_if_ne 11 dX5_bellOf_5 (by decide) (fun c_5 => ?_) (fun c_5 => ?_)
  · have g_5 := (bi_ne0 _).mp c_5
    obtain ⟨j, hj, rfl, hcl⟩ := iw_lt (by omega) (hmb ▸ g_5)
    have hcl : cl (nI j) = j := hcl
    refine j_iload_n dX5_bellOf_11 rfl ?_
    refine j_iconst (v := 0) dX5_bellOf_12 (by decide) ?_
    refine j_iconst (v := 4) dX5_bellOf_13 (by decide) ?_
    refine j_callS (rest := []) (c_X5_in l G) cw_X5_in wl_X5_90 ws_X5_in rfl rfl (Nat.le_of_ble_eq_true rfl) (Nat.le_of_ble_eq_true rfl) (Nat.le_of_ble_eq_true rfl) (Nat.le_of_ble_eq_true rfl) (Nat.le_of_ble_eq_true rfl) dX5_bellOf_14 (fun v_14 h_14 e_14 => ?_)
    obtain ⟨rfl, hh⟩ := e_14
    have hh := hh.symm
    subst hh
    refine j_if_eq 27 dX5_bellOf_17 (by decide) (fun c_17 => ?_) (fun c_17 => ?_)
    · have g_17 := (bi_eq0 _).mp c_17
      refine j_iload_n dX5_bellOf_27 rfl ?_
      refine j_bipush (v := 10) dX5_bellOf_28 (by decide) ?_
      refine j_bipush (v := 17) dX5_bellOf_30 (by decide) ?_
      refine j_callS (rest := []) (c_X5_in l G) cw_X5_in wl_X5_90 ws_X5_in rfl rfl (Nat.le_of_ble_eq_true rfl) (Nat.le_of_ble_eq_true rfl) (Nat.le_of_ble_eq_true rfl) (Nat.le_of_ble_eq_true rfl) (Nat.le_of_ble_eq_true rfl) dX5_bellOf_32 (fun v_32 h_32 e_32 => ?_)
      obtain ⟨rfl, hh⟩ := e_32
      have hh := hh.symm
      subst hh
      refine j_if_eq 53 dX5_bellOf_35 (by decide) (fun c_35 => ?_) (fun c_35 => ?_)
      · have g_35 := (bi_eq0 _).mp c_35
        refine j_iload_n dX5_bellOf_53 rfl ?_
        by_cases ho : w.toInt < 5 ∨ 18 < w.toInt
        · refine j_tableOut 186 dX5_bellOf_54 ho (by decide) ?_
          refine j_ldc (own := RX5) rfl wc_X5_119 dX5_bellOf_186 ?_
          refine j_iret rfl (Nat.le_of_ble_eq_true rfl) (Nat.le_of_ble_eq_true rfl) dX5_bellOf_188 ?_
          exact ⟨by simp [mBellOf, g_5, g_17, g_35, ne_of_toInt ho 5 (by decide) (by decide), ne_of_toInt ho 6 (by decide) (by decide), ne_of_toInt ho 7 (by decide) (by decide), ne_of_toInt ho 8 (by decide) (by decide), ne_of_toInt ho 9 (by decide) (by decide), ne_of_toInt ho 18 (by decide) (by decide)], rfl⟩
        · have ho1 : ¬ w.toInt < 5 := fun q => ho (Or.inl q)
          have ho2 : ¬ 18 < w.toInt := fun q => ho (Or.inr q)
          rcases sw_5_18 ho1 ho2 with rfl | rfl | rfl | rfl | rfl | rfl | rfl | rfl | rfl | rfl | rfl | rfl | rfl | rfl
          · refine j_tableIn (x := 5) 124 dX5_bellOf_54 (by decide) (by decide) rfl (by decide) ?_
            refine j_aload_n dX5_bellOf_124 rfl ?_
            refine j_iload_n dX5_bellOf_125 rfl ?_
            refine j_callV (rest := []) (c_X5_weightOf l G hR (by omega)) (hR.1 _ ⟨by first | assumption | exact Nat.zero_lt_one, rfl⟩) rfl cw_X5_weightOf wl_X5_115 wm_X5_weightOf wx_X5_weightOf rfl rfl (Nat.le_of_ble_eq_true rfl) (Nat.le_of_ble_eq_true rfl) (Nat.le_of_ble_eq_true rfl) (Nat.le_of_ble_eq_true rfl) (Nat.le_of_ble_eq_true rfl) dX5_bellOf_126 (fun v_126 h_126 e_126 => ?_)
            obtain ⟨rfl, hh⟩ := e_126
            have hh := hh.symm
            subst hh
            refine j_iret rfl (Nat.le_of_ble_eq_true rfl) (Nat.le_of_ble_eq_true rfl) dX5_bellOf_129 ?_
            exact ⟨by simp [mBellOf, g_5, hcl, g_17, g_35, ], rfl⟩
          · refine j_tableIn (x := 6) 130 dX5_bellOf_54 (by decide) (by decide) rfl (by decide) ?_
            refine j_aload_n dX5_bellOf_130 rfl ?_
            refine gX5_49 rfl (hR.1 _ ⟨by first | assumption | exact Nat.zero_lt_one, rfl⟩) rfl dX5_bellOf_131 ?_
            refine j_iload_n dX5_bellOf_134 rfl ?_
            refine j_zald (hR.1 _ ⟨by first | assumption | exact Nat.zero_lt_one, rfl⟩) j rfl (by omega) (by decide) dX5_bellOf_135 ?_
            refine j_if_eq 143 dX5_bellOf_136 (by decide) (fun c_136 => ?_) (fun c_136 => ?_)
            · refine j_iconst (v := 0) dX5_bellOf_143 (by decide) ?_
              refine j_iret rfl (Nat.le_of_ble_eq_true rfl) (Nat.le_of_ble_eq_true rfl) dX5_bellOf_144 ?_
              exact ⟨by simp [mBellOf, g_5, hcl, g_17, g_35, c_136], rfl⟩
            · refine j_iconst (v := 1) dX5_bellOf_139 (by decide) ?_
              refine j_goto 144 dX5_bellOf_140 (by decide) ?_
              refine j_iret rfl (Nat.le_of_ble_eq_true rfl) (Nat.le_of_ble_eq_true rfl) dX5_bellOf_144 ?_
              exact ⟨by simp [mBellOf, g_5, hcl, g_17, g_35, c_136], rfl⟩
          · refine j_tableIn (x := 7) 145 dX5_bellOf_54 (by decide) (by decide) rfl (by decide) ?_
            refine j_aload_n dX5_bellOf_145 rfl ?_
            refine gX5_53 rfl (hR.1 _ ⟨by first | assumption | exact Nat.zero_lt_one, rfl⟩) rfl dX5_bellOf_146 ?_
            refine j_iload_n dX5_bellOf_149 rfl ?_
            refine j_zald (hR.1 _ ⟨by first | assumption | exact Nat.zero_lt_one, rfl⟩) j rfl (by omega) (by decide) dX5_bellOf_150 ?_
            refine j_if_eq 158 dX5_bellOf_151 (by decide) (fun c_151 => ?_) (fun c_151 => ?_)
            · refine j_iconst (v := 0) dX5_bellOf_158 (by decide) ?_
              refine j_iret rfl (Nat.le_of_ble_eq_true rfl) (Nat.le_of_ble_eq_true rfl) dX5_bellOf_159 ?_
              exact ⟨by simp [mBellOf, g_5, hcl, g_17, g_35, c_151], rfl⟩
            · refine j_iconst (v := 1) dX5_bellOf_154 (by decide) ?_
              refine j_goto 159 dX5_bellOf_155 (by decide) ?_
              refine j_iret rfl (Nat.le_of_ble_eq_true rfl) (Nat.le_of_ble_eq_true rfl) dX5_bellOf_159 ?_
              exact ⟨by simp [mBellOf, g_5, hcl, g_17, g_35, c_151], rfl⟩
          · refine j_tableIn (x := 8) 160 dX5_bellOf_54 (by decide) (by decide) rfl (by decide) ?_
            refine j_aload_n dX5_bellOf_160 rfl ?_
            refine gX5_56 rfl (hR.1 _ ⟨by first | assumption | exact Nat.zero_lt_one, rfl⟩) rfl dX5_bellOf_161 ?_
            refine j_iload_n dX5_bellOf_164 rfl ?_
            refine j_iald (hR.1 _ ⟨by first | assumption | exact Nat.zero_lt_one, rfl⟩) j rfl (by omega) (by decide) dX5_bellOf_165 ?_
            refine j_iret rfl (Nat.le_of_ble_eq_true rfl) (Nat.le_of_ble_eq_true rfl) dX5_bellOf_166 ?_
            exact ⟨by simp [mBellOf, g_5, hcl, g_17, g_35, ], rfl⟩
          · refine j_tableIn (x := 9) 167 dX5_bellOf_54 (by decide) (by decide) rfl (by decide) ?_
            refine j_aload_n dX5_bellOf_167 rfl ?_
            refine j_iload_n dX5_bellOf_168 rfl ?_
            refine j_aload_n dX5_bellOf_169 rfl ?_
            refine gX5_56 rfl (hR.1 _ ⟨by first | assumption | exact Nat.zero_lt_one, rfl⟩) rfl dX5_bellOf_170 ?_
            refine j_iload_n dX5_bellOf_173 rfl ?_
            refine j_iald (hR.1 _ ⟨by first | assumption | exact Nat.zero_lt_one, rfl⟩) j rfl (by omega) (by decide) dX5_bellOf_174 ?_
            refine j_callV (rest := []) (c_X5_pull l G hR (by omega) (hg j hj)) (hR.1 _ ⟨by first | assumption | exact Nat.zero_lt_one, rfl⟩) rfl cw_X5_pull wl_X5_124 wm_X5_pull wx_X5_pull rfl rfl (Nat.le_of_ble_eq_true rfl) (Nat.le_of_ble_eq_true rfl) (Nat.le_of_ble_eq_true rfl) (Nat.le_of_ble_eq_true rfl) (Nat.le_of_ble_eq_true rfl) dX5_bellOf_175 (fun v_175 h_175 e_175 => ?_)
            obtain ⟨rfl, hh⟩ := e_175
            have hh := hh.symm
            subst hh
            refine j_iret rfl (Nat.le_of_ble_eq_true rfl) (Nat.le_of_ble_eq_true rfl) dX5_bellOf_178 ?_
            exact ⟨by simp [mBellOf, g_5, hcl, g_17, g_35, ], rfl⟩
          · refine j_tableIn (x := 10) 186 dX5_bellOf_54 (by decide) (by decide) rfl (by decide) ?_
            refine j_ldc (own := RX5) rfl wc_X5_119 dX5_bellOf_186 ?_
            refine j_iret rfl (Nat.le_of_ble_eq_true rfl) (Nat.le_of_ble_eq_true rfl) dX5_bellOf_188 ?_
            exact ⟨by simp [mBellOf, g_5, hcl, g_17, g_35, ], rfl⟩
          · refine j_tableIn (x := 11) 186 dX5_bellOf_54 (by decide) (by decide) rfl (by decide) ?_
            refine j_ldc (own := RX5) rfl wc_X5_119 dX5_bellOf_186 ?_
            refine j_iret rfl (Nat.le_of_ble_eq_true rfl) (Nat.le_of_ble_eq_true rfl) dX5_bellOf_188 ?_
            exact ⟨by simp [mBellOf, g_5, hcl, g_17, g_35, ], rfl⟩
          · refine j_tableIn (x := 12) 186 dX5_bellOf_54 (by decide) (by decide) rfl (by decide) ?_
            refine j_ldc (own := RX5) rfl wc_X5_119 dX5_bellOf_186 ?_
            refine j_iret rfl (Nat.le_of_ble_eq_true rfl) (Nat.le_of_ble_eq_true rfl) dX5_bellOf_188 ?_
            exact ⟨by simp [mBellOf, g_5, hcl, g_17, g_35, ], rfl⟩
          · refine j_tableIn (x := 13) 186 dX5_bellOf_54 (by decide) (by decide) rfl (by decide) ?_
            refine j_ldc (own := RX5) rfl wc_X5_119 dX5_bellOf_186 ?_
            refine j_iret rfl (Nat.le_of_ble_eq_true rfl) (Nat.le_of_ble_eq_true rfl) dX5_bellOf_188 ?_
            exact ⟨by simp [mBellOf, g_5, hcl, g_17, g_35, ], rfl⟩
          · refine j_tableIn (x := 14) 186 dX5_bellOf_54 (by decide) (by decide) rfl (by decide) ?_
            refine j_ldc (own := RX5) rfl wc_X5_119 dX5_bellOf_186 ?_
            refine j_iret rfl (Nat.le_of_ble_eq_true rfl) (Nat.le_of_ble_eq_true rfl) dX5_bellOf_188 ?_
            exact ⟨by simp [mBellOf, g_5, hcl, g_17, g_35, ], rfl⟩
          · refine j_tableIn (x := 15) 186 dX5_bellOf_54 (by decide) (by decide) rfl (by decide) ?_
            refine j_ldc (own := RX5) rfl wc_X5_119 dX5_bellOf_186 ?_
            refine j_iret rfl (Nat.le_of_ble_eq_true rfl) (Nat.le_of_ble_eq_true rfl) dX5_bellOf_188 ?_
            exact ⟨by simp [mBellOf, g_5, hcl, g_17, g_35, ], rfl⟩
          · refine j_tableIn (x := 16) 186 dX5_bellOf_54 (by decide) (by decide) rfl (by decide) ?_
            refine j_ldc (own := RX5) rfl wc_X5_119 dX5_bellOf_186 ?_
            refine j_iret rfl (Nat.le_of_ble_eq_true rfl) (Nat.le_of_ble_eq_true rfl) dX5_bellOf_188 ?_
            exact ⟨by simp [mBellOf, g_5, hcl, g_17, g_35, ], rfl⟩
          · refine j_tableIn (x := 17) 186 dX5_bellOf_54 (by decide) (by decide) rfl (by decide) ?_
            refine j_ldc (own := RX5) rfl wc_X5_119 dX5_bellOf_186 ?_
            refine j_iret rfl (Nat.le_of_ble_eq_true rfl) (Nat.le_of_ble_eq_true rfl) dX5_bellOf_188 ?_
            exact ⟨by simp [mBellOf, g_5, hcl, g_17, g_35, ], rfl⟩
          · refine j_tableIn (x := 18) 179 dX5_bellOf_54 (by decide) (by decide) rfl (by decide) ?_
            refine j_aload_n dX5_bellOf_179 rfl ?_
            refine gX5_28 rfl (hR.1 _ ⟨by first | assumption | exact Nat.zero_lt_one, rfl⟩) rfl dX5_bellOf_180 ?_
            refine j_iload_n dX5_bellOf_183 rfl ?_
            refine j_iald (hR.1 _ ⟨by first | assumption | exact Nat.zero_lt_one, rfl⟩) j rfl (by omega) (by decide) dX5_bellOf_184 ?_
            refine j_iret rfl (Nat.le_of_ble_eq_true rfl) (Nat.le_of_ble_eq_true rfl) dX5_bellOf_185 ?_
            exact ⟨by simp [mBellOf, g_5, hcl, g_17, g_35, ], rfl⟩
      · have g_35 := (bi_ne0 _).mp c_35
        obtain ⟨i, hi1, hi2, rfl, hclw⟩ := iw_ab 10 17 (by omega) g_35 (by omega)
        refine j_aload_n dX5_bellOf_38 rfl ?_
        refine gX5_34 rfl (hR.1 _ ⟨by first | assumption | exact Nat.zero_lt_one, rfl⟩) rfl dX5_bellOf_39 ?_
        refine j_bipush (v := 8) dX5_bellOf_42 (by decide) ?_
        refine j_iload_n dX5_bellOf_44 rfl ?_
        refine j_imul dX5_bellOf_45 ?_
        refine j_iload_n dX5_bellOf_46 rfl ?_
        refine j_iadd dX5_bellOf_47 ?_
        refine j_bipush (v := 10) dX5_bellOf_48 (by decide) ?_
        refine j_isub dX5_bellOf_50 ?_
        refine j_iald (hR.1 _ ⟨by first | assumption | exact Nat.zero_lt_one, rfl⟩) (8 * j + (i - 10)) (sub10 j i hi1) (by omega) (by decide) dX5_bellOf_51 ?_
        refine j_iret rfl (Nat.le_of_ble_eq_true rfl) (Nat.le_of_ble_eq_true rfl) dX5_bellOf_52 ?_
        exact ⟨by simp [mBellOf, g_5, hcl, g_17, g_35, hclw], rfl⟩
    · have g_17 := (bi_ne0 _).mp c_17
      obtain ⟨q, hq, rfl, hclw⟩ := iw_le (n := 4) (by omega) g_17
      have hclw : cl (nI q) = q := hclw
      refine j_aload_n dX5_bellOf_20 rfl ?_
      refine j_iload_n dX5_bellOf_21 rfl ?_
      refine j_iload_n dX5_bellOf_22 rfl ?_
      refine j_callV (rest := []) (c_X5_partOf l G hR (by omega) (by omega)) (hR.1 _ ⟨by first | assumption | exact Nat.zero_lt_one, rfl⟩) rfl cw_X5_partOf wl_X5_120 wm_X5_partOf wx_X5_partOf rfl rfl (Nat.le_of_ble_eq_true rfl) (Nat.le_of_ble_eq_true rfl) (Nat.le_of_ble_eq_true rfl) (Nat.le_of_ble_eq_true rfl) (Nat.le_of_ble_eq_true rfl) dX5_bellOf_23 (fun v_23 h_23 e_23 => ?_)
      obtain ⟨rfl, hh⟩ := e_23
      have hh := hh.symm
      subst hh
      refine j_iret rfl (Nat.le_of_ble_eq_true rfl) (Nat.le_of_ble_eq_true rfl) dX5_bellOf_26 ?_
      exact ⟨by simp [mBellOf, g_5, hcl, g_17, hclw], rfl⟩
  · have g_5 := (bi_eq0 _).mp c_5
    refine j_ldc (own := RX5) rfl wc_X5_119 dX5_bellOf_8 ?_
    refine j_iret rfl (Nat.le_of_ble_eq_true rfl) (Nat.le_of_ble_eq_true rfl) dX5_bellOf_10 ?_
    exact ⟨by simp [mBellOf, g_5], rfl⟩

def mMetal (Z : ZT) : Nat → Int32
  | 0 => 0
  | n + 1 => mMetal Z n + (if Z (5, 0, 17) n = 0 then mW Z n else 0)
def mAbout (mb : Nat) (w : Int32) (Z : ZT) : Int32 :=
  if w = 0 then Z (5, 0, 0) 0 else if w = 1 then Z (5, 0, 0) 7 else if w = 2 then Z (5, 0, 0) 18 else if w = 3 then Z (5, 0, 0) 19 else if w = 4 then Z (5, 0, 0) 20 else if w = 5 then mMetal Z mb
  else if w = 6 then Z (5, 0, 0) 23 else if w = 7 then Z (5, 0, 0) 25 else if w = 8 then mPulls Z mb else if w = 9 then Z (5, 0, 0) 27 else if iw w 10 14 then Z (5, 0, 27) (cl w - 10) else -1
theorem sub10' (i : Nat) (h : 10 ≤ i) : nI i - 10 = nI (i - 10) := by
  rw [show (10 : Int32) = nI 10 from rfl, pk_sub h]
set_option maxRecDepth 100000 in
set_option maxHeartbeats 4000000 in
theorem c_X5_about (l : Launch) (G : GG) {ad : NM → Nat} {np nb : Nat} {Z : ZT} {L : LT} {h : AH} (hR : Rm ad np nb Z L h) {mb : Nat} (hmb : Z (5, 0, 0) 7 = nI mb) (hm : mb ≤ 24) (hg : ∀ b, b < mb → wayOk (Z (5, 0, 18) b)) {w : Int32} : Con l G mX5_about 3 0 0 [.ref (ad (5, 0, 0)), .int w] h (fun r h2 => r = some (.int (mAbout mb w Z)) ∧ h2 = h) := by
  have key : ∀ nn i, mb < i + nn → i ≤ mb → J (thM l G mX5_about 3 0 0 (fun r h2 => r = some (.int (mAbout mb w Z)) ∧ h2 = h)) cX5_about h (0, 0) [some (.ref (ad (5, 0, 0))), some (.int w), some (.int (mMetal Z i)), some (.int (nI i))] 4 [] := by
    intro nn
    induction nn with
    | zero => intro i h1 h2; omega
    | succ nn ih =>
      intro i h1 h2 
      refine j_iload_n dX5_about_4 rfl ?_
      refine j_aload_n dX5_about_5 rfl ?_
      refine gX5_86 rfl (hR.1 _ ⟨by first | assumption | exact Nat.zero_lt_one, rfl⟩) rfl dX5_about_6 ?_
      refine j_icmp_ge 39 dX5_about_9 (by decide) (fun c_9 => ?_) (fun c_9 => ?_)
      · have hlt : mb ≤ i := (nI_leI (a := mb) (b := i) (by omega) (by omega)).mp (hmb ▸ c_9)
        obtain rfl : i = mb := by omega
        refine j_iload_n dX5_about_39 rfl ?_
        by_cases ho : w.toInt < 0 ∨ 9 < w.toInt
        · refine j_tableOut 143 dX5_about_40 ho (by decide) ?_
          refine j_iload_n dX5_about_143 rfl ?_
          refine j_bipush (v := 10) dX5_about_144 (by decide) ?_
          refine j_bipush (v := 14) dX5_about_146 (by decide) ?_
          refine j_callS (rest := []) (c_X5_in l G) cw_X5_in wl_X5_90 ws_X5_in rfl rfl (Nat.le_of_ble_eq_true rfl) (Nat.le_of_ble_eq_true rfl) (Nat.le_of_ble_eq_true rfl) (Nat.le_of_ble_eq_true rfl) (Nat.le_of_ble_eq_true rfl) dX5_about_148 (fun v_148 h_148 e_148 => ?_)
          obtain ⟨rfl, hh⟩ := e_148
          have hh := hh.symm
          subst hh
          refine j_if_eq 166 dX5_about_151 (by decide) (fun c_151 => ?_) (fun c_151 => ?_)
          · have g_151 := (bi_eq0 _).mp c_151
            refine j_iconst (v := (-1)) dX5_about_166 (by decide) ?_
            refine j_iret rfl (Nat.le_of_ble_eq_true rfl) (Nat.le_of_ble_eq_true rfl) dX5_about_167 ?_
            exact ⟨by simp [mAbout, ne_of_toInt ho 0 (by decide) (by decide), ne_of_toInt ho 1 (by decide) (by decide), ne_of_toInt ho 2 (by decide) (by decide), ne_of_toInt ho 3 (by decide) (by decide), ne_of_toInt ho 4 (by decide) (by decide), ne_of_toInt ho 5 (by decide) (by decide), ne_of_toInt ho 6 (by decide) (by decide), ne_of_toInt ho 7 (by decide) (by decide), ne_of_toInt ho 8 (by decide) (by decide), ne_of_toInt ho 9 (by decide) (by decide), g_151], rfl⟩
          · have g_151 := (bi_ne0 _).mp c_151
            obtain ⟨i, hi1, hi2, rfl, hclw⟩ := iw_ab 10 14 (by omega) g_151 (by omega)
            refine j_aload_n dX5_about_154 rfl ?_
            refine gX5_68 rfl (hR.1 _ ⟨by first | assumption | exact Nat.zero_lt_one, rfl⟩) rfl dX5_about_155 ?_
            refine j_iload_n dX5_about_158 rfl ?_
            refine j_bipush (v := 10) dX5_about_159 (by decide) ?_
            refine j_isub dX5_about_161 ?_
            refine j_iald (hR.1 _ ⟨by first | assumption | exact Nat.zero_lt_one, rfl⟩) (i - 10) (sub10' i hi1) (by omega) (by decide) dX5_about_162 ?_
            refine j_goto 167 dX5_about_163 (by decide) ?_
            refine j_iret rfl (Nat.le_of_ble_eq_true rfl) (Nat.le_of_ble_eq_true rfl) dX5_about_167 ?_
            exact ⟨by simp [mAbout, ne_of_toInt ho 0 (by decide) (by decide), ne_of_toInt ho 1 (by decide) (by decide), ne_of_toInt ho 2 (by decide) (by decide), ne_of_toInt ho 3 (by decide) (by decide), ne_of_toInt ho 4 (by decide) (by decide), ne_of_toInt ho 5 (by decide) (by decide), ne_of_toInt ho 6 (by decide) (by decide), ne_of_toInt ho 7 (by decide) (by decide), ne_of_toInt ho 8 (by decide) (by decide), ne_of_toInt ho 9 (by decide) (by decide), g_151, hclw], rfl⟩
        · have ho1 : ¬ w.toInt < 0 := fun q => ho (Or.inl q)
          have ho2 : ¬ 9 < w.toInt := fun q => ho (Or.inr q)
          rcases sw_0_9 ho1 ho2 with rfl | rfl | rfl | rfl | rfl | rfl | rfl | rfl | rfl | rfl
          · refine j_tableIn (x := 0) 96 dX5_about_40 (by decide) (by decide) rfl (by decide) ?_
            refine j_aload_n dX5_about_96 rfl ?_
            refine gX5_94 rfl (hR.1 _ ⟨by first | assumption | exact Nat.zero_lt_one, rfl⟩) rfl dX5_about_97 ?_
            refine j_iret rfl (Nat.le_of_ble_eq_true rfl) (Nat.le_of_ble_eq_true rfl) dX5_about_100 ?_
            exact ⟨by simp [mAbout], rfl⟩
          · refine j_tableIn (x := 1) 101 dX5_about_40 (by decide) (by decide) rfl (by decide) ?_
            refine j_aload_n dX5_about_101 rfl ?_
            refine gX5_86 rfl (hR.1 _ ⟨by first | assumption | exact Nat.zero_lt_one, rfl⟩) rfl dX5_about_102 ?_
            refine j_iret rfl (Nat.le_of_ble_eq_true rfl) (Nat.le_of_ble_eq_true rfl) dX5_about_105 ?_
            exact ⟨by simp [mAbout], rfl⟩
          · refine j_tableIn (x := 2) 106 dX5_about_40 (by decide) (by decide) rfl (by decide) ?_
            refine j_aload_n dX5_about_106 rfl ?_
            refine gX5_98 rfl (hR.1 _ ⟨by first | assumption | exact Nat.zero_lt_one, rfl⟩) rfl dX5_about_107 ?_
            refine j_iret rfl (Nat.le_of_ble_eq_true rfl) (Nat.le_of_ble_eq_true rfl) dX5_about_110 ?_
            exact ⟨by simp [mAbout], rfl⟩
          · refine j_tableIn (x := 3) 111 dX5_about_40 (by decide) (by decide) rfl (by decide) ?_
            refine j_aload_n dX5_about_111 rfl ?_
            refine gX5_102 rfl (hR.1 _ ⟨by first | assumption | exact Nat.zero_lt_one, rfl⟩) rfl dX5_about_112 ?_
            refine j_iret rfl (Nat.le_of_ble_eq_true rfl) (Nat.le_of_ble_eq_true rfl) dX5_about_115 ?_
            exact ⟨by simp [mAbout], rfl⟩
          · refine j_tableIn (x := 4) 116 dX5_about_40 (by decide) (by decide) rfl (by decide) ?_
            refine j_aload_n dX5_about_116 rfl ?_
            refine gX5_105 rfl (hR.1 _ ⟨by first | assumption | exact Nat.zero_lt_one, rfl⟩) rfl dX5_about_117 ?_
            refine j_iret rfl (Nat.le_of_ble_eq_true rfl) (Nat.le_of_ble_eq_true rfl) dX5_about_120 ?_
            exact ⟨by simp [mAbout], rfl⟩
          · refine j_tableIn (x := 5) 121 dX5_about_40 (by decide) (by decide) rfl (by decide) ?_
            refine j_iload_n dX5_about_121 rfl ?_
            refine j_iret rfl (Nat.le_of_ble_eq_true rfl) (Nat.le_of_ble_eq_true rfl) dX5_about_122 ?_
            exact ⟨by simp [mAbout], rfl⟩
          · refine j_tableIn (x := 6) 123 dX5_about_40 (by decide) (by decide) rfl (by decide) ?_
            refine j_aload_n dX5_about_123 rfl ?_
            refine gX5_140 rfl (hR.1 _ ⟨by first | assumption | exact Nat.zero_lt_one, rfl⟩) rfl dX5_about_124 ?_
            refine j_iret rfl (Nat.le_of_ble_eq_true rfl) (Nat.le_of_ble_eq_true rfl) dX5_about_127 ?_
            exact ⟨by simp [mAbout], rfl⟩
          · refine j_tableIn (x := 7) 128 dX5_about_40 (by decide) (by decide) rfl (by decide) ?_
            refine j_aload_n dX5_about_128 rfl ?_
            refine gX5_143 rfl (hR.1 _ ⟨by first | assumption | exact Nat.zero_lt_one, rfl⟩) rfl dX5_about_129 ?_
            refine j_iret rfl (Nat.le_of_ble_eq_true rfl) (Nat.le_of_ble_eq_true rfl) dX5_about_132 ?_
            exact ⟨by simp [mAbout], rfl⟩
          · refine j_tableIn (x := 8) 133 dX5_about_40 (by decide) (by decide) rfl (by decide) ?_
            refine j_aload_n dX5_about_133 rfl ?_
            refine j_callV (rest := []) (c_X5_pulls l G hR hmb hm hg) (hR.1 _ ⟨by first | assumption | exact Nat.zero_lt_one, rfl⟩) rfl cw_X5_pulls wl_X5_161 wm_X5_pulls wx_X5_pulls rfl rfl (Nat.le_of_ble_eq_true rfl) (Nat.le_of_ble_eq_true rfl) (Nat.le_of_ble_eq_true rfl) (Nat.le_of_ble_eq_true rfl) (Nat.le_of_ble_eq_true rfl) dX5_about_134 (fun v_134 h_134 e_134 => ?_)
            obtain ⟨rfl, hh⟩ := e_134
            have hh := hh.symm
            subst hh
            refine j_iret rfl (Nat.le_of_ble_eq_true rfl) (Nat.le_of_ble_eq_true rfl) dX5_about_137 ?_
            exact ⟨by simp [mAbout], rfl⟩
          · refine j_tableIn (x := 9) 138 dX5_about_40 (by decide) (by decide) rfl (by decide) ?_
            refine j_aload_n dX5_about_138 rfl ?_
            refine gX5_164 rfl (hR.1 _ ⟨by first | assumption | exact Nat.zero_lt_one, rfl⟩) rfl dX5_about_139 ?_
            refine j_iret rfl (Nat.le_of_ble_eq_true rfl) (Nat.le_of_ble_eq_true rfl) dX5_about_142 ?_
            exact ⟨by simp [mAbout], rfl⟩
      · have hlt : i < mb := Nat.not_le.mp (fun q => c_9 (hmb ▸ (nI_leI (a := mb) (b := i) (by omega) (by omega)).mpr q))
        refine j_iload_n dX5_about_12 rfl ?_
        refine j_aload_n dX5_about_13 rfl ?_
        refine gX5_53 rfl (hR.1 _ ⟨by first | assumption | exact Nat.zero_lt_one, rfl⟩) rfl dX5_about_14 ?_
        refine j_iload_n dX5_about_17 rfl ?_
        refine j_zald (hR.1 _ ⟨by first | assumption | exact Nat.zero_lt_one, rfl⟩) i rfl (by omega) (by decide) dX5_about_18 ?_
        refine j_if_eq 26 dX5_about_19 (by decide) (fun c_19 => ?_) (fun c_19 => ?_)
        · refine j_aload_n dX5_about_26 rfl ?_
          refine j_iload_n dX5_about_27 rfl ?_
          refine j_callV (rest := [.int (mMetal Z i)]) (c_X5_weightOf l G hR (b := i) (by omega)) (hR.1 _ ⟨by first | assumption | exact Nat.zero_lt_one, rfl⟩) rfl cw_X5_weightOf wl_X5_115 wm_X5_weightOf wx_X5_weightOf rfl rfl (Nat.le_of_ble_eq_true rfl) (Nat.le_of_ble_eq_true rfl) (Nat.le_of_ble_eq_true rfl) (Nat.le_of_ble_eq_true rfl) (Nat.le_of_ble_eq_true rfl) dX5_about_28 (fun v_28 h_28 e_28 => ?_)
          obtain ⟨rfl, hh⟩ := e_28
          have hh := hh.symm
          subst hh
          refine j_iadd dX5_about_31 ?_
          refine j_istore_n dX5_about_32 (Nat.le_of_ble_eq_true rfl) rfl ?_
          refine j_iinc dX5_about_33 rfl (nI_inc _) (Nat.le_of_ble_eq_true rfl) rfl ?_
          refine j_goto 4 dX5_about_36 (by decide) ?_
          have key1 := ih (i + 1) (by omega) (by omega)
          simp only [mMetal, c_19, if_true, if_false] at key1
          exact key1
        · refine j_iconst (v := 0) dX5_about_22 (by decide) ?_
          refine j_goto 31 dX5_about_23 (by decide) ?_
          refine j_iadd dX5_about_31 ?_
          refine j_istore_n dX5_about_32 (Nat.le_of_ble_eq_true rfl) rfl ?_
          refine j_iinc dX5_about_33 rfl (nI_inc _) (Nat.le_of_ble_eq_true rfl) rfl ?_
          refine j_goto 4 dX5_about_36 (by decide) ?_
          have key1 := ih (i + 1) (by omega) (by omega)
          simp only [mMetal, c_19, if_true, if_false] at key1
          exact key1
  refine Con.of 2 rfl (Nat.le_of_ble_eq_true rfl) ?_
  refine j_iconst (v := 0) dX5_about_0 (by decide) ?_
  refine j_istore_n dX5_about_1 (Nat.le_of_ble_eq_true rfl) rfl ?_
  refine j_iconst (v := 0) dX5_about_2 (by decide) ?_
  refine j_istore_n dX5_about_3 (Nat.le_of_ble_eq_true rfl) rfl ?_
  exact key (mb + 1) 0 (by omega) (by omega)
end
section
def cpZ (Y : ZT) (d : NM) (i : Nat) (s : NM) (j : Nat) : ZT := upZ Y d i (Y s j)
def mCastW (Z : ZT) (p : Nat) : Int32 := wsum (Z (5, 0, 2) p) (fun i => Z (5, 0, 5) (8 * p + i)) (fun i => Z (5, 0, 3) (8 * p + i)) 8
def mOldM (Z : ZT) (p : Nat) : Int32 := if Z (5, 0, 0) 20 ≤ mCastW Z p then Z (5, 0, 0) 20 else mCastW Z p
def mNew (Z : ZT) (p : Nat) : Int32 := mCastW Z p - mOldM Z p
def mCop (Z : ZT) (p : Nat) : Int32 := (77 * mNew Z p + 99) / 100
def mC1 (Z : ZT) (p : Nat) : ZT := upZ Z (5, 0, 0) 20 (Z (5, 0, 0) 20 - mOldM Z p)
def mC2 (Z : ZT) (p : Nat) : ZT := upZ (mC1 Z p) (5, 0, 0) 18 (mC1 Z p (5, 0, 0) 18 - mCop Z p)
def mC3 (Z : ZT) (p : Nat) : ZT := upZ (mC2 Z p) (5, 0, 0) 19 (mC2 Z p (5, 0, 0) 19 - (mNew Z p - mCop Z p))
def mC4 (Z : ZT) (p : Nat) : ZT := upZ (mC3 Z p) (5, 0, 0) 7 (mC3 Z p (5, 0, 0) 7 + 1)
def mC5 (Z : ZT) (p mb : Nat) : ZT := cpZ (upZ (mC4 Z p) (5, 0, 9) mb (nI p)) (5, 0, 10) mb (5, 0, 2) p
def cs1 (p mb i : Nat) (Y : ZT) : ZT := cpZ (cpZ (cpZ Y (5, 0, 11) (8 * mb + i) (5, 0, 3) (8 * p + i)) (5, 0, 12) (8 * mb + i) (5, 0, 4) (8 * p + i)) (5, 0, 13) (8 * mb + i) (5, 0, 5) (8 * p + i)
def cs2 (p mb i : Nat) (Y : ZT) : ZT := cpZ Y (5, 0, 14) (5 * mb + i) (5, 0, 6) (5 * p + i)
def cs3 (p mb i : Nat) (Y : ZT) : ZT := cpZ Y (5, 0, 15) (40 * mb + i) (5, 0, 7) (40 * p + i)
def mC6 (Z : ZT) (p mb : Nat) : ZT := itZ (cs1 p mb) (mC5 Z p mb) 8
def mC7 (Z : ZT) (p mb : Nat) : ZT := itZ (cs2 p mb) (mC6 Z p mb) 5
def mC8 (Z : ZT) (p mb : Nat) : ZT := itZ (cs3 p mb) (mC7 Z p mb) 40
def mC9 (Z : ZT) (p mb : Nat) : ZT := upZ (mC8 Z p mb) (5, 0, 18) mb (-1)
def mCast (mb : Nat) (p : Int32) (Z : ZT) : Int32 × ZT :=
  if iw p 0 (Z (5, 0, 0) 0 - 1) && !decide (Z (5, 0, 0) 7 = 24) && !decide (Z (5, 0, 0) 18 < mCop Z (cl p)) && decide (mNew Z (cl p) - mCop Z (cl p) ≤ Z (5, 0, 0) 19) then (nI mb, mC9 Z (cl p) mb) else (-1, Z)
theorem xi40' (b i : Nat) : 40 * nI b + nI i = nI (40 * b + i) := by
  rw [show (40 : Int32) = nI 40 from rfl, pk_mul, nI_add]
set_option maxRecDepth 100000 in
set_option maxHeartbeats 4000000 in
theorem c_X5_cast (l : Launch) (G : GG) {ad : NM → Nat} {np nb : Nat} {Z : ZT} {L : LT} {h : AH} (hR : Rm ad np nb Z L h) {mb : Nat} (hmb : Z (5, 0, 0) 7 = nI mb) (hm : mb ≤ 24) {mp : Nat} (hmp : Z (5, 0, 0) 0 = nI mp) (hp4 : mp ≤ 4) {p : Int32} : Con l G mX5_cast 1 0 0 [.ref (ad (5, 0, 0)), .int p] h (fun r h2 => r = some (.int (mCast mb p Z).1) ∧ Rm ad np nb (mCast mb p Z).2 L h2) := by
  refine Con.of 6 rfl (Nat.le_of_ble_eq_true rfl) ?_
  refine j_iload_n dX5_cast_0 rfl ?_
  refine j_iconst (v := 0) dX5_cast_1 (by decide) ?_
  refine j_aload_n dX5_cast_2 rfl ?_
  refine gX5_94 rfl (hR.1 _ ⟨by first | assumption | exact Nat.zero_lt_one, rfl⟩) rfl dX5_cast_3 ?_
  refine j_iconst (v := 1) dX5_cast_6 (by decide) ?_
  refine j_isub dX5_cast_7 ?_
  refine j_callS (rest := []) (c_X5_in l G) cw_X5_in wl_X5_90 ws_X5_in rfl rfl (Nat.le_of_ble_eq_true rfl) (Nat.le_of_ble_eq_true rfl) (Nat.le_of_ble_eq_true rfl) (Nat.le_of_ble_eq_true rfl) (Nat.le_of_ble_eq_true rfl) dX5_cast_8 (fun v_8 h_8 e_8 => ?_)
  obtain ⟨rfl, hh⟩ := e_8
  have hh := hh.symm
  subst hh
  refine j_if_eq 23 dX5_cast_11 (by decide) (fun c_11 => ?_) (fun c_11 => ?_)
  · have g_11 := (bi_eq0 _).mp c_11
    refine j_iconst (v := (-1)) dX5_cast_23 (by decide) ?_
    refine j_iret rfl (Nat.le_of_ble_eq_true rfl) (Nat.le_of_ble_eq_true rfl) dX5_cast_24 ?_
    exact ⟨by simp [mCast, g_11], by simpa [mCast, g_11] using hR⟩
  · have g_11 := (bi_ne0 _).mp c_11
    obtain ⟨p, hp, rfl, hclp⟩ := iw_lt (by omega) (hmp ▸ g_11)
    have hclp : cl (nI p) = p := hclp
    refine j_aload_n dX5_cast_14 rfl ?_
    refine gX5_86 rfl (hR.1 _ ⟨by first | assumption | exact Nat.zero_lt_one, rfl⟩) rfl dX5_cast_15 ?_
    refine j_bipush (v := 24) dX5_cast_18 (by decide) ?_
    refine j_icmp_ne 25 dX5_cast_20 (by decide) (fun c_20 => ?_) (fun c_20 => ?_)
    · have hmlt : mb < 24 := by
        rcases Nat.lt_or_ge mb 24 with q | q
        · exact q
        · obtain rfl : mb = 24 := by omega
          exact absurd hmb c_20
      refine j_aload_n dX5_cast_25 rfl ?_
      refine gX5_7 rfl (hR.1 _ ⟨by first | assumption | exact Nat.zero_lt_one, rfl⟩) rfl dX5_cast_26 ?_
      refine j_iload_n dX5_cast_29 rfl ?_
      refine j_iald (hR.1 _ ⟨by first | assumption | exact Nat.zero_lt_one, rfl⟩) p rfl (by omega) (by decide) dX5_cast_30 ?_
      refine j_istore_n dX5_cast_31 (Nat.le_of_ble_eq_true rfl) rfl ?_
      refine j_bipush (v := 8) dX5_cast_32 (by decide) ?_
      refine j_iload_n dX5_cast_34 rfl ?_
      refine j_imul dX5_cast_35 ?_
      refine j_istore_n dX5_cast_36 (Nat.le_of_ble_eq_true rfl) rfl ?_
      have k00 : J (thM l G mX5_cast 1 0 0 (fun r h2 => r = some (.int (mCast mb (nI p) Z).1) ∧ Rm ad np nb (mCast mb (nI p) Z).2 L h2)) cX5_cast h (0, 0) [some (.ref (ad (5, 0, 0))), some (.int (nI p)), some (.int (mCastW Z p)), some (.int (nI (8 * p + 8))), none, none, none, none] 70 [] := by
        refine j_iload_n dX5_cast_70 rfl ?_
        refine j_aload_n dX5_cast_71 rfl ?_
        refine gX5_105 rfl (hR.1 _ ⟨by first | assumption | exact Nat.zero_lt_one, rfl⟩) rfl dX5_cast_72 ?_
        refine j_icmp_ge 82 dX5_cast_75 (by decide) (fun c_75 => ?_) (fun c_75 => ?_)
        · have eo : mOldM Z p = Z (5, 0, 0) 20 := if_pos c_75
          refine j_aload_n dX5_cast_82 rfl ?_
          refine gX5_105 rfl (hR.1 _ ⟨by first | assumption | exact Nat.zero_lt_one, rfl⟩) rfl dX5_cast_83 ?_
          refine J.eqst (st' := [.int (mOldM Z p)]) (by rw [eo]) ?_
          refine j_istore_n dX5_cast_86 (Nat.le_of_ble_eq_true rfl) rfl ?_
          refine j_iload_n dX5_cast_87 rfl ?_
          refine j_iload_n dX5_cast_88 rfl ?_
          refine j_isub dX5_cast_89 ?_
          rw [show mCastW Z p - mOldM Z p = mNew Z p from rfl]
          refine j_istore dX5_cast_90 (Nat.le_of_ble_eq_true rfl) rfl ?_
          refine j_bipush (v := 77) dX5_cast_92 (by decide) ?_
          refine j_iload dX5_cast_94 rfl ?_
          refine j_imul dX5_cast_96 ?_
          refine j_bipush (v := 99) dX5_cast_97 (by decide) ?_
          refine j_iadd dX5_cast_99 ?_
          refine j_bipush (v := 100) dX5_cast_100 (by decide) ?_
          refine j_idiv dX5_cast_102 (by decide) ?_
          rw [show (77 * mNew Z p + 99) / 100 = mCop Z p from rfl]
          refine j_istore dX5_cast_103 (Nat.le_of_ble_eq_true rfl) rfl ?_
          refine j_iload dX5_cast_105 rfl ?_
          refine j_aload_n dX5_cast_107 rfl ?_
          refine gX5_98 rfl (hR.1 _ ⟨by first | assumption | exact Nat.zero_lt_one, rfl⟩) rfl dX5_cast_108 ?_
          refine j_icmp_gt 126 dX5_cast_111 (by decide) (fun c_111 => ?_) (fun c_111 => ?_)
          · refine j_iconst (v := (-1)) dX5_cast_126 (by decide) ?_
            refine j_iret rfl (Nat.le_of_ble_eq_true rfl) (Nat.le_of_ble_eq_true rfl) dX5_cast_127 ?_
            exact ⟨by simp [mCast, g_11, hclp, c_20, c_111], by simpa [mCast, g_11, hclp, c_20, c_111] using hR⟩
          · refine j_iload dX5_cast_114 rfl ?_
            refine j_iload dX5_cast_116 rfl ?_
            refine j_isub dX5_cast_118 ?_
            refine j_aload_n dX5_cast_119 rfl ?_
            refine gX5_102 rfl (hR.1 _ ⟨by first | assumption | exact Nat.zero_lt_one, rfl⟩) rfl dX5_cast_120 ?_
            refine j_icmp_le 128 dX5_cast_123 (by decide) (fun c_123 => ?_) (fun c_123 => ?_)
            · skip
              have k3 : ∀ nn i, 40 < i + nn → i ≤ 40 → ∀ h, Rm ad np nb (itZ (cs3 p mb) (mC7 Z p mb) i) L h → J (thM l G mX5_cast 1 0 0 (fun r h2 => r = some (.int (mCast mb (nI p) Z).1) ∧ Rm ad np nb (mCast mb (nI p) Z).2 L h2)) cX5_cast h (0, 0) [some (.ref (ad (5, 0, 0))), some (.int (nI p)), some (.int (mCastW Z p)), some (.int (mOldM Z p)), some (.int (mNew Z p)), some (.int (mCop Z p)), some (.int (nI mb)), some (.int (nI i))] 332 [] := by
                intro nn
                induction nn with
                | zero => intro i h1 h2; omega
                | succ nn ih =>
                  intro i h1 h2 h hR
                  refine j_iload dX5_cast_332 rfl ?_
                  refine j_bipush (v := 40) dX5_cast_334 (by decide) ?_
                  refine j_icmp_ge 370 dX5_cast_336 (by decide) (fun c_336 => ?_) (fun c_336 => ?_)
                  · have hl336 : 40 ≤ i := (nI_leI (a := 40) (b := i) (by omega) (by omega)).mp c_336
                    obtain rfl : i = 40 := by omega
                    refine j_aload_n dX5_cast_370 rfl ?_
                    refine gX5_56 rfl (hR.1 _ ⟨by first | assumption | exact Nat.zero_lt_one, rfl⟩) rfl dX5_cast_371 ?_
                    refine j_iload dX5_cast_374 rfl ?_
                    refine j_iconst (v := (-1)) dX5_cast_376 (by decide) ?_
                    refine r_iast hR ⟨by first | assumption | exact Nat.zero_lt_one, rfl⟩ (fun _ => rfl) mb rfl hmlt (by decide) dX5_cast_377 (fun h hR => ?_)
                    refine j_iload dX5_cast_378 rfl ?_
                    refine j_iret rfl (Nat.le_of_ble_eq_true rfl) (Nat.le_of_ble_eq_true rfl) dX5_cast_380 ?_
                    exact ⟨by simp [mCast, g_11, hclp, c_20, c_111, c_123], by simpa [mCast, g_11, hclp, c_20, c_111, c_123, mC9, mC8] using hR⟩
                  · have hl336 : i < 40 := Nat.not_le.mp (fun q => c_336 ((nI_leI (a := 40) (b := i) (by omega) (by omega)).mpr q))
                    refine j_aload_n dX5_cast_339 rfl ?_
                    refine gX5_46 rfl (hR.1 _ ⟨by first | assumption | exact Nat.zero_lt_one, rfl⟩) rfl dX5_cast_340 ?_
                    refine j_bipush (v := 40) dX5_cast_343 (by decide) ?_
                    refine j_iload dX5_cast_345 rfl ?_
                    refine j_imul dX5_cast_347 ?_
                    refine j_iload dX5_cast_348 rfl ?_
                    refine j_iadd dX5_cast_350 ?_
                    refine j_aload_n dX5_cast_351 rfl ?_
                    refine gX5_25 rfl (hR.1 _ ⟨by first | assumption | exact Nat.zero_lt_one, rfl⟩) rfl dX5_cast_352 ?_
                    refine j_bipush (v := 40) dX5_cast_355 (by decide) ?_
                    refine j_iload_n dX5_cast_357 rfl ?_
                    refine j_imul dX5_cast_358 ?_
                    refine j_iload dX5_cast_359 rfl ?_
                    refine j_iadd dX5_cast_361 ?_
                    refine j_iald (hR.1 _ ⟨by first | assumption | exact Nat.zero_lt_one, rfl⟩) (40 * p + i) (xi40' p i) (by omega) (by decide) dX5_cast_362 ?_
                    refine r_iast hR ⟨by first | assumption | exact Nat.zero_lt_one, rfl⟩ (fun _ => rfl) (40 * mb + i) (xi40' mb i) (by omega) (by decide) dX5_cast_363 (fun h hR => ?_)
                    refine j_iinc dX5_cast_364 rfl (nI_inc _) (Nat.le_of_ble_eq_true rfl) rfl ?_
                    refine j_goto 332 dX5_cast_367 (by decide) ?_
                    exact ih (i + 1) (by omega) (by omega) _ hR
              have k2 : ∀ nn i, 5 < i + nn → i ≤ 5 → ∀ h, Rm ad np nb (itZ (cs2 p mb) (mC6 Z p mb) i) L h → J (thM l G mX5_cast 1 0 0 (fun r h2 => r = some (.int (mCast mb (nI p) Z).1) ∧ Rm ad np nb (mCast mb (nI p) Z).2 L h2)) cX5_cast h (0, 0) [some (.ref (ad (5, 0, 0))), some (.int (nI p)), some (.int (mCastW Z p)), some (.int (mOldM Z p)), some (.int (mNew Z p)), some (.int (mCop Z p)), some (.int (nI mb)), some (.int (nI i))] 294 [] := by
                intro nn
                induction nn with
                | zero => intro i h1 h2; omega
                | succ nn ih =>
                  intro i h1 h2 h hR
                  refine j_iload dX5_cast_294 rfl ?_
                  refine j_iconst (v := 5) dX5_cast_296 (by decide) ?_
                  refine j_icmp_ge 329 dX5_cast_297 (by decide) (fun c_297 => ?_) (fun c_297 => ?_)
                  · have hl297 : 5 ≤ i := (nI_leI (a := 5) (b := i) (by omega) (by omega)).mp c_297
                    obtain rfl : i = 5 := by omega
                    refine j_iconst (v := 0) dX5_cast_329 (by decide) ?_
                    refine j_istore dX5_cast_330 (Nat.le_of_ble_eq_true rfl) rfl ?_
                    exact k3 41 0 (by omega) (by omega) _ hR
                  · have hl297 : i < 5 := Nat.not_le.mp (fun q => c_297 ((nI_leI (a := 5) (b := i) (by omega) (by omega)).mpr q))
                    refine j_aload_n dX5_cast_300 rfl ?_
                    refine gX5_43 rfl (hR.1 _ ⟨by first | assumption | exact Nat.zero_lt_one, rfl⟩) rfl dX5_cast_301 ?_
                    refine j_iconst (v := 5) dX5_cast_304 (by decide) ?_
                    refine j_iload dX5_cast_305 rfl ?_
                    refine j_imul dX5_cast_307 ?_
                    refine j_iload dX5_cast_308 rfl ?_
                    refine j_iadd dX5_cast_310 ?_
                    refine j_aload_n dX5_cast_311 rfl ?_
                    refine gX5_22 rfl (hR.1 _ ⟨by first | assumption | exact Nat.zero_lt_one, rfl⟩) rfl dX5_cast_312 ?_
                    refine j_iconst (v := 5) dX5_cast_315 (by decide) ?_
                    refine j_iload_n dX5_cast_316 rfl ?_
                    refine j_imul dX5_cast_317 ?_
                    refine j_iload dX5_cast_318 rfl ?_
                    refine j_iadd dX5_cast_320 ?_
                    refine j_iald (hR.1 _ ⟨by first | assumption | exact Nat.zero_lt_one, rfl⟩) (5 * p + i) (xi5 p i) (by omega) (by decide) dX5_cast_321 ?_
                    refine r_iast hR ⟨by first | assumption | exact Nat.zero_lt_one, rfl⟩ (fun _ => rfl) (5 * mb + i) (xi5 mb i) (by omega) (by decide) dX5_cast_322 (fun h hR => ?_)
                    refine j_iinc dX5_cast_323 rfl (nI_inc _) (Nat.le_of_ble_eq_true rfl) rfl ?_
                    refine j_goto 294 dX5_cast_326 (by decide) ?_
                    exact ih (i + 1) (by omega) (by omega) _ hR
              have k1 : ∀ nn i, 8 < i + nn → i ≤ 8 → ∀ h, Rm ad np nb (itZ (cs1 p mb) (mC5 Z p mb) i) L h → J (thM l G mX5_cast 1 0 0 (fun r h2 => r = some (.int (mCast mb (nI p) Z).1) ∧ Rm ad np nb (mCast mb (nI p) Z).2 L h2)) cX5_cast h (0, 0) [some (.ref (ad (5, 0, 0))), some (.int (nI p)), some (.int (mCastW Z p)), some (.int (mOldM Z p)), some (.int (mNew Z p)), some (.int (mCop Z p)), some (.int (nI mb)), some (.int (nI i))] 203 [] := by
                intro nn
                induction nn with
                | zero => intro i h1 h2; omega
                | succ nn ih =>
                  intro i h1 h2 h hR
                  refine j_iload dX5_cast_203 rfl ?_
                  refine j_bipush (v := 8) dX5_cast_205 (by decide) ?_
                  refine j_icmp_ge 291 dX5_cast_207 (by decide) (fun c_207 => ?_) (fun c_207 => ?_)
                  · have hl207 : 8 ≤ i := (nI_leI (a := 8) (b := i) (by omega) (by omega)).mp c_207
                    obtain rfl : i = 8 := by omega
                    refine j_iconst (v := 0) dX5_cast_291 (by decide) ?_
                    refine j_istore dX5_cast_292 (Nat.le_of_ble_eq_true rfl) rfl ?_
                    exact k2 6 0 (by omega) (by omega) _ hR
                  · have hl207 : i < 8 := Nat.not_le.mp (fun q => c_207 ((nI_leI (a := 8) (b := i) (by omega) (by omega)).mpr q))
                    refine j_aload_n dX5_cast_210 rfl ?_
                    refine gX5_34 rfl (hR.1 _ ⟨by first | assumption | exact Nat.zero_lt_one, rfl⟩) rfl dX5_cast_211 ?_
                    refine j_bipush (v := 8) dX5_cast_214 (by decide) ?_
                    refine j_iload dX5_cast_216 rfl ?_
                    refine j_imul dX5_cast_218 ?_
                    refine j_iload dX5_cast_219 rfl ?_
                    refine j_iadd dX5_cast_221 ?_
                    refine j_aload_n dX5_cast_222 rfl ?_
                    refine gX5_13 rfl (hR.1 _ ⟨by first | assumption | exact Nat.zero_lt_one, rfl⟩) rfl dX5_cast_223 ?_
                    refine j_bipush (v := 8) dX5_cast_226 (by decide) ?_
                    refine j_iload_n dX5_cast_228 rfl ?_
                    refine j_imul dX5_cast_229 ?_
                    refine j_iload dX5_cast_230 rfl ?_
                    refine j_iadd dX5_cast_232 ?_
                    refine j_iald (hR.1 _ ⟨by first | assumption | exact Nat.zero_lt_one, rfl⟩) (8 * p + i) (xi8 p i) (by omega) (by decide) dX5_cast_233 ?_
                    refine r_iast hR ⟨by first | assumption | exact Nat.zero_lt_one, rfl⟩ (fun _ => rfl) (8 * mb + i) (xi8 mb i) (by omega) (by decide) dX5_cast_234 (fun h hR => ?_)
                    refine j_aload_n dX5_cast_235 rfl ?_
                    refine gX5_37 rfl (hR.1 _ ⟨by first | assumption | exact Nat.zero_lt_one, rfl⟩) rfl dX5_cast_236 ?_
                    refine j_bipush (v := 8) dX5_cast_239 (by decide) ?_
                    refine j_iload dX5_cast_241 rfl ?_
                    refine j_imul dX5_cast_243 ?_
                    refine j_iload dX5_cast_244 rfl ?_
                    refine j_iadd dX5_cast_246 ?_
                    refine j_aload_n dX5_cast_247 rfl ?_
                    refine gX5_16 rfl (hR.1 _ ⟨by first | assumption | exact Nat.zero_lt_one, rfl⟩) rfl dX5_cast_248 ?_
                    refine j_bipush (v := 8) dX5_cast_251 (by decide) ?_
                    refine j_iload_n dX5_cast_253 rfl ?_
                    refine j_imul dX5_cast_254 ?_
                    refine j_iload dX5_cast_255 rfl ?_
                    refine j_iadd dX5_cast_257 ?_
                    refine j_iald (hR.1 _ ⟨by first | assumption | exact Nat.zero_lt_one, rfl⟩) (8 * p + i) (xi8 p i) (by omega) (by decide) dX5_cast_258 ?_
                    refine r_iast hR ⟨by first | assumption | exact Nat.zero_lt_one, rfl⟩ (fun _ => rfl) (8 * mb + i) (xi8 mb i) (by omega) (by decide) dX5_cast_259 (fun h hR => ?_)
                    refine j_aload_n dX5_cast_260 rfl ?_
                    refine gX5_40 rfl (hR.1 _ ⟨by first | assumption | exact Nat.zero_lt_one, rfl⟩) rfl dX5_cast_261 ?_
                    refine j_bipush (v := 8) dX5_cast_264 (by decide) ?_
                    refine j_iload dX5_cast_266 rfl ?_
                    refine j_imul dX5_cast_268 ?_
                    refine j_iload dX5_cast_269 rfl ?_
                    refine j_iadd dX5_cast_271 ?_
                    refine j_aload_n dX5_cast_272 rfl ?_
                    refine gX5_19 rfl (hR.1 _ ⟨by first | assumption | exact Nat.zero_lt_one, rfl⟩) rfl dX5_cast_273 ?_
                    refine j_bipush (v := 8) dX5_cast_276 (by decide) ?_
                    refine j_iload_n dX5_cast_278 rfl ?_
                    refine j_imul dX5_cast_279 ?_
                    refine j_iload dX5_cast_280 rfl ?_
                    refine j_iadd dX5_cast_282 ?_
                    refine j_iald (hR.1 _ ⟨by first | assumption | exact Nat.zero_lt_one, rfl⟩) (8 * p + i) (xi8 p i) (by omega) (by decide) dX5_cast_283 ?_
                    refine r_iast hR ⟨by first | assumption | exact Nat.zero_lt_one, rfl⟩ (fun _ => rfl) (8 * mb + i) (xi8 mb i) (by omega) (by decide) dX5_cast_284 (fun h hR => ?_)
                    refine j_iinc dX5_cast_285 rfl (nI_inc _) (Nat.le_of_ble_eq_true rfl) rfl ?_
                    refine j_goto 203 dX5_cast_288 (by decide) ?_
                    exact ih (i + 1) (by omega) (by omega) _ hR
              refine j_aload_n dX5_cast_128 rfl ?_
              refine j_dup dX5_cast_129 rfl ?_
              refine gX5_105 rfl (hR.1 _ ⟨by first | assumption | exact Nat.zero_lt_one, rfl⟩) rfl dX5_cast_130 ?_
              refine j_iload_n dX5_cast_133 rfl ?_
              refine j_isub dX5_cast_134 ?_
              refine qX5_105 rfl hR dX5_cast_135 (fun h hR => ?_)
              refine j_aload_n dX5_cast_138 rfl ?_
              refine j_dup dX5_cast_139 rfl ?_
              refine gX5_98 rfl (hR.1 _ ⟨by first | assumption | exact Nat.zero_lt_one, rfl⟩) rfl dX5_cast_140 ?_
              refine j_iload dX5_cast_143 rfl ?_
              refine j_isub dX5_cast_145 ?_
              refine qX5_98 rfl hR dX5_cast_146 (fun h hR => ?_)
              refine j_aload_n dX5_cast_149 rfl ?_
              refine j_dup dX5_cast_150 rfl ?_
              refine gX5_102 rfl (hR.1 _ ⟨by first | assumption | exact Nat.zero_lt_one, rfl⟩) rfl dX5_cast_151 ?_
              refine j_iload dX5_cast_154 rfl ?_
              refine j_iload dX5_cast_156 rfl ?_
              refine j_isub dX5_cast_158 ?_
              refine j_isub dX5_cast_159 ?_
              refine qX5_102 rfl hR dX5_cast_160 (fun h hR => ?_)
              refine j_aload_n dX5_cast_163 rfl ?_
              refine gX5_86 rfl (hR.1 _ ⟨by first | assumption | exact Nat.zero_lt_one, rfl⟩) rfl dX5_cast_164 ?_
              rw [show upZ (upZ (upZ Z (5, 0, 0) 20 (Z (5, 0, 0) 20 - mOldM Z p)) (5, 0, 0) 18 (upZ Z (5, 0, 0) 20 (Z (5, 0, 0) 20 - mOldM Z p) (5, 0, 0) 18 - mCop Z p)) (5, 0, 0) 19 (upZ (upZ Z (5, 0, 0) 20 (Z (5, 0, 0) 20 - mOldM Z p)) (5, 0, 0) 18 (upZ Z (5, 0, 0) 20 (Z (5, 0, 0) 20 - mOldM Z p) (5, 0, 0) 18 - mCop Z p) (5, 0, 0) 19 - (mNew Z p - mCop Z p)) (5, 0, 0) 7 = nI mb by
                rw [upZ_nk (Or.inr (by decide)), upZ_nk (Or.inr (by decide)), upZ_nk (Or.inr (by decide))]
                exact hmb]
              refine j_istore dX5_cast_167 (Nat.le_of_ble_eq_true rfl) rfl ?_
              refine j_aload_n dX5_cast_169 rfl ?_
              refine j_dup dX5_cast_170 rfl ?_
              refine gX5_86 rfl (hR.1 _ ⟨by first | assumption | exact Nat.zero_lt_one, rfl⟩) rfl dX5_cast_171 ?_
              refine j_iconst (v := 1) dX5_cast_174 (by decide) ?_
              refine j_iadd dX5_cast_175 ?_
              refine qX5_86 rfl hR dX5_cast_176 (fun h hR => ?_)
              refine j_aload_n dX5_cast_179 rfl ?_
              refine gX5_28 rfl (hR.1 _ ⟨by first | assumption | exact Nat.zero_lt_one, rfl⟩) rfl dX5_cast_180 ?_
              refine j_iload dX5_cast_183 rfl ?_
              refine j_iload_n dX5_cast_185 rfl ?_
              refine r_iast hR ⟨by first | assumption | exact Nat.zero_lt_one, rfl⟩ (fun _ => rfl) mb rfl hmlt (by decide) dX5_cast_186 (fun h hR => ?_)
              refine j_aload_n dX5_cast_187 rfl ?_
              refine gX5_31 rfl (hR.1 _ ⟨by first | assumption | exact Nat.zero_lt_one, rfl⟩) rfl dX5_cast_188 ?_
              refine j_iload dX5_cast_191 rfl ?_
              refine j_aload_n dX5_cast_193 rfl ?_
              refine gX5_7 rfl (hR.1 _ ⟨by first | assumption | exact Nat.zero_lt_one, rfl⟩) rfl dX5_cast_194 ?_
              refine j_iload_n dX5_cast_197 rfl ?_
              refine j_iald (hR.1 _ ⟨by first | assumption | exact Nat.zero_lt_one, rfl⟩) p rfl (by omega) (by decide) dX5_cast_198 ?_
              refine r_iast hR ⟨by first | assumption | exact Nat.zero_lt_one, rfl⟩ (fun _ => rfl) mb rfl hmlt (by decide) dX5_cast_199 (fun h hR => ?_)
              refine j_iconst (v := 0) dX5_cast_200 (by decide) ?_
              refine j_istore dX5_cast_201 (Nat.le_of_ble_eq_true rfl) rfl ?_
              exact k1 9 0 (by omega) (by omega) _ hR
            · refine j_iconst (v := (-1)) dX5_cast_126 (by decide) ?_
              refine j_iret rfl (Nat.le_of_ble_eq_true rfl) (Nat.le_of_ble_eq_true rfl) dX5_cast_127 ?_
              exact ⟨by simp [mCast, g_11, hclp, c_20, c_111, c_123], by simpa [mCast, g_11, hclp, c_20, c_111, c_123] using hR⟩
        · have eo : mOldM Z p = mCastW Z p := if_neg c_75
          refine j_iload_n dX5_cast_78 rfl ?_
          refine j_goto 86 dX5_cast_79 (by decide) ?_
          refine J.eqst (st' := [.int (mOldM Z p)]) (by rw [eo]) ?_
          refine j_istore_n dX5_cast_86 (Nat.le_of_ble_eq_true rfl) rfl ?_
          refine j_iload_n dX5_cast_87 rfl ?_
          refine j_iload_n dX5_cast_88 rfl ?_
          refine j_isub dX5_cast_89 ?_
          rw [show mCastW Z p - mOldM Z p = mNew Z p from rfl]
          refine j_istore dX5_cast_90 (Nat.le_of_ble_eq_true rfl) rfl ?_
          refine j_bipush (v := 77) dX5_cast_92 (by decide) ?_
          refine j_iload dX5_cast_94 rfl ?_
          refine j_imul dX5_cast_96 ?_
          refine j_bipush (v := 99) dX5_cast_97 (by decide) ?_
          refine j_iadd dX5_cast_99 ?_
          refine j_bipush (v := 100) dX5_cast_100 (by decide) ?_
          refine j_idiv dX5_cast_102 (by decide) ?_
          rw [show (77 * mNew Z p + 99) / 100 = mCop Z p from rfl]
          refine j_istore dX5_cast_103 (Nat.le_of_ble_eq_true rfl) rfl ?_
          refine j_iload dX5_cast_105 rfl ?_
          refine j_aload_n dX5_cast_107 rfl ?_
          refine gX5_98 rfl (hR.1 _ ⟨by first | assumption | exact Nat.zero_lt_one, rfl⟩) rfl dX5_cast_108 ?_
          refine j_icmp_gt 126 dX5_cast_111 (by decide) (fun c_111 => ?_) (fun c_111 => ?_)
          · refine j_iconst (v := (-1)) dX5_cast_126 (by decide) ?_
            refine j_iret rfl (Nat.le_of_ble_eq_true rfl) (Nat.le_of_ble_eq_true rfl) dX5_cast_127 ?_
            exact ⟨by simp [mCast, g_11, hclp, c_20, c_111], by simpa [mCast, g_11, hclp, c_20, c_111] using hR⟩
          · refine j_iload dX5_cast_114 rfl ?_
            refine j_iload dX5_cast_116 rfl ?_
            refine j_isub dX5_cast_118 ?_
            refine j_aload_n dX5_cast_119 rfl ?_
            refine gX5_102 rfl (hR.1 _ ⟨by first | assumption | exact Nat.zero_lt_one, rfl⟩) rfl dX5_cast_120 ?_
            refine j_icmp_le 128 dX5_cast_123 (by decide) (fun c_123 => ?_) (fun c_123 => ?_)
            · skip
              have k3 : ∀ nn i, 40 < i + nn → i ≤ 40 → ∀ h, Rm ad np nb (itZ (cs3 p mb) (mC7 Z p mb) i) L h → J (thM l G mX5_cast 1 0 0 (fun r h2 => r = some (.int (mCast mb (nI p) Z).1) ∧ Rm ad np nb (mCast mb (nI p) Z).2 L h2)) cX5_cast h (0, 0) [some (.ref (ad (5, 0, 0))), some (.int (nI p)), some (.int (mCastW Z p)), some (.int (mOldM Z p)), some (.int (mNew Z p)), some (.int (mCop Z p)), some (.int (nI mb)), some (.int (nI i))] 332 [] := by
                intro nn
                induction nn with
                | zero => intro i h1 h2; omega
                | succ nn ih =>
                  intro i h1 h2 h hR
                  refine j_iload dX5_cast_332 rfl ?_
                  refine j_bipush (v := 40) dX5_cast_334 (by decide) ?_
                  refine j_icmp_ge 370 dX5_cast_336 (by decide) (fun c_336 => ?_) (fun c_336 => ?_)
                  · have hl336 : 40 ≤ i := (nI_leI (a := 40) (b := i) (by omega) (by omega)).mp c_336
                    obtain rfl : i = 40 := by omega
                    refine j_aload_n dX5_cast_370 rfl ?_
                    refine gX5_56 rfl (hR.1 _ ⟨by first | assumption | exact Nat.zero_lt_one, rfl⟩) rfl dX5_cast_371 ?_
                    refine j_iload dX5_cast_374 rfl ?_
                    refine j_iconst (v := (-1)) dX5_cast_376 (by decide) ?_
                    refine r_iast hR ⟨by first | assumption | exact Nat.zero_lt_one, rfl⟩ (fun _ => rfl) mb rfl hmlt (by decide) dX5_cast_377 (fun h hR => ?_)
                    refine j_iload dX5_cast_378 rfl ?_
                    refine j_iret rfl (Nat.le_of_ble_eq_true rfl) (Nat.le_of_ble_eq_true rfl) dX5_cast_380 ?_
                    exact ⟨by simp [mCast, g_11, hclp, c_20, c_111, c_123], by simpa [mCast, g_11, hclp, c_20, c_111, c_123, mC9, mC8] using hR⟩
                  · have hl336 : i < 40 := Nat.not_le.mp (fun q => c_336 ((nI_leI (a := 40) (b := i) (by omega) (by omega)).mpr q))
                    refine j_aload_n dX5_cast_339 rfl ?_
                    refine gX5_46 rfl (hR.1 _ ⟨by first | assumption | exact Nat.zero_lt_one, rfl⟩) rfl dX5_cast_340 ?_
                    refine j_bipush (v := 40) dX5_cast_343 (by decide) ?_
                    refine j_iload dX5_cast_345 rfl ?_
                    refine j_imul dX5_cast_347 ?_
                    refine j_iload dX5_cast_348 rfl ?_
                    refine j_iadd dX5_cast_350 ?_
                    refine j_aload_n dX5_cast_351 rfl ?_
                    refine gX5_25 rfl (hR.1 _ ⟨by first | assumption | exact Nat.zero_lt_one, rfl⟩) rfl dX5_cast_352 ?_
                    refine j_bipush (v := 40) dX5_cast_355 (by decide) ?_
                    refine j_iload_n dX5_cast_357 rfl ?_
                    refine j_imul dX5_cast_358 ?_
                    refine j_iload dX5_cast_359 rfl ?_
                    refine j_iadd dX5_cast_361 ?_
                    refine j_iald (hR.1 _ ⟨by first | assumption | exact Nat.zero_lt_one, rfl⟩) (40 * p + i) (xi40' p i) (by omega) (by decide) dX5_cast_362 ?_
                    refine r_iast hR ⟨by first | assumption | exact Nat.zero_lt_one, rfl⟩ (fun _ => rfl) (40 * mb + i) (xi40' mb i) (by omega) (by decide) dX5_cast_363 (fun h hR => ?_)
                    refine j_iinc dX5_cast_364 rfl (nI_inc _) (Nat.le_of_ble_eq_true rfl) rfl ?_
                    refine j_goto 332 dX5_cast_367 (by decide) ?_
                    exact ih (i + 1) (by omega) (by omega) _ hR
              have k2 : ∀ nn i, 5 < i + nn → i ≤ 5 → ∀ h, Rm ad np nb (itZ (cs2 p mb) (mC6 Z p mb) i) L h → J (thM l G mX5_cast 1 0 0 (fun r h2 => r = some (.int (mCast mb (nI p) Z).1) ∧ Rm ad np nb (mCast mb (nI p) Z).2 L h2)) cX5_cast h (0, 0) [some (.ref (ad (5, 0, 0))), some (.int (nI p)), some (.int (mCastW Z p)), some (.int (mOldM Z p)), some (.int (mNew Z p)), some (.int (mCop Z p)), some (.int (nI mb)), some (.int (nI i))] 294 [] := by
                intro nn
                induction nn with
                | zero => intro i h1 h2; omega
                | succ nn ih =>
                  intro i h1 h2 h hR
                  refine j_iload dX5_cast_294 rfl ?_
                  refine j_iconst (v := 5) dX5_cast_296 (by decide) ?_
                  refine j_icmp_ge 329 dX5_cast_297 (by decide) (fun c_297 => ?_) (fun c_297 => ?_)
                  · have hl297 : 5 ≤ i := (nI_leI (a := 5) (b := i) (by omega) (by omega)).mp c_297
                    obtain rfl : i = 5 := by omega
                    refine j_iconst (v := 0) dX5_cast_329 (by decide) ?_
                    refine j_istore dX5_cast_330 (Nat.le_of_ble_eq_true rfl) rfl ?_
                    exact k3 41 0 (by omega) (by omega) _ hR
                  · have hl297 : i < 5 := Nat.not_le.mp (fun q => c_297 ((nI_leI (a := 5) (b := i) (by omega) (by omega)).mpr q))
                    refine j_aload_n dX5_cast_300 rfl ?_
                    refine gX5_43 rfl (hR.1 _ ⟨by first | assumption | exact Nat.zero_lt_one, rfl⟩) rfl dX5_cast_301 ?_
                    refine j_iconst (v := 5) dX5_cast_304 (by decide) ?_
                    refine j_iload dX5_cast_305 rfl ?_
                    refine j_imul dX5_cast_307 ?_
                    refine j_iload dX5_cast_308 rfl ?_
                    refine j_iadd dX5_cast_310 ?_
                    refine j_aload_n dX5_cast_311 rfl ?_
                    refine gX5_22 rfl (hR.1 _ ⟨by first | assumption | exact Nat.zero_lt_one, rfl⟩) rfl dX5_cast_312 ?_
                    refine j_iconst (v := 5) dX5_cast_315 (by decide) ?_
                    refine j_iload_n dX5_cast_316 rfl ?_
                    refine j_imul dX5_cast_317 ?_
                    refine j_iload dX5_cast_318 rfl ?_
                    refine j_iadd dX5_cast_320 ?_
                    refine j_iald (hR.1 _ ⟨by first | assumption | exact Nat.zero_lt_one, rfl⟩) (5 * p + i) (xi5 p i) (by omega) (by decide) dX5_cast_321 ?_
                    refine r_iast hR ⟨by first | assumption | exact Nat.zero_lt_one, rfl⟩ (fun _ => rfl) (5 * mb + i) (xi5 mb i) (by omega) (by decide) dX5_cast_322 (fun h hR => ?_)
                    refine j_iinc dX5_cast_323 rfl (nI_inc _) (Nat.le_of_ble_eq_true rfl) rfl ?_
                    refine j_goto 294 dX5_cast_326 (by decide) ?_
                    exact ih (i + 1) (by omega) (by omega) _ hR
              have k1 : ∀ nn i, 8 < i + nn → i ≤ 8 → ∀ h, Rm ad np nb (itZ (cs1 p mb) (mC5 Z p mb) i) L h → J (thM l G mX5_cast 1 0 0 (fun r h2 => r = some (.int (mCast mb (nI p) Z).1) ∧ Rm ad np nb (mCast mb (nI p) Z).2 L h2)) cX5_cast h (0, 0) [some (.ref (ad (5, 0, 0))), some (.int (nI p)), some (.int (mCastW Z p)), some (.int (mOldM Z p)), some (.int (mNew Z p)), some (.int (mCop Z p)), some (.int (nI mb)), some (.int (nI i))] 203 [] := by
                intro nn
                induction nn with
                | zero => intro i h1 h2; omega
                | succ nn ih =>
                  intro i h1 h2 h hR
                  refine j_iload dX5_cast_203 rfl ?_
                  refine j_bipush (v := 8) dX5_cast_205 (by decide) ?_
                  refine j_icmp_ge 291 dX5_cast_207 (by decide) (fun c_207 => ?_) (fun c_207 => ?_)
                  · have hl207 : 8 ≤ i := (nI_leI (a := 8) (b := i) (by omega) (by omega)).mp c_207
                    obtain rfl : i = 8 := by omega
                    refine j_iconst (v := 0) dX5_cast_291 (by decide) ?_
                    refine j_istore dX5_cast_292 (Nat.le_of_ble_eq_true rfl) rfl ?_
                    exact k2 6 0 (by omega) (by omega) _ hR
                  · have hl207 : i < 8 := Nat.not_le.mp (fun q => c_207 ((nI_leI (a := 8) (b := i) (by omega) (by omega)).mpr q))
                    refine j_aload_n dX5_cast_210 rfl ?_
                    refine gX5_34 rfl (hR.1 _ ⟨by first | assumption | exact Nat.zero_lt_one, rfl⟩) rfl dX5_cast_211 ?_
                    refine j_bipush (v := 8) dX5_cast_214 (by decide) ?_
                    refine j_iload dX5_cast_216 rfl ?_
                    refine j_imul dX5_cast_218 ?_
                    refine j_iload dX5_cast_219 rfl ?_
                    refine j_iadd dX5_cast_221 ?_
                    refine j_aload_n dX5_cast_222 rfl ?_
                    refine gX5_13 rfl (hR.1 _ ⟨by first | assumption | exact Nat.zero_lt_one, rfl⟩) rfl dX5_cast_223 ?_
                    refine j_bipush (v := 8) dX5_cast_226 (by decide) ?_
                    refine j_iload_n dX5_cast_228 rfl ?_
                    refine j_imul dX5_cast_229 ?_
                    refine j_iload dX5_cast_230 rfl ?_
                    refine j_iadd dX5_cast_232 ?_
                    refine j_iald (hR.1 _ ⟨by first | assumption | exact Nat.zero_lt_one, rfl⟩) (8 * p + i) (xi8 p i) (by omega) (by decide) dX5_cast_233 ?_
                    refine r_iast hR ⟨by first | assumption | exact Nat.zero_lt_one, rfl⟩ (fun _ => rfl) (8 * mb + i) (xi8 mb i) (by omega) (by decide) dX5_cast_234 (fun h hR => ?_)
                    refine j_aload_n dX5_cast_235 rfl ?_
                    refine gX5_37 rfl (hR.1 _ ⟨by first | assumption | exact Nat.zero_lt_one, rfl⟩) rfl dX5_cast_236 ?_
                    refine j_bipush (v := 8) dX5_cast_239 (by decide) ?_
                    refine j_iload dX5_cast_241 rfl ?_
                    refine j_imul dX5_cast_243 ?_
                    refine j_iload dX5_cast_244 rfl ?_
                    refine j_iadd dX5_cast_246 ?_
                    refine j_aload_n dX5_cast_247 rfl ?_
                    refine gX5_16 rfl (hR.1 _ ⟨by first | assumption | exact Nat.zero_lt_one, rfl⟩) rfl dX5_cast_248 ?_
                    refine j_bipush (v := 8) dX5_cast_251 (by decide) ?_
                    refine j_iload_n dX5_cast_253 rfl ?_
                    refine j_imul dX5_cast_254 ?_
                    refine j_iload dX5_cast_255 rfl ?_
                    refine j_iadd dX5_cast_257 ?_
                    refine j_iald (hR.1 _ ⟨by first | assumption | exact Nat.zero_lt_one, rfl⟩) (8 * p + i) (xi8 p i) (by omega) (by decide) dX5_cast_258 ?_
                    refine r_iast hR ⟨by first | assumption | exact Nat.zero_lt_one, rfl⟩ (fun _ => rfl) (8 * mb + i) (xi8 mb i) (by omega) (by decide) dX5_cast_259 (fun h hR => ?_)
                    refine j_aload_n dX5_cast_260 rfl ?_
                    refine gX5_40 rfl (hR.1 _ ⟨by first | assumption | exact Nat.zero_lt_one, rfl⟩) rfl dX5_cast_261 ?_
                    refine j_bipush (v := 8) dX5_cast_264 (by decide) ?_
                    refine j_iload dX5_cast_266 rfl ?_
                    refine j_imul dX5_cast_268 ?_
                    refine j_iload dX5_cast_269 rfl ?_
                    refine j_iadd dX5_cast_271 ?_
                    refine j_aload_n dX5_cast_272 rfl ?_
                    refine gX5_19 rfl (hR.1 _ ⟨by first | assumption | exact Nat.zero_lt_one, rfl⟩) rfl dX5_cast_273 ?_
                    refine j_bipush (v := 8) dX5_cast_276 (by decide) ?_
                    refine j_iload_n dX5_cast_278 rfl ?_
                    refine j_imul dX5_cast_279 ?_
                    refine j_iload dX5_cast_280 rfl ?_
                    refine j_iadd dX5_cast_282 ?_
                    refine j_iald (hR.1 _ ⟨by first | assumption | exact Nat.zero_lt_one, rfl⟩) (8 * p + i) (xi8 p i) (by omega) (by decide) dX5_cast_283 ?_
                    refine r_iast hR ⟨by first | assumption | exact Nat.zero_lt_one, rfl⟩ (fun _ => rfl) (8 * mb + i) (xi8 mb i) (by omega) (by decide) dX5_cast_284 (fun h hR => ?_)
                    refine j_iinc dX5_cast_285 rfl (nI_inc _) (Nat.le_of_ble_eq_true rfl) rfl ?_
                    refine j_goto 203 dX5_cast_288 (by decide) ?_
                    exact ih (i + 1) (by omega) (by omega) _ hR
              refine j_aload_n dX5_cast_128 rfl ?_
              refine j_dup dX5_cast_129 rfl ?_
              refine gX5_105 rfl (hR.1 _ ⟨by first | assumption | exact Nat.zero_lt_one, rfl⟩) rfl dX5_cast_130 ?_
              refine j_iload_n dX5_cast_133 rfl ?_
              refine j_isub dX5_cast_134 ?_
              refine qX5_105 rfl hR dX5_cast_135 (fun h hR => ?_)
              refine j_aload_n dX5_cast_138 rfl ?_
              refine j_dup dX5_cast_139 rfl ?_
              refine gX5_98 rfl (hR.1 _ ⟨by first | assumption | exact Nat.zero_lt_one, rfl⟩) rfl dX5_cast_140 ?_
              refine j_iload dX5_cast_143 rfl ?_
              refine j_isub dX5_cast_145 ?_
              refine qX5_98 rfl hR dX5_cast_146 (fun h hR => ?_)
              refine j_aload_n dX5_cast_149 rfl ?_
              refine j_dup dX5_cast_150 rfl ?_
              refine gX5_102 rfl (hR.1 _ ⟨by first | assumption | exact Nat.zero_lt_one, rfl⟩) rfl dX5_cast_151 ?_
              refine j_iload dX5_cast_154 rfl ?_
              refine j_iload dX5_cast_156 rfl ?_
              refine j_isub dX5_cast_158 ?_
              refine j_isub dX5_cast_159 ?_
              refine qX5_102 rfl hR dX5_cast_160 (fun h hR => ?_)
              refine j_aload_n dX5_cast_163 rfl ?_
              refine gX5_86 rfl (hR.1 _ ⟨by first | assumption | exact Nat.zero_lt_one, rfl⟩) rfl dX5_cast_164 ?_
              rw [show upZ (upZ (upZ Z (5, 0, 0) 20 (Z (5, 0, 0) 20 - mOldM Z p)) (5, 0, 0) 18 (upZ Z (5, 0, 0) 20 (Z (5, 0, 0) 20 - mOldM Z p) (5, 0, 0) 18 - mCop Z p)) (5, 0, 0) 19 (upZ (upZ Z (5, 0, 0) 20 (Z (5, 0, 0) 20 - mOldM Z p)) (5, 0, 0) 18 (upZ Z (5, 0, 0) 20 (Z (5, 0, 0) 20 - mOldM Z p) (5, 0, 0) 18 - mCop Z p) (5, 0, 0) 19 - (mNew Z p - mCop Z p)) (5, 0, 0) 7 = nI mb by
                rw [upZ_nk (Or.inr (by decide)), upZ_nk (Or.inr (by decide)), upZ_nk (Or.inr (by decide))]
                exact hmb]
              refine j_istore dX5_cast_167 (Nat.le_of_ble_eq_true rfl) rfl ?_
              refine j_aload_n dX5_cast_169 rfl ?_
              refine j_dup dX5_cast_170 rfl ?_
              refine gX5_86 rfl (hR.1 _ ⟨by first | assumption | exact Nat.zero_lt_one, rfl⟩) rfl dX5_cast_171 ?_
              refine j_iconst (v := 1) dX5_cast_174 (by decide) ?_
              refine j_iadd dX5_cast_175 ?_
              refine qX5_86 rfl hR dX5_cast_176 (fun h hR => ?_)
              refine j_aload_n dX5_cast_179 rfl ?_
              refine gX5_28 rfl (hR.1 _ ⟨by first | assumption | exact Nat.zero_lt_one, rfl⟩) rfl dX5_cast_180 ?_
              refine j_iload dX5_cast_183 rfl ?_
              refine j_iload_n dX5_cast_185 rfl ?_
              refine r_iast hR ⟨by first | assumption | exact Nat.zero_lt_one, rfl⟩ (fun _ => rfl) mb rfl hmlt (by decide) dX5_cast_186 (fun h hR => ?_)
              refine j_aload_n dX5_cast_187 rfl ?_
              refine gX5_31 rfl (hR.1 _ ⟨by first | assumption | exact Nat.zero_lt_one, rfl⟩) rfl dX5_cast_188 ?_
              refine j_iload dX5_cast_191 rfl ?_
              refine j_aload_n dX5_cast_193 rfl ?_
              refine gX5_7 rfl (hR.1 _ ⟨by first | assumption | exact Nat.zero_lt_one, rfl⟩) rfl dX5_cast_194 ?_
              refine j_iload_n dX5_cast_197 rfl ?_
              refine j_iald (hR.1 _ ⟨by first | assumption | exact Nat.zero_lt_one, rfl⟩) p rfl (by omega) (by decide) dX5_cast_198 ?_
              refine r_iast hR ⟨by first | assumption | exact Nat.zero_lt_one, rfl⟩ (fun _ => rfl) mb rfl hmlt (by decide) dX5_cast_199 (fun h hR => ?_)
              refine j_iconst (v := 0) dX5_cast_200 (by decide) ?_
              refine j_istore dX5_cast_201 (Nat.le_of_ble_eq_true rfl) rfl ?_
              exact k1 9 0 (by omega) (by omega) _ hR
            · refine j_iconst (v := (-1)) dX5_cast_126 (by decide) ?_
              refine j_iret rfl (Nat.le_of_ble_eq_true rfl) (Nat.le_of_ble_eq_true rfl) dX5_cast_127 ?_
              exact ⟨by simp [mCast, g_11, hclp, c_20, c_111, c_123], by simpa [mCast, g_11, hclp, c_20, c_111, c_123] using hR⟩
      have k0 : ∀ nn i, 8 < i + nn → i ≤ 8 → J (thM l G mX5_cast 1 0 0 (fun r h2 => r = some (.int (mCast mb (nI p) Z).1) ∧ Rm ad np nb (mCast mb (nI p) Z).2 L h2)) cX5_cast h (0, 0) [some (.ref (ad (5, 0, 0))), some (.int (nI p)), some (.int (wsum (Z (5, 0, 2) p) (fun i => Z (5, 0, 5) (8 * p + i)) (fun i => Z (5, 0, 3) (8 * p + i)) i)), some (.int (nI (8 * p + i))), none, none, none, none] 37 [] := by
        intro nn
        induction nn with
        | zero => intro i h1 h2; omega
        | succ nn ih =>
          intro i h1 h2 
          refine j_iload_n dX5_cast_37 rfl ?_
          refine j_bipush (v := 8) dX5_cast_38 (by decide) ?_
          refine j_iload_n dX5_cast_40 rfl ?_
          refine j_imul dX5_cast_41 ?_
          refine j_bipush (v := 8) dX5_cast_42 (by decide) ?_
          refine j_iadd dX5_cast_44 ?_
          refine j_icmp_ge 70 dX5_cast_45 (by decide) (fun c_45 => ?_) (fun c_45 => ?_)
          · have hlt : 8 * p + 8 ≤ 8 * p + i := (nI_leI (a := 8 * p + 8) (b := 8 * p + i) (by omega) (by omega)).mp ((xi8 p 8) ▸ c_45)
            obtain rfl : i = 8 := by omega
            exact k00
          · have hlt : i < 8 := by
              have := Nat.not_le.mp (fun q => c_45 ((xi8 p 8) ▸ (nI_leI (a := 8 * p + 8) (b := 8 * p + i) (by omega) (by omega)).mpr q))
              omega
            refine j_iload_n dX5_cast_48 rfl ?_
            refine j_aload_n dX5_cast_49 rfl ?_
            refine gX5_19 rfl (hR.1 _ ⟨by first | assumption | exact Nat.zero_lt_one, rfl⟩) rfl dX5_cast_50 ?_
            refine j_iload_n dX5_cast_53 rfl ?_
            refine j_iald (hR.1 _ ⟨by first | assumption | exact Nat.zero_lt_one, rfl⟩) _ rfl (by omega) (by decide) dX5_cast_54 ?_
            refine j_aload_n dX5_cast_55 rfl ?_
            refine gX5_13 rfl (hR.1 _ ⟨by first | assumption | exact Nat.zero_lt_one, rfl⟩) rfl dX5_cast_56 ?_
            refine j_iload_n dX5_cast_59 rfl ?_
            refine j_iald (hR.1 _ ⟨by first | assumption | exact Nat.zero_lt_one, rfl⟩) _ rfl (by omega) (by decide) dX5_cast_60 ?_
            refine j_imul dX5_cast_61 ?_
            refine j_iadd dX5_cast_62 ?_
            refine j_istore_n dX5_cast_63 (Nat.le_of_ble_eq_true rfl) rfl ?_
            refine j_iinc dX5_cast_64 rfl (nI_inc _) (Nat.le_of_ble_eq_true rfl) rfl ?_
            refine j_goto 37 dX5_cast_67 (by decide) ?_
            exact ih (i + 1) (by omega) (by omega)
      rw [show (8 : Int32) * nI p = nI (8 * p + 0) from pk_mul 8 p]
      exact k0 9 0 (by omega) (by omega)
    · refine j_iconst (v := (-1)) dX5_cast_23 (by decide) ?_
      refine j_iret rfl (Nat.le_of_ble_eq_true rfl) (Nat.le_of_ble_eq_true rfl) dX5_cast_24 ?_
      exact ⟨by simp [mCast, g_11, hclp, c_20], by simpa [mCast, g_11, hclp, c_20] using hR⟩
end
section
/-! ===== cuts: eight numbers, their sum, the order in which they are told ===== -/
def sm (c : Nat → Nat) : Nat → Nat
  | 0 => 0
  | n + 1 => sm c n + c n
def allB (f : Nat → Bool) : Nat → Bool
  | 0 => true
  | n + 1 => allB f n && f n
theorem allB_iff {f : Nat → Bool} {n : Nat} : allB f n = true ↔ ∀ i, i < n → f i = true := by
  induction n with
  | zero => exact ⟨fun _ i h => absurd h (by omega), fun _ => rfl⟩
  | succ n ih =>
    simp only [allB, Bool.and_eq_true, ih]
    constructor
    · rintro ⟨h1, h2⟩ i hi
      rcases Nat.lt_or_ge i n with h | h
      · exact h1 i h
      · rw [show i = n by omega]; exact h2
    · intro h
      exact ⟨fun i hi => h i (by omega), h n (by omega)⟩
theorem allB_no {f : Nat → Bool} {n i : Nat} (hi : i < n) (hf : f i = false) : allB f n = false := by
  cases h : allB f n with
  | false => rfl
  | true => rw [allB_iff.mp h i hi] at hf; cases hf
theorem allB_congr {f g : Nat → Bool} {n : Nat} (h : ∀ i, i < n → f i = g i) : allB f n = allB g n := by
  induction n with
  | zero => rfl
  | succ n ih => rw [allB, allB, ih (fun i hi => h i (by omega)), h n (by omega)]
def dsum (v : Int32) (f g : Nat → Int32) : Nat → Int32
  | 0 => v
  | n + 1 => dsum v f g n - f n * g n
theorem dsum_congr {v v' : Int32} {f f' g g' : Nat → Int32} {n : Nat} (hv : v = v') (hf : ∀ i, i < n → f i = f' i) (hg : ∀ i, i < n → g i = g' i) : dsum v f g n = dsum v' f' g' n := by
  induction n with
  | zero => exact hv
  | succ n ih => rw [dsum, dsum, ih (fun i hi => hf i (by omega)) (fun i hi => hg i (by omega)), hf n (by omega), hg n (by omega)]
theorem wsum_congr {v v' : Int32} {f f' g g' : Nat → Int32} {n : Nat} (hv : v = v') (hf : ∀ i, i < n → f i = f' i) (hg : ∀ i, i < n → g i = g' i) : wsum v f g n = wsum v' f' g' n := by
  induction n with
  | zero => exact hv
  | succ n ih => rw [wsum, wsum, ih (fun i hi => hf i (by omega)) (fun i hi => hg i (by omega)), hf n (by omega), hg n (by omega)]
def lexlt (n : Nat) (c d : Nat → Nat) : Prop := ∃ k, k < n ∧ (∀ i, i < k → c i = d i) ∧ c k < d k
theorem lex_tri (n : Nat) (c d : Nat → Nat) : lexlt n c d ∨ (∀ i, i < n → c i = d i) ∨ lexlt n d c := by
  induction n with
  | zero => exact Or.inr (Or.inl (fun i h => absurd h (by omega)))
  | succ n ih =>
    rcases ih with ⟨k, h1, h2, h3⟩ | h | ⟨k, h1, h2, h3⟩
    · exact Or.inl ⟨k, by omega, h2, h3⟩
    · rcases Nat.lt_trichotomy (c n) (d n) with h4 | h4 | h4
      · exact Or.inl ⟨n, by omega, h, h4⟩
      · refine Or.inr (Or.inl (fun i hi => ?_))
        rcases Nat.lt_or_ge i n with h5 | h5
        · exact h i h5
        · rw [show i = n by omega]; exact h4
      · exact Or.inr (Or.inr ⟨n, by omega, fun i hi => (h i hi).symm, h4⟩)
    · exact Or.inr (Or.inr ⟨k, by omega, h2, h3⟩)
def tunC (T S P : Nat → Int32) (tb : Nat → Nat → Int32) (fr to : Nat → Int32) (c : Nat → Nat) : Bool :=
  allB (fun i => decide (S i ≤ T i - nI (c i))) 8 && allB (fun q => iw (dsum (P q) (tb q) (fun i => nI (c i)) 8) (fr q) (to q)) 5
/-- n cuts, by c, are TUNING's: fewest, and of these the first -/
def First (tun : (Nat → Nat) → Bool) (n : Nat) (c : Nat → Nat) : Prop := sm c 8 = n ∧ tun c = true ∧ (∀ c', sm c' 8 < n → tun c' = false) ∧ ∀ c', sm c' 8 = n → lexlt 8 c' c → tun c' = false
theorem First.uniq {tun : (Nat → Nat) → Bool} {n m : Nat} {c d : Nat → Nat} (h1 : First tun n c) (h2 : First tun m d) : n = m ∧ ∀ i, i < 8 → c i = d i := by
  obtain ⟨a1, a2, a3, a4⟩ := h1
  obtain ⟨b1, b2, b3, b4⟩ := h2
  have hnm : n = m := by
    rcases Nat.lt_trichotomy n m with h | h | h
    · have := b3 c (by omega)
      rw [a2] at this
      cases this
    · exact h
    · have := a3 d (by omega)
      rw [b2] at this
      cases this
  subst hnm
  refine ⟨rfl, ?_⟩
  rcases lex_tri 8 c d with h | h | h
  · have := b4 c a1 h
    rw [a2] at this
    cases this
  · exact h
  · have := a4 d b1 h
    rw [b2] at this
    cases this
theorem sm_congr {c d : Nat → Nat} {n : Nat} (h : ∀ i, i < n → c i = d i) : sm c n = sm d n := by
  induction n with
  | zero => rfl
  | succ n ih => rw [sm, sm, ih (fun i hi => h i (by omega)), h n (by omega)]
theorem sm_mono {c : Nat → Nat} {m n : Nat} (h : m ≤ n) : sm c m ≤ sm c n := by
  induction n with
  | zero => rw [show m = 0 by omega]; exact Nat.le_refl _
  | succ n ih =>
    rcases Nat.lt_or_ge m (n + 1) with h1 | h1
    · have := ih (by omega)
      rw [sm]
      omega
    · rw [show m = n + 1 by omega]; exact Nat.le_refl _
theorem sm_le {c : Nat → Nat} {i n : Nat} (h : i < n) : c i ≤ sm c n := by
  have h1 := sm_mono (c := c) (show i + 1 ≤ n by omega)
  rw [sm] at h1
  omega
theorem tunC_congr {T S P : Nat → Int32} {tb : Nat → Nat → Int32} {fr to : Nat → Int32} {c d : Nat → Nat} (h : ∀ i, i < 8 → c i = d i) : tunC T S P tb fr to c = tunC T S P tb fr to d := by
  have e1 : allB (fun i => decide (S i ≤ T i - nI (c i))) 8 = allB (fun i => decide (S i ≤ T i - nI (d i))) 8 := allB_congr (fun i hi => by rw [h i hi])
  have e2 : allB (fun q => iw (dsum (P q) (tb q) (fun i => nI (c i)) 8) (fr q) (to q)) 5 = allB (fun q => iw (dsum (P q) (tb q) (fun i => nI (d i)) 8) (fr q) (to q)) 5 := allB_congr (fun q _ => by
    rw [dsum_congr (v' := P q) (f' := tb q) (g' := fun i => nI (d i)) rfl (fun _ _ => rfl) (fun i hi => by rw [h i hi])])
  unfold tunC
  rw [e1, e2]
def nxt (c : Nat → Nat) (h : Nat) : Nat → Nat := fun i => if i < h then c i else if i = h then c h + 1 else if i < 7 then 0 else sm c 8 - sm c (h + 1) - 1
theorem nxt_lo {c : Nat → Nat} {h i : Nat} (hi : i < h) : nxt c h i = c i := if_pos hi
theorem nxt_at {c : Nat → Nat} {h : Nat} : nxt c h h = c h + 1 := by simp [nxt]
theorem nxt_mid {c : Nat → Nat} {h i : Nat} (h1 : h < i) (h2 : i < 7) : nxt c h i = 0 := by
  simp only [nxt]
  rw [if_neg (by omega), if_neg (by omega), if_pos h2]
theorem nxt_end {c : Nat → Nat} {h : Nat} (h1 : h < 7) : nxt c h 7 = sm c 8 - sm c (h + 1) - 1 := by
  simp only [nxt]
  rw [if_neg (by omega), if_neg (by omega), if_neg (by omega)]
theorem nxt_sm7 {c : Nat → Nat} {h : Nat} (h1 : h ≤ 6) : ∀ i, h < i → i ≤ 7 → sm (nxt c h) i = sm c (h + 1) + 1 := by
  intro i
  induction i with
  | zero => intro h2; omega
  | succ i ih =>
    intro h2 h3
    rcases Nat.lt_or_ge h i with h4 | h4
    · rw [sm, ih h4 (by omega), nxt_mid h4 (by omega)]
    · obtain rfl : i = h := by omega
      rw [sm, sm_congr (d := c) (fun j hj => nxt_lo hj), nxt_at, sm]
      omega
theorem nxt_sm {c : Nat → Nat} {h : Nat} (h1 : h ≤ 6) (h2 : sm c (h + 1) < sm c 8) : sm (nxt c h) 8 = sm c 8 := by
  rw [show sm (nxt c h) 8 = sm (nxt c h) 7 + nxt c h 7 from rfl, nxt_sm7 h1 7 (by omega) (by omega), nxt_end (by omega)]
  omega
theorem nxt_gt {c : Nat → Nat} {h : Nat} (h1 : h ≤ 6) : lexlt 8 c (nxt c h) := ⟨h, by omega, fun i hi => (nxt_lo hi).symm, by rw [nxt_at]; omega⟩
theorem nxt_between {c c' : Nat → Nat} {h : Nat} (h1 : h ≤ 6) (hz : ∀ j, h < j → j ≤ 6 → sm c 8 = sm c (j + 1)) (hs : sm c' 8 = sm c 8) (hc : lexlt 8 c c') : ¬ lexlt 8 c' (nxt c h) := by
  obtain ⟨d, d1, d2, d3⟩ := hc
  rintro ⟨e, e1, e2, e3⟩
  have hdh : d ≤ h := by
    rcases Nat.lt_or_ge h d with q | q
    · exfalso
      have a1 : sm c' d = sm c d := sm_congr (fun i hi => (d2 i hi).symm)
      have a2 : sm c 8 = sm c (d + 1) := by
        rcases Nat.lt_or_ge d 7 with q2 | q2
        · exact hz d q (by omega)
        · rw [show d = 7 by omega]
      have a3 := sm_mono (c := c') (show d + 1 ≤ 8 by omega)
      have a4 : sm c (d + 1) = sm c d + c d := rfl
      have a5 : sm c' (d + 1) = sm c' d + c' d := rfl
      omega
    · exact q
  rcases Nat.lt_trichotomy e d with q | q | q
  · have := e3
    rw [nxt_lo (by omega), ← d2 e q] at this
    omega
  · subst q
    rcases Nat.lt_or_ge e h with q2 | q2
    · rw [nxt_lo q2] at e3
      omega
    · obtain rfl : e = h := by omega
      rw [nxt_at] at e3
      omega
  · have hd := e2 d q
    rcases Nat.lt_or_ge d h with q2 | q2
    · rw [nxt_lo q2] at hd
      omega
    · obtain rfl : d = h := by omega
      rcases Nat.lt_or_ge e 7 with q3 | q3
      · rw [nxt_mid q q3] at e3
        omega
      · obtain rfl : e = 7 := by omega
        have a1 : sm c' 7 = sm (nxt c d) 7 := sm_congr e2
        have a2 : sm (nxt c d) 7 = sm c (d + 1) + 1 := nxt_sm7 h1 7 (by omega) (by omega)
        have a3 : sm c' 8 = sm c' 7 + c' 7 := rfl
        rw [nxt_end (by omega)] at e3
        omega
theorem nxt_none {c c' : Nat → Nat} (hz : ∀ j, j ≤ 6 → sm c 8 = sm c (j + 1)) (hs : sm c' 8 = sm c 8) : ¬ lexlt 8 c c' := by
  rintro ⟨d, d1, d2, d3⟩
  have a1 : sm c' d = sm c d := sm_congr (fun i hi => (d2 i hi).symm)
  have a2 : sm c 8 = sm c (d + 1) := by
    rcases Nat.lt_or_ge d 7 with q2 | q2
    · exact hz d (by omega)
    · rw [show d = 7 by omega]
  have a3 := sm_mono (c := c') (show d + 1 ≤ 8 by omega)
  have a4 : sm c (d + 1) = sm c d + c d := rfl
  have a5 : sm c' (d + 1) = sm c' d + c' d := rfl
  omega
/-- the first of all cuts of one sum: all at the last height -/
def c0f (n : Nat) : Nat → Nat := fun i => if i = 7 then n else 0
theorem c0f_sm (n : Nat) : sm (c0f n) 8 = n := by simp [sm, c0f]
theorem c0f_first {n : Nat} {c : Nat → Nat} (hs : sm c 8 = n) : ¬ lexlt 8 c (c0f n) := by
  rintro ⟨d, d1, d2, d3⟩
  rcases Nat.lt_or_ge d 7 with q | q
  · simp only [c0f, if_neg (show ¬ d = 7 by omega)] at d3
    omega
  · obtain rfl : d = 7 := by omega
    have a1 : sm c 7 = sm (c0f n) 7 := sm_congr d2
    have a2 : sm (c0f n) 7 = 0 := by simp [sm, c0f]
    have a3 : sm c 8 = sm c 7 + c 7 := rfl
    simp only [c0f, if_true] at d3
    omega
def vl (c : Nat → Nat) : Nat → Nat
  | 0 => 0
  | n + 1 => vl c n * 13 + c n
theorem vl_congr {c d : Nat → Nat} {n : Nat} (h : ∀ i, i < n → c i = d i) : vl c n = vl d n := by
  induction n with
  | zero => rfl
  | succ n ih => rw [vl, vl, ih (fun i hi => h i (by omega)), h n (by omega)]
theorem vl_lt {c d : Nat → Nat} {n : Nat} (h : lexlt n c d) (hc : ∀ i, i < n → c i ≤ 12) : vl c n < vl d n := by
  obtain ⟨k, h1, h2, h3⟩ := h
  have key : ∀ m, k < m → m ≤ n → vl c m < vl d m := by
    intro m
    induction m with
    | zero => intro q; omega
    | succ m ih =>
      intro q1 q2
      rcases Nat.lt_or_ge k m with q | q
      · have := ih q (by omega)
        have := hc m (by omega)
        rw [vl, vl]
        omega
      · obtain rfl : m = k := by omega
        rw [vl, vl, vl_congr h2]
        omega
  exact key n h1 (Nat.le_refl n)
theorem vl_bd {c : Nat → Nat} {n : Nat} (hc : ∀ i, i < n → c i ≤ 12) : vl c n < 13 ^ n := by
  induction n with
  | zero => simp [vl]
  | succ n ih =>
    have := ih (fun i hi => hc i (by omega))
    have := hc n (by omega)
    rw [vl, Nat.pow_succ]
    omega
end
section
def mTun (Z : ZT) (b : Nat) : (Nat → Nat) → Bool := tunC (fun i => Z (5, 0, 11) (8 * b + i)) (fun i => Z (5, 0, 12) (8 * b + i)) (mP Z b) (fun q i => Z (5, 0, 15) (40 * b + 8 * q + i)) (Z (5, 0, 22)) (Z (5, 0, 23))
/-- nothing but the array n has changed -/
def keep1 (n : NM) (Z Y : ZT) : Prop := ∀ m, m ≠ n → Y m = Z m
theorem keep1.rf {n : NM} {Z : ZT} : keep1 n Z Z := fun _ _ => rfl
theorem keep1.up {n : NM} {Z Y : ZT} (h : keep1 n Z Y) (k : Nat) (v : Int32) : keep1 n Z (upZ Y n k v) := fun m hm => by rw [upZ_ne hm]; exact h m hm
theorem keep1.tr {n : NM} {Z Y X : ZT} (h : keep1 n Z Y) (h2 : keep1 n Y X) : keep1 n Z X := fun m hm => (h2 m hm).trans (h m hm)
theorem mTun_keep {Z Y : ZT} (h : keep1 (5, 0, 29) Z Y) (b : Nat) : mTun Y b = mTun Z b := by
  unfold mTun mP
  rw [h (5, 0, 11) (by decide), h (5, 0, 12) (by decide), h (5, 0, 14) (by decide), h (5, 0, 15) (by decide), h (5, 0, 22) (by decide), h (5, 0, 23) (by decide)]
set_option maxRecDepth 100000 in
set_option maxHeartbeats 4000000 in
theorem c_X5_isTuned (l : Launch) (G : GG) {ad : NM → Nat} {np nb : Nat} {Z : ZT} {L : LT} {h : AH} (hR : Rm ad np nb Z L h) {b : Nat} (hb : b < 24) {c : Nat → Nat} (hcu : ∀ i, i < 8 → Z (5, 0, 29) i = nI (c i))  : Con l G mX5_isTuned 1 0 0 [.ref (ad (5, 0, 0)), .int (nI b)] h (fun r h2 => r = some (.int (bi (mTun Z b c))) ∧ h2 = h) := by
  have k0 : ∀ nn i, 8 < i + nn → i ≤ 8 → (∀ x, x < i → (fun i => decide (Z (5, 0, 12) (8 * b + i) ≤ Z (5, 0, 11) (8 * b + i) - nI (c i))) x = true) → J (thM l G mX5_isTuned 1 0 0 (fun r h2 => r = some (.int (bi (mTun Z b c))) ∧ h2 = h)) cX5_isTuned h (0, 0) [some (.ref (ad (5, 0, 0))), some (.int (nI b)), some (.int (nI i)), none, none] 2 [] := by
    intro nn
    induction nn with
    | zero => intro i h1 h2; omega
    | succ nn ih =>
      intro i h1 h2 hall
      refine j_iload_n dX5_isTuned_2 rfl ?_
      refine j_bipush (v := 8) dX5_isTuned_3 (by decide) ?_
      refine j_icmp_ge 48 dX5_isTuned_5 (by decide) (fun c_5 => ?_) (fun c_5 => ?_)
      · have hl : 8 ≤ i := (nI_leI (a := 8) (b := i) (by omega) (by omega)).mp c_5
        obtain rfl : i = 8 := by omega
        refine j_iconst (v := 0) dX5_isTuned_48 (by decide) ?_
        refine j_istore_n dX5_isTuned_49 (Nat.le_of_ble_eq_true rfl) rfl ?_
        have k1 : ∀ nn1 q, 5 < q + nn1 → q ≤ 5 → (∀ x, x < q → (fun q => iw (dsum (mP Z b q) (fun i => Z (5, 0, 15) (40 * b + 8 * q + i)) (fun i => nI (c i)) 8) (Z (5, 0, 22) q) (Z (5, 0, 23) q)) x = true) → J (thM l G mX5_isTuned 1 0 0 (fun r h2 => r = some (.int (bi (mTun Z b c))) ∧ h2 = h)) cX5_isTuned h (0, 0) [some (.ref (ad (5, 0, 0))), some (.int (nI b)), some (.int (nI q)), none, none] 50 [] := by
          intro nn1
          induction nn1 with
          | zero => intro q h1 h2; omega
          | succ nn1 ih1 =>
            intro q h1 h2 hqs
            refine j_iload_n dX5_isTuned_50 rfl ?_
            refine j_iconst (v := 5) dX5_isTuned_51 (by decide) ?_
            refine j_icmp_ge 133 dX5_isTuned_52 (by decide) (fun c_52 => ?_) (fun c_52 => ?_)
            · have hq5 : 5 ≤ q := (nI_leI (a := 5) (b := q) (by omega) (by omega)).mp c_52
              obtain rfl : q = 5 := by omega
              refine j_iconst (v := 1) dX5_isTuned_133 (by decide) ?_
              refine j_zret rfl rfl (Nat.le_of_ble_eq_true rfl) (Nat.le_of_ble_eq_true rfl) dX5_isTuned_134 ?_
              exact ⟨by
                rw [show mTun Z b c = true by
                  unfold mTun tunC
                  rw [allB_iff.mpr hall, allB_iff.mpr hqs]
                  rfl]
                rfl, rfl⟩
            · have hq5 : q < 5 := Nat.not_le.mp (fun q9 => c_52 ((nI_leI (a := 5) (b := q) (by omega) (by omega)).mpr q9))
              refine j_aload_n dX5_isTuned_55 rfl ?_
              refine j_iload_n dX5_isTuned_56 rfl ?_
              refine j_iload_n dX5_isTuned_57 rfl ?_
              refine j_callV (rest := []) (c_X5_partOf l G hR hb (q := q) (by omega)) (hR.1 _ ⟨by first | assumption | exact Nat.zero_lt_one, rfl⟩) rfl cw_X5_partOf wl_X5_120 wm_X5_partOf wx_X5_partOf rfl rfl (Nat.le_of_ble_eq_true rfl) (Nat.le_of_ble_eq_true rfl) (Nat.le_of_ble_eq_true rfl) (Nat.le_of_ble_eq_true rfl) (Nat.le_of_ble_eq_true rfl) dX5_isTuned_58 (fun v_58 h_58 e_58 => ?_)
              obtain ⟨rfl, hh⟩ := e_58
              have hh := hh.symm
              subst hh
              refine j_istore_n dX5_isTuned_61 (Nat.le_of_ble_eq_true rfl) rfl ?_
              refine j_iconst (v := 0) dX5_isTuned_62 (by decide) ?_
              refine j_istore dX5_isTuned_63 (Nat.le_of_ble_eq_true rfl) rfl ?_
              have k2 : ∀ nn2 i, 8 < i + nn2 → i ≤ 8 → J (thM l G mX5_isTuned 1 0 0 (fun r h2 => r = some (.int (bi (mTun Z b c))) ∧ h2 = h)) cX5_isTuned h (0, 0) [some (.ref (ad (5, 0, 0))), some (.int (nI b)), some (.int (nI q)), some (.int (dsum (mP Z b q) (fun i => Z (5, 0, 15) (40 * b + 8 * q + i)) (fun i => nI (c i)) i)), some (.int (nI i))] 65 [] := by
                intro nn2
                induction nn2 with
                | zero => intro i h1 h2; omega
                | succ nn2 ih2 =>
                  intro i h1 h2 
                  refine j_iload dX5_isTuned_65 rfl ?_
                  refine j_bipush (v := 8) dX5_isTuned_67 (by decide) ?_
                  refine j_icmp_ge 106 dX5_isTuned_69 (by decide) (fun c_69 => ?_) (fun c_69 => ?_)
                  · have hl : 8 ≤ i := (nI_leI (a := 8) (b := i) (by omega) (by omega)).mp c_69
                    obtain rfl : i = 8 := by omega
                    refine j_iload_n dX5_isTuned_106 rfl ?_
                    refine j_aload_n dX5_isTuned_107 rfl ?_
                    refine gX5_59 rfl (hR.1 _ ⟨by first | assumption | exact Nat.zero_lt_one, rfl⟩) rfl dX5_isTuned_108 ?_
                    refine j_iload_n dX5_isTuned_111 rfl ?_
                    refine j_iald (hR.1 _ ⟨by first | assumption | exact Nat.zero_lt_one, rfl⟩) q rfl (by omega) (by decide) dX5_isTuned_112 ?_
                    refine j_aload_n dX5_isTuned_113 rfl ?_
                    refine gX5_62 rfl (hR.1 _ ⟨by first | assumption | exact Nat.zero_lt_one, rfl⟩) rfl dX5_isTuned_114 ?_
                    refine j_iload_n dX5_isTuned_117 rfl ?_
                    refine j_iald (hR.1 _ ⟨by first | assumption | exact Nat.zero_lt_one, rfl⟩) q rfl (by omega) (by decide) dX5_isTuned_118 ?_
                    refine j_callS (rest := []) (c_X5_in l G) cw_X5_in wl_X5_90 ws_X5_in rfl rfl (Nat.le_of_ble_eq_true rfl) (Nat.le_of_ble_eq_true rfl) (Nat.le_of_ble_eq_true rfl) (Nat.le_of_ble_eq_true rfl) (Nat.le_of_ble_eq_true rfl) dX5_isTuned_119 (fun v_119 h_119 e_119 => ?_)
                    obtain ⟨rfl, hh⟩ := e_119
                    have hh := hh.symm
                    subst hh
                    refine j_if_ne 127 dX5_isTuned_122 (by decide) (fun c_122 => ?_) (fun c_122 => ?_)
                    · have g_122 := (bi_ne0 _).mp c_122
                      refine j_iinc dX5_isTuned_127 rfl (nI_inc _) (Nat.le_of_ble_eq_true rfl) rfl ?_
                      refine j_goto 50 dX5_isTuned_130 (by decide) ?_
                      refine J.drop 3 ?_
                      refine J.drop 4 ?_
                      exact ih1 (q + 1) (by omega) (by omega) (fun x hx => by
                        rcases Nat.lt_or_ge x q with h9 | h9
                        · exact hqs x h9
                        · rw [show x = q by omega]; exact g_122)
                    · have g_122 := (bi_eq0 _).mp c_122
                      refine j_iconst (v := 0) dX5_isTuned_125 (by decide) ?_
                      refine j_zret rfl rfl (Nat.le_of_ble_eq_true rfl) (Nat.le_of_ble_eq_true rfl) dX5_isTuned_126 ?_
                      exact ⟨by
                        rw [show mTun Z b c = false by
                          unfold mTun tunC
                          rw [allB_no (n := 5) hq5 g_122, Bool.and_false]]
                        rfl, rfl⟩
                  · have hl : i < 8 := Nat.not_le.mp (fun q => c_69 ((nI_leI (a := 8) (b := i) (by omega) (by omega)).mpr q))
                    refine j_iload_n dX5_isTuned_72 rfl ?_
                    refine j_aload_n dX5_isTuned_73 rfl ?_
                    refine gX5_46 rfl (hR.1 _ ⟨by first | assumption | exact Nat.zero_lt_one, rfl⟩) rfl dX5_isTuned_74 ?_
                    refine j_bipush (v := 40) dX5_isTuned_77 (by decide) ?_
                    refine j_iload_n dX5_isTuned_79 rfl ?_
                    refine j_imul dX5_isTuned_80 ?_
                    refine j_bipush (v := 8) dX5_isTuned_81 (by decide) ?_
                    refine j_iload_n dX5_isTuned_83 rfl ?_
                    refine j_imul dX5_isTuned_84 ?_
                    refine j_iadd dX5_isTuned_85 ?_
                    refine j_iload dX5_isTuned_86 rfl ?_
                    refine j_iadd dX5_isTuned_88 ?_
                    refine j_iald (hR.1 _ ⟨by first | assumption | exact Nat.zero_lt_one, rfl⟩) (40 * b + 8 * q + i) (xi40 b q i) (by omega) (by decide) dX5_isTuned_89 ?_
                    refine j_aload_n dX5_isTuned_90 rfl ?_
                    refine gX5_71 rfl (hR.1 _ ⟨by first | assumption | exact Nat.zero_lt_one, rfl⟩) rfl dX5_isTuned_91 ?_
                    refine j_iload dX5_isTuned_94 rfl ?_
                    refine j_iald (hR.1 _ ⟨by first | assumption | exact Nat.zero_lt_one, rfl⟩) _ rfl (by omega) (by decide) dX5_isTuned_96 ?_
                    rw [hcu i hl]
                    refine j_imul dX5_isTuned_97 ?_
                    refine j_isub dX5_isTuned_98 ?_
                    refine j_istore_n dX5_isTuned_99 (Nat.le_of_ble_eq_true rfl) rfl ?_
                    refine j_iinc dX5_isTuned_100 rfl (nI_inc _) (Nat.le_of_ble_eq_true rfl) rfl ?_
                    refine j_goto 65 dX5_isTuned_103 (by decide) ?_
                    exact ih2 (i + 1) (by omega) (by omega)
              exact k2 9 0 (by omega) (by omega)
        exact k1 6 0 (by omega) (by omega) (fun x hx => absurd hx (by omega))
      · have hl : i < 8 := Nat.not_le.mp (fun q => c_5 ((nI_leI (a := 8) (b := i) (by omega) (by omega)).mpr q))
        refine j_aload_n dX5_isTuned_8 rfl ?_
        refine gX5_34 rfl (hR.1 _ ⟨by first | assumption | exact Nat.zero_lt_one, rfl⟩) rfl dX5_isTuned_9 ?_
        refine j_bipush (v := 8) dX5_isTuned_12 (by decide) ?_
        refine j_iload_n dX5_isTuned_14 rfl ?_
        refine j_imul dX5_isTuned_15 ?_
        refine j_iload_n dX5_isTuned_16 rfl ?_
        refine j_iadd dX5_isTuned_17 ?_
        refine j_iald (hR.1 _ ⟨by first | assumption | exact Nat.zero_lt_one, rfl⟩) (8 * b + i) (xi8 b i) (by omega) (by decide) dX5_isTuned_18 ?_
        refine j_aload_n dX5_isTuned_19 rfl ?_
        refine gX5_71 rfl (hR.1 _ ⟨by first | assumption | exact Nat.zero_lt_one, rfl⟩) rfl dX5_isTuned_20 ?_
        refine j_iload_n dX5_isTuned_23 rfl ?_
        refine j_iald (hR.1 _ ⟨by first | assumption | exact Nat.zero_lt_one, rfl⟩) _ rfl (by omega) (by decide) dX5_isTuned_24 ?_
        rw [hcu i hl]
        refine j_isub dX5_isTuned_25 ?_
        refine j_aload_n dX5_isTuned_26 rfl ?_
        refine gX5_37 rfl (hR.1 _ ⟨by first | assumption | exact Nat.zero_lt_one, rfl⟩) rfl dX5_isTuned_27 ?_
        refine j_bipush (v := 8) dX5_isTuned_30 (by decide) ?_
        refine j_iload_n dX5_isTuned_32 rfl ?_
        refine j_imul dX5_isTuned_33 ?_
        refine j_iload_n dX5_isTuned_34 rfl ?_
        refine j_iadd dX5_isTuned_35 ?_
        refine j_iald (hR.1 _ ⟨by first | assumption | exact Nat.zero_lt_one, rfl⟩) (8 * b + i) (xi8 b i) (by omega) (by decide) dX5_isTuned_36 ?_
        refine j_icmp_ge 42 dX5_isTuned_37 (by decide) (fun c_37 => ?_) (fun c_37 => ?_)
        · refine j_iinc dX5_isTuned_42 rfl (nI_inc _) (Nat.le_of_ble_eq_true rfl) rfl ?_
          refine j_goto 2 dX5_isTuned_45 (by decide) ?_
          exact ih (i + 1) (by omega) (by omega) (fun x hx => by
            rcases Nat.lt_or_ge x i with h9 | h9
            · exact hall x h9
            · rw [show x = i by omega]; exact decide_eq_true c_37)
        · refine j_iconst (v := 0) dX5_isTuned_40 (by decide) ?_
          refine j_zret rfl rfl (Nat.le_of_ble_eq_true rfl) (Nat.le_of_ble_eq_true rfl) dX5_isTuned_41 ?_
          exact ⟨by
            rw [show mTun Z b c = false by
              unfold mTun tunC
              rw [allB_no (n := 8) (f := (fun i => decide (Z (5, 0, 12) (8 * b + i) ≤ Z (5, 0, 11) (8 * b + i) - nI (c i)))) hl (decide_eq_false c_37), Bool.false_and]]
            rfl, rfl⟩
  refine Con.of 3 rfl (Nat.le_of_ble_eq_true rfl) ?_
  refine j_iconst (v := 0) dX5_isTuned_0 (by decide) ?_
  refine j_istore_n dX5_isTuned_1 (Nat.le_of_ble_eq_true rfl) rfl ?_
  exact k0 9 0 (by omega) (by omega) (fun x hx => absurd hx (by omega))

set_option maxRecDepth 100000 in
set_option maxHeartbeats 4000000 in
theorem c_X5_nextCuts (l : Launch) (G : GG) {ad : NM → Nat} {np nb : Nat} {Z : ZT} {L : LT} {h : AH} (hR : Rm ad np nb Z L h) {c : Nat → Nat} (hcu : ∀ i, i < 8 → Z (5, 0, 29) i = nI (c i)) (hs : sm c 8 ≤ 12) : Con l G mX5_nextCuts 0 0 0 [.ref (ad (5, 0, 0))] h (fun r h2 => (r = some (.int 0) ∧ Rm ad np nb Z L h2 ∧ ∀ j, j ≤ 6 → sm c 8 = sm c (j + 1)) ∨ (r = some (.int 1) ∧ ∃ (k : Nat) (Y : ZT), k ≤ 6 ∧ sm c (k + 1) < sm c 8 ∧ (∀ j, k < j → j ≤ 6 → sm c 8 = sm c (j + 1)) ∧ Rm ad np nb Y L h2 ∧ keep1 (5, 0, 29) Z Y ∧ ∀ i, i < 8 → Y (5, 0, 29) i = nI (nxt c k i))) := by
  have key : ∀ k, k ≤ 7 → (∀ j, k ≤ j → j ≤ 6 → sm c 8 = sm c (j + 1)) → J (thM l G mX5_nextCuts 0 0 0 (fun r h2 => (r = some (.int 0) ∧ Rm ad np nb Z L h2 ∧ ∀ j, j ≤ 6 → sm c 8 = sm c (j + 1)) ∨ (r = some (.int 1) ∧ ∃ (k : Nat) (Y : ZT), k ≤ 6 ∧ sm c (k + 1) < sm c 8 ∧ (∀ j, k < j → j ≤ 6 → sm c 8 = sm c (j + 1)) ∧ Rm ad np nb Y L h2 ∧ keep1 (5, 0, 29) Z Y ∧ ∀ i, i < 8 → Y (5, 0, 29) i = nI (nxt c k i)))) cX5_nextCuts h (0, 0) [some (.ref (ad (5, 0, 0))), some (.int (nI (sm c 8 - sm c k))), some (.int (nI k - 1)), none] 11 [] := by
    intro k
    induction k with
    | zero =>
      intro hk hz
      refine j_iload_n dX5_nextCuts_11 rfl ?_
      refine j_if_lt 79 dX5_nextCuts_12 (by decide) (fun c_12 => ?_) (fun c_12 => ?_)
      · refine j_iconst (v := 0) dX5_nextCuts_79 (by decide) ?_
        refine j_zret rfl rfl (Nat.le_of_ble_eq_true rfl) (Nat.le_of_ble_eq_true rfl) dX5_nextCuts_80 ?_
        exact Or.inl ⟨rfl, hR, fun j hj => hz j (by omega) hj⟩
      · exact absurd (by decide) c_12
    | succ k ih =>
      intro hk hz
      rw [nI_pred]
      have hz2 : ∀ j, k < j → j ≤ 6 → sm c 8 = sm c (j + 1) := fun j h1 h2 => hz j (by omega) h2
      refine j_iload_n dX5_nextCuts_11 rfl ?_
      refine j_if_lt 79 dX5_nextCuts_12 (by decide) (fun c_12 => ?_) (fun c_12 => ?_)
      · exact absurd c_12 (nI_pos (n := k) (by omega))
      · refine j_iload_n dX5_nextCuts_15 rfl ?_
        refine j_if_le 64 dX5_nextCuts_16 (by decide) (fun c_16 => ?_) (fun c_16 => ?_)
        · have hle : sm c 8 - sm c (k + 1) ≤ 0 := (nI_leI (a := sm c 8 - sm c (k + 1)) (b := 0) (by omega) (by omega)).mp c_16
          have hmo := sm_mono (c := c) (show k + 1 ≤ 8 by omega)
          have hck : sm c (k + 1) = sm c k + c k := rfl
          refine j_iload_n dX5_nextCuts_64 rfl ?_
          refine j_aload_n dX5_nextCuts_65 rfl ?_
          refine gX5_71 rfl (hR.1 _ ⟨by first | assumption | exact Nat.zero_lt_one, rfl⟩) rfl dX5_nextCuts_66 ?_
          refine j_iload_n dX5_nextCuts_69 rfl ?_
          refine j_iald (hR.1 _ ⟨by first | assumption | exact Nat.zero_lt_one, rfl⟩) k rfl (by omega) (by decide) dX5_nextCuts_70 ?_
          rw [hcu k (by omega)]
          refine j_iadd dX5_nextCuts_71 ?_
          rw [nI_add, show sm c 8 - sm c (k + 1) + c k = sm c 8 - sm c k by omega]
          refine j_istore_n dX5_nextCuts_72 (Nat.le_of_ble_eq_true rfl) rfl ?_
          refine j_iinc dX5_nextCuts_73 rfl ((rfl : nI k + Int32.ofInt (-1) = _)) (Nat.le_of_ble_eq_true rfl) rfl ?_
          refine j_goto 11 dX5_nextCuts_76 (by decide) ?_
          rw [show nI k + Int32.ofInt (-1) = nI k - 1 from (Int32.sub_eq_add_neg (nI k) 1).symm]
          exact ih (by omega) (fun j h1 h2 => by
            rcases Nat.lt_or_ge k j with h9 | h9
            · exact hz j (by omega) h2
            · obtain rfl : j = k := by omega
              omega)
        · have hgt : 0 < sm c 8 - sm c (k + 1) := Nat.not_le.mp (fun q => c_16 ((nI_leI (a := sm c 8 - sm c (k + 1)) (b := 0) (by omega) (by omega)).mpr q))
          refine j_aload_n dX5_nextCuts_19 rfl ?_
          refine gX5_71 rfl (hR.1 _ ⟨by first | assumption | exact Nat.zero_lt_one, rfl⟩) rfl dX5_nextCuts_20 ?_
          refine j_iload_n dX5_nextCuts_23 rfl ?_
          refine j_dup2 dX5_nextCuts_24 rfl rfl ?_
          refine j_iald (hR.1 _ ⟨by first | assumption | exact Nat.zero_lt_one, rfl⟩) k rfl (by omega) (by decide) dX5_nextCuts_25 ?_
          refine j_iconst (v := 1) dX5_nextCuts_26 (by decide) ?_
          refine j_iadd dX5_nextCuts_27 ?_
          rw [hcu k (by omega), nI_1]
          refine r_iast hR ⟨by first | assumption | exact Nat.zero_lt_one, rfl⟩ (fun _ => rfl) k rfl (by omega) (by decide) dX5_nextCuts_28 (fun h hR => ?_)
          refine j_iload_n dX5_nextCuts_29 rfl ?_
          refine j_iconst (v := 1) dX5_nextCuts_30 (by decide) ?_
          refine j_iadd dX5_nextCuts_31 ?_
          rw [nI_1]
          refine j_istore_n dX5_nextCuts_32 (Nat.le_of_ble_eq_true rfl) rfl ?_
          have k2 : ∀ nn2 i, 7 < i + nn2 → i ≤ 7 → k + 1 ≤ i → ∀ h Y, Rm ad np nb Y L h → keep1 (5, 0, 29) Z Y → (∀ x, x < i → Y (5, 0, 29) x = nI (nxt c k x)) → J (thM l G mX5_nextCuts 0 0 0 (fun r h2 => (r = some (.int 0) ∧ Rm ad np nb Z L h2 ∧ ∀ j, j ≤ 6 → sm c 8 = sm c (j + 1)) ∨ (r = some (.int 1) ∧ ∃ (k : Nat) (Y : ZT), k ≤ 6 ∧ sm c (k + 1) < sm c 8 ∧ (∀ j, k < j → j ≤ 6 → sm c 8 = sm c (j + 1)) ∧ Rm ad np nb Y L h2 ∧ keep1 (5, 0, 29) Z Y ∧ ∀ i, i < 8 → Y (5, 0, 29) i = nI (nxt c k i)))) cX5_nextCuts h (0, 0) [some (.ref (ad (5, 0, 0))), some (.int (nI (sm c 8 - sm c (k + 1)))), some (.int (nI k)), some (.int (nI i))] 33 [] := by
            intro nn2
            induction nn2 with
            | zero => intro i h1 h2; omega
            | succ nn2 ih2 =>
              intro i h1 h2 hki h Y hR hkp hx2
              refine j_iload_n dX5_nextCuts_33 rfl ?_
              refine j_bipush (v := 7) dX5_nextCuts_34 (by decide) ?_
              refine j_icmp_ge 52 dX5_nextCuts_36 (by decide) (fun c_36 => ?_) (fun c_36 => ?_)
              · have hl : 7 ≤ i := (nI_leI (a := 7) (b := i) (by omega) (by omega)).mp c_36
                obtain rfl : i = 7 := by omega
                refine j_aload_n dX5_nextCuts_52 rfl ?_
                refine gX5_71 rfl (hR.1 _ ⟨by first | assumption | exact Nat.zero_lt_one, rfl⟩) rfl dX5_nextCuts_53 ?_
                refine j_bipush (v := 7) dX5_nextCuts_56 (by decide) ?_
                refine j_iload_n dX5_nextCuts_58 rfl ?_
                refine j_iconst (v := 1) dX5_nextCuts_59 (by decide) ?_
                refine j_isub dX5_nextCuts_60 ?_
                refine r_iast hR ⟨by first | assumption | exact Nat.zero_lt_one, rfl⟩ (fun _ => rfl) 7 rfl (by omega) (by decide) dX5_nextCuts_61 (fun h hR => ?_)
                refine j_iconst (v := 1) dX5_nextCuts_62 (by decide) ?_
                refine j_zret rfl rfl (Nat.le_of_ble_eq_true rfl) (Nat.le_of_ble_eq_true rfl) dX5_nextCuts_63 ?_
                refine Or.inr ⟨rfl, k, _, by omega, by omega, hz2, hR, hkp.up _ _, fun i hi => ?_⟩
                rcases Nat.lt_or_ge i 7 with h9 | h9
                · rw [upZ_nk (Or.inr (by omega))]; exact hx2 i h9
                · obtain rfl : i = 7 := by omega
                  rw [upZ_at, nxt_end (by omega), show (1 : Int32) = nI 1 from rfl, pk_sub (by omega)]
              · have hl : i < 7 := Nat.not_le.mp (fun q => c_36 ((nI_leI (a := 7) (b := i) (by omega) (by omega)).mpr q))
                refine j_aload_n dX5_nextCuts_39 rfl ?_
                refine gX5_71 rfl (hR.1 _ ⟨by first | assumption | exact Nat.zero_lt_one, rfl⟩) rfl dX5_nextCuts_40 ?_
                refine j_iload_n dX5_nextCuts_43 rfl ?_
                refine j_iconst (v := 0) dX5_nextCuts_44 (by decide) ?_
                refine r_iast hR ⟨by first | assumption | exact Nat.zero_lt_one, rfl⟩ (fun _ => rfl) i rfl (by omega) (by decide) dX5_nextCuts_45 (fun h hR => ?_)
                refine j_iinc dX5_nextCuts_46 rfl (nI_inc _) (Nat.le_of_ble_eq_true rfl) rfl ?_
                refine j_goto 33 dX5_nextCuts_49 (by decide) ?_
                exact ih2 (i + 1) (by omega) (by omega) (by omega) _ _ hR (hkp.up _ _) (fun x hx => by
                  rcases Nat.lt_or_ge x i with h9 | h9
                  · rw [upZ_nk (Or.inr (by omega))]; exact hx2 x h9
                  · obtain rfl : x = i := by omega
                    rw [upZ_at, nxt_mid (by omega) hl]
                    rfl)
          exact k2 9 (k + 1) (by omega) (by omega) (Nat.le_refl _) _ _ hR (keep1.rf.up _ _) (fun x hx => by
            rcases Nat.lt_or_ge x k with h9 | h9
            · rw [upZ_nk (Or.inr (by omega)), nxt_lo h9]; exact hcu x (by omega)
            · obtain rfl : x = k := by omega
              rw [upZ_at, nxt_at])
  refine Con.of 3 rfl (Nat.le_of_ble_eq_true rfl) ?_
  refine j_aload_n dX5_nextCuts_0 rfl ?_
  refine gX5_71 rfl (hR.1 _ ⟨by first | assumption | exact Nat.zero_lt_one, rfl⟩) rfl dX5_nextCuts_1 ?_
  refine j_bipush (v := 7) dX5_nextCuts_4 (by decide) ?_
  refine j_iald (hR.1 _ ⟨by first | assumption | exact Nat.zero_lt_one, rfl⟩) 7 rfl (by omega) (by decide) dX5_nextCuts_6 ?_
  rw [hcu 7 (by omega)]
  refine j_istore_n dX5_nextCuts_7 (Nat.le_of_ble_eq_true rfl) rfl ?_
  refine j_bipush (v := 6) dX5_nextCuts_8 (by decide) ?_
  refine j_istore_n dX5_nextCuts_10 (Nat.le_of_ble_eq_true rfl) rfl ?_
  have k7 := key 7 (by omega) (fun j h1 h2 => by omega)
  rw [show sm c 8 - sm c 7 = c 7 by simp only [sm]; omega] at k7
  exact k7
end
section
def seekPost (Z : ZT) (b : Nat) (v : Int32) (Y : ZT) : Prop := (v = -1 ∧ ∀ c, sm c 8 ≤ 12 → mTun Z b c = false) ∨ ∃ (n : Nat) (c : Nat → Nat), n ≤ 12 ∧ v = nI n ∧ (∀ i, i < 8 → Y (5, 0, 29) i = nI (c i)) ∧ First (mTun Z b) n c
theorem p13 : (13 : Nat) ^ 8 = 815730721 := by decide
set_option maxRecDepth 100000 in
set_option maxHeartbeats 4000000 in
theorem c_X5_seeks (l : Launch) (G : GG) {ad : NM → Nat} {np nb : Nat} {Z : ZT} {L : LT} {h : AH} (hR : Rm ad np nb Z L h) {b : Nat} (hb : b < 24) : Con l G mX5_seeks 2 0 0 [.ref (ad (5, 0, 0)), .int (nI b)] h (fun r h2 => ∃ (v : Int32) (Y : ZT), r = some (.int v) ∧ Rm ad np nb Y L h2 ∧ keep1 (5, 0, 29) Z Y ∧ seekPost Z b v Y) := by
  have k1 : ∀ nn n, 13 < n + nn → n ≤ 13 → ∀ h Y, Rm ad np nb Y L h → keep1 (5, 0, 29) Z Y → (∀ c', sm c' 8 < n → mTun Z b c' = false) → J (thM l G mX5_seeks 2 0 0 (fun r h2 => ∃ (v : Int32) (Y : ZT), r = some (.int v) ∧ Rm ad np nb Y L h2 ∧ keep1 (5, 0, 29) Z Y ∧ seekPost Z b v Y)) cX5_seeks h (0, 0) [some (.ref (ad (5, 0, 0))), some (.int (nI b)), some (.int (nI n)), none] 2 [] := by
    intro nn
    induction nn with
    | zero => intro n h1 h2; omega
    | succ nn ih =>
      intro n h1 h2 h Y hR hkp hlo
      refine j_iload_n dX5_seeks_2 rfl ?_
      refine j_bipush (v := 12) dX5_seeks_3 (by decide) ?_
      refine j_icmp_gt 67 dX5_seeks_5 (by decide) (fun c_5 => ?_) (fun c_5 => ?_)
      · have hn12 : 12 < n := (nI_ltI (a := 12) (b := n) (by omega) (by omega)).mp c_5
        refine j_iconst (v := (-1)) dX5_seeks_67 (by decide) ?_
        refine j_iret rfl (Nat.le_of_ble_eq_true rfl) (Nat.le_of_ble_eq_true rfl) dX5_seeks_68 ?_
        exact ⟨_, _, rfl, hR, hkp, Or.inl ⟨rfl, fun c hc => hlo c (by omega)⟩⟩
      · have hn12 : n ≤ 12 := Nat.not_lt.mp (fun q => c_5 ((nI_ltI (a := 12) (b := n) (by omega) (by omega)).mpr q))
        refine j_iconst (v := 0) dX5_seeks_8 (by decide) ?_
        refine j_istore_n dX5_seeks_9 (Nat.le_of_ble_eq_true rfl) rfl ?_
        have k3 : ∀ nn3 (c : Nat → Nat), 815730721 ≤ vl c 8 + nn3 → ∀ h Y, Rm ad np nb Y L h → keep1 (5, 0, 29) Z Y → (∀ i, i < 8 → Y (5, 0, 29) i = nI (c i)) → sm c 8 = n → (∀ c', sm c' 8 = n → lexlt 8 c' c → mTun Z b c' = false) → J (thM l G mX5_seeks 2 0 0 (fun r h2 => ∃ (v : Int32) (Y : ZT), r = some (.int v) ∧ Rm ad np nb Y L h2 ∧ keep1 (5, 0, 29) Z Y ∧ seekPost Z b v Y)) cX5_seeks h (0, 0) [some (.ref (ad (5, 0, 0))), some (.int (nI b)), some (.int (nI n)), some (.int 1)] 39 [] := by
          intro nn3
          induction nn3 with
          | zero =>
            intro c hv h Y hR hkp hcu hsm hbe
            have := vl_bd (c := c) (n := 8) (fun i hi => by have := sm_le (c := c) hi; omega)
            rw [p13] at this
            omega
          | succ nn3 ih3 =>
            intro c hv h Y hR hkp hcu hsm hbe
            refine j_iload_n dX5_seeks_39 rfl ?_
            refine j_if_eq 61 dX5_seeks_40 (by decide) (fun c_40 => ?_) (fun c_40 => ?_)
            · exact absurd c_40 (by decide)
            · refine j_aload_n dX5_seeks_43 rfl ?_
              refine j_iload_n dX5_seeks_44 rfl ?_
              refine j_callV (rest := []) (c_X5_isTuned l G hR hb hcu) (hR.1 _ ⟨by first | assumption | exact Nat.zero_lt_one, rfl⟩) rfl cw_X5_isTuned wl_X5_127 wm_X5_isTuned wx_X5_isTuned rfl rfl (Nat.le_of_ble_eq_true rfl) (Nat.le_of_ble_eq_true rfl) (Nat.le_of_ble_eq_true rfl) (Nat.le_of_ble_eq_true rfl) (Nat.le_of_ble_eq_true rfl) dX5_seeks_45 (fun v_45 h_45 e_45 => ?_)
              obtain ⟨rfl, hh⟩ := e_45
              have hh := hh.symm
              subst hh
              rw [mTun_keep hkp b]
              refine j_if_eq 53 dX5_seeks_48 (by decide) (fun c_48 => ?_) (fun c_48 => ?_)
              · have g_48 := (bi_eq0 _).mp c_48
                refine j_aload_n dX5_seeks_53 rfl ?_
                refine j_callV (rest := []) (c_X5_nextCuts l G hR hcu (by omega)) (hR.1 _ ⟨by first | assumption | exact Nat.zero_lt_one, rfl⟩) rfl cw_X5_nextCuts wl_X5_130 wm_X5_nextCuts wx_X5_nextCuts rfl rfl (Nat.le_of_ble_eq_true rfl) (Nat.le_of_ble_eq_true rfl) (Nat.le_of_ble_eq_true rfl) (Nat.le_of_ble_eq_true rfl) (Nat.le_of_ble_eq_true rfl) dX5_seeks_54 (fun v_54 h_54 e_54 => ?_)
                rcases e_54 with ⟨rfl, hR, hall⟩ | ⟨rfl, k, Y2, hk6, hklt, hkz, hR, hkp2, hcu2⟩
                · have hnone : ∀ c', sm c' 8 = n → mTun Z b c' = false := fun c' hc' => by
                    rcases lex_tri 8 c c' with h9 | h9 | h9
                    · exact absurd h9 (nxt_none hall (by omega))
                    · unfold mTun at g_48 ⊢
                      rw [← tunC_congr h9]
                      exact g_48
                    · exact hbe c' hc' h9
                  refine j_istore_n dX5_seeks_57 (Nat.le_of_ble_eq_true rfl) rfl ?_
                  refine j_goto 39 dX5_seeks_58 (by decide) ?_
                  refine j_iload_n dX5_seeks_39 rfl ?_
                  refine j_if_eq 61 dX5_seeks_40 (by decide) (fun c_40 => ?_) (fun c_40 => absurd rfl c_40)
                  refine j_iinc dX5_seeks_61 rfl (nI_inc _) (Nat.le_of_ble_eq_true rfl) rfl ?_
                  refine j_goto 2 dX5_seeks_64 (by decide) ?_
                  refine J.drop 3 ?_
                  exact ih (n + 1) (by omega) (by omega) _ _ hR hkp (fun c' hc' => by
                    rcases Nat.lt_or_ge (sm c' 8) n with h9 | h9
                    · exact hlo c' h9
                    · exact hnone c' (by omega))
                · refine j_istore_n dX5_seeks_57 (Nat.le_of_ble_eq_true rfl) rfl ?_
                  refine j_goto 39 dX5_seeks_58 (by decide) ?_
                  have hgt := nxt_gt (c := c) hk6
                  have hvl := vl_lt hgt (fun i hi => by have := sm_le (c := c) hi; omega)
                  refine ih3 (nxt c k) (by omega) _ _ hR (hkp.tr hkp2) hcu2 (by rw [nxt_sm hk6 hklt]; exact hsm) (fun c' hc' hx => ?_)
                  rcases lex_tri 8 c c' with h9 | h9 | h9
                  · exact absurd hx (nxt_between hk6 hkz (by omega) h9)
                  · unfold mTun at g_48 ⊢
                    rw [← tunC_congr h9]
                    exact g_48
                  · exact hbe c' hc' h9
              · have g_48 := (bi_ne0 _).mp c_48
                refine j_iload_n dX5_seeks_51 rfl ?_
                refine j_iret rfl (Nat.le_of_ble_eq_true rfl) (Nat.le_of_ble_eq_true rfl) dX5_seeks_52 ?_
                exact ⟨_, _, rfl, hR, hkp, Or.inr ⟨n, c, by omega, rfl, hcu, hsm, g_48, hlo, hbe⟩⟩
        have k2 : ∀ nn2 i, 7 < i + nn2 → i ≤ 7 → ∀ h Y, Rm ad np nb Y L h → keep1 (5, 0, 29) Z Y → (∀ x, x < i → Y (5, 0, 29) x = nI 0) → J (thM l G mX5_seeks 2 0 0 (fun r h2 => ∃ (v : Int32) (Y : ZT), r = some (.int v) ∧ Rm ad np nb Y L h2 ∧ keep1 (5, 0, 29) Z Y ∧ seekPost Z b v Y)) cX5_seeks h (0, 0) [some (.ref (ad (5, 0, 0))), some (.int (nI b)), some (.int (nI n)), some (.int (nI i))] 10 [] := by
          intro nn2
          induction nn2 with
          | zero => intro i h1 h2; omega
          | succ nn2 ih2 =>
            intro i h1 h2 h Y hR hkp hzx
            refine j_iload_n dX5_seeks_10 rfl ?_
            refine j_bipush (v := 7) dX5_seeks_11 (by decide) ?_
            refine j_icmp_ge 29 dX5_seeks_13 (by decide) (fun c_13 => ?_) (fun c_13 => ?_)
            · have hl : 7 ≤ i := (nI_leI (a := 7) (b := i) (by omega) (by omega)).mp c_13
              obtain rfl : i = 7 := by omega
              refine j_aload_n dX5_seeks_29 rfl ?_
              refine gX5_71 rfl (hR.1 _ ⟨by first | assumption | exact Nat.zero_lt_one, rfl⟩) rfl dX5_seeks_30 ?_
              refine j_bipush (v := 7) dX5_seeks_33 (by decide) ?_
              refine j_iload_n dX5_seeks_35 rfl ?_
              refine r_iast hR ⟨by first | assumption | exact Nat.zero_lt_one, rfl⟩ (fun _ => rfl) 7 rfl (by omega) (by decide) dX5_seeks_36 (fun h hR => ?_)
              refine j_iconst (v := 1) dX5_seeks_37 (by decide) ?_
              refine j_istore_n dX5_seeks_38 (Nat.le_of_ble_eq_true rfl) rfl ?_
              exact k3 815730721 (c0f n) (by omega) _ _ hR (hkp.up _ _) (fun x hx => by
                rcases Nat.lt_or_ge x 7 with h9 | h9
                · rw [upZ_nk (Or.inr (by omega)), hzx x h9, c0f, if_neg (by omega)]
                · obtain rfl : x = 7 := by omega
                  rw [upZ_at, c0f, if_pos rfl]) (c0f_sm n) (fun c' hc' hx => absurd hx (c0f_first hc'))
            · have hl : i < 7 := Nat.not_le.mp (fun q => c_13 ((nI_leI (a := 7) (b := i) (by omega) (by omega)).mpr q))
              refine j_aload_n dX5_seeks_16 rfl ?_
              refine gX5_71 rfl (hR.1 _ ⟨by first | assumption | exact Nat.zero_lt_one, rfl⟩) rfl dX5_seeks_17 ?_
              refine j_iload_n dX5_seeks_20 rfl ?_
              refine j_iconst (v := 0) dX5_seeks_21 (by decide) ?_
              refine r_iast hR ⟨by first | assumption | exact Nat.zero_lt_one, rfl⟩ (fun _ => rfl) i rfl (by omega) (by decide) dX5_seeks_22 (fun h hR => ?_)
              refine j_iinc dX5_seeks_23 rfl (nI_inc _) (Nat.le_of_ble_eq_true rfl) rfl ?_
              refine j_goto 10 dX5_seeks_26 (by decide) ?_
              exact ih2 (i + 1) (by omega) (by omega) _ _ hR (hkp.up _ _) (fun x hx => by
                rcases Nat.lt_or_ge x i with h9 | h9
                · rw [upZ_nk (Or.inr (by omega))]; exact hzx x h9
                · obtain rfl : x = i := by omega
                  rw [upZ_at]
                  rfl)
        exact k2 8 0 (by omega) (by omega) _ _ hR hkp (fun x hx => absurd hx (by omega))
  refine Con.of 2 rfl (Nat.le_of_ble_eq_true rfl) ?_
  refine j_iconst (v := 0) dX5_seeks_0 (by decide) ?_
  refine j_istore_n dX5_seeks_1 (Nat.le_of_ble_eq_true rfl) rfl ?_
  exact k1 14 0 (by omega) (by omega) _ _ hR keep1.rf (fun c' hc' => absurd hc' (by omega))

def tuningPost (Z : ZT) (v : Int32) (r : Int32) (Y : ZT) : Prop := (mCan Z v = false ∧ r = -1 ∧ Y = Z) ∨ (mCan Z v = true ∧ seekPost Z (cl v) r Y)
set_option maxRecDepth 100000 in
set_option maxHeartbeats 4000000 in
theorem c_X5_tuning (l : Launch) (G : GG) {ad : NM → Nat} {np nb : Nat} {Z : ZT} {L : LT} {h : AH} (hR : Rm ad np nb Z L h) {mb : Nat} (hmb : Z (5, 0, 0) 7 = nI mb) (hm : mb ≤ 24) {v : Int32} : Con l G mX5_tuning 3 0 0 [.ref (ad (5, 0, 0)), .int v] h (fun r h2 => ∃ (x : Int32) (Y : ZT), r = some (.int x) ∧ Rm ad np nb Y L h2 ∧ keep1 (5, 0, 29) Z Y ∧ tuningPost Z v x Y) := by
  refine Con.of 0 rfl (Nat.le_of_ble_eq_true rfl) ?_
  refine j_aload_n dX5_tuning_0 rfl ?_
  refine j_iload_n dX5_tuning_1 rfl ?_
  refine j_callV (rest := []) (c_X5_canCut l G hR hmb hm) (hR.1 _ ⟨by first | assumption | exact Nat.zero_lt_one, rfl⟩) rfl cw_X5_canCut wl_X5_112 wm_X5_canCut wx_X5_canCut rfl rfl (Nat.le_of_ble_eq_true rfl) (Nat.le_of_ble_eq_true rfl) (Nat.le_of_ble_eq_true rfl) (Nat.le_of_ble_eq_true rfl) (Nat.le_of_ble_eq_true rfl) dX5_tuning_2 (fun v_2 h_2 e_2 => ?_)
  obtain ⟨rfl, hh⟩ := e_2
  have hh := hh.symm
  subst hh
  refine j_if_eq 16 dX5_tuning_5 (by decide) (fun c_5 => ?_) (fun c_5 => ?_)
  · have g_5 := (bi_eq0 _).mp c_5
    have hfin : ∃ (x : Int32) (Y : ZT), some (Value.int (-1)) = some (.int x) ∧ Rm ad np nb Y L h ∧ keep1 (5, 0, 29) Z Y ∧ tuningPost Z v x Y := ⟨_, _, rfl, hR, keep1.rf, Or.inl ⟨g_5, rfl, rfl⟩⟩
    refine j_iconst (v := (-1)) dX5_tuning_16 (by decide) ?_
    refine j_iret rfl (Nat.le_of_ble_eq_true rfl) (Nat.le_of_ble_eq_true rfl) dX5_tuning_17 ?_
    exact hfin
  · have g_5 := (bi_ne0 _).mp c_5
    obtain ⟨j, hj, rfl, hcl⟩ := mCan_lt hmb hm g_5
    refine j_aload_n dX5_tuning_8 rfl ?_
    refine j_iload_n dX5_tuning_9 rfl ?_
    refine j_callV (rest := []) (c_X5_seeks l G hR (by omega)) (hR.1 _ ⟨by first | assumption | exact Nat.zero_lt_one, rfl⟩) rfl cw_X5_seeks wl_X5_134 wm_X5_seeks wx_X5_seeks rfl rfl (Nat.le_of_ble_eq_true rfl) (Nat.le_of_ble_eq_true rfl) (Nat.le_of_ble_eq_true rfl) (Nat.le_of_ble_eq_true rfl) (Nat.le_of_ble_eq_true rfl) dX5_tuning_10 (fun v_10 h_10 e_10 => ?_)
    obtain ⟨x, Y, rfl, hR, hkp, hsp⟩ := e_10
    have hfin : ∃ (y : Int32) (Y : ZT), some (Value.int x) = some (.int y) ∧ Rm ad np nb Y L h_10 ∧ keep1 (5, 0, 29) Z Y ∧ tuningPost Z (nI j) y Y := ⟨_, _, rfl, hR, hkp, Or.inr ⟨g_5, by rw [hcl]; exact hsp⟩⟩
    refine j_goto 17 dX5_tuning_13 (by decide) ?_
    refine j_iret rfl (Nat.le_of_ble_eq_true rfl) (Nat.le_of_ble_eq_true rfl) dX5_tuning_17 ?_
    exact hfin
end
