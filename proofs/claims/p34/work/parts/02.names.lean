/-! ===== BEGIN printed: names, fields, word lists, decode rows ===== -/
def RX0 : String := "RuleCrypts$Change"
def TX0 : u_T := fun k => match k with
  | 0 => ("RuleCrypts$Change", "rule", "I", true)
  | 1 => ("RuleCrypts$Change", "sets", "Z", true)
  | _ => ("RuleCrypts$Change", "number", "I", true)
def tyX0 : Nat → FieldType := fun k => match k with
  | 0 => .int
  | 1 => .boolean
  | _ => .int
abbrev wsX00 : List Cond := u_ws RX0 TX0 3
theorem nmX0 : ∀ a, a < 3 → ∀ b, b < 3 → a ≠ b → (TX0 a).2.1 ≠ (TX0 b).2.1 := by decide +kernel
theorem tyX0_ok : ∀ k, k < 3 → parseFieldDescriptor (TX0 k).2.2.1 = some (tyX0 k) := by decide +kernel
abbrev cX0_init : ByteArray := prog_2_method_1_code
def yX0_init : MethodName := ⟨RX0, "<init>", "(IZI)V"⟩
abbrev cX0_applyTo : ByteArray := prog_2_method_2_code
def yX0_applyTo : MethodName := ⟨RX0, "applyTo", "([I)V"⟩
def RX1 : String := "RuleCrypts$Draws"
def TX1 : u_T := fun k => match k with
  | _ => ("RuleCrypts$Draws", "x", "I", false)
def tyX1 : Nat → FieldType := fun k => match k with
  | _ => .int
abbrev wsX10 : List Cond := u_ws RX1 TX1 1
theorem nmX1 : ∀ a, a < 1 → ∀ b, b < 1 → a ≠ b → (TX1 a).2.1 ≠ (TX1 b).2.1 := by decide +kernel
theorem tyX1_ok : ∀ k, k < 1 → parseFieldDescriptor (TX1 k).2.2.1 = some (tyX1 k) := by decide +kernel
abbrev cX1_init : ByteArray := prog_3_method_1_code
def yX1_init : MethodName := ⟨RX1, "<init>", "(I)V"⟩
abbrev cX1_next : ByteArray := prog_3_method_2_code
def yX1_next : MethodName := ⟨RX1, "next", "()I"⟩
def RX2 : String := "RuleCrypts$Dungeon"
def TX2 : u_T := fun k => match k with
  | 0 => ("RuleCrypts$Dungeon", "number", "I", true)
  | 1 => ("RuleCrypts$Dungeon", "seed", "I", true)
  | 2 => ("RuleCrypts$Dungeon", "rules", "[I", true)
  | _ => ("RuleCrypts$Dungeon", "floors", "[LRuleCrypts$Floor;", true)
def tyX2 : Nat → FieldType := fun k => match k with
  | 0 => .int
  | 1 => .int
  | 2 => .array .int
  | _ => .array (.object "RuleCrypts$Floor")
abbrev wsX20 : List Cond := u_ws RX2 TX2 4
theorem nmX2 : ∀ a, a < 4 → ∀ b, b < 4 → a ≠ b → (TX2 a).2.1 ≠ (TX2 b).2.1 := by decide +kernel
theorem tyX2_ok : ∀ k, k < 4 → parseFieldDescriptor (TX2 k).2.2.1 = some (tyX2 k) := by decide +kernel
abbrev cX2_init : ByteArray := prog_4_method_1_code
def yX2_init : MethodName := ⟨RX2, "<init>", "(II[I)V"⟩
abbrev cX2_grow : ByteArray := prog_4_method_2_code
def yX2_grow : MethodName := ⟨RX2, "grow", "()V"⟩
abbrev cX2_isBy : ByteArray := prog_4_method_3_code
def yX2_isBy : MethodName := ⟨RX2, "isBy", "(I[I)Z"⟩
abbrev cX2_rule : ByteArray := prog_4_method_4_code
def yX2_rule : MethodName := ⟨RX2, "rule", "(I)I"⟩
abbrev cX2_floorAt : ByteArray := prog_4_method_5_code
def yX2_floorAt : MethodName := ⟨RX2, "floorAt", "(I)LRuleCrypts$Floor;"⟩
def RX3 : String := "RuleCrypts$Floor"
def TX3 : u_T := fun k => match k with
  | 0 => ("RuleCrypts$Floor", "entry", "I", true)
  | 1 => ("RuleCrypts$Floor", "stairsRoom", "I", false)
  | 2 => ("RuleCrypts$Floor", "doors", "[I", true)
  | 3 => ("RuleCrypts$Floor", "monsters", "[I", true)
  | 4 => ("RuleCrypts$Floor", "treasures", "I", false)
  | 5 => ("RuleCrypts$Floor", "distances", "[I", true)
  | _ => ("RuleCrypts$Floor", "distancesByDoors", "[I", true)
def tyX3 : Nat → FieldType := fun k => match k with
  | 0 => .int
  | 1 => .int
  | 2 => .array .int
  | 3 => .array .int
  | 4 => .int
  | 5 => .array .int
  | _ => .array .int
abbrev wsX30 : List Cond := u_ws RX3 TX3 7
theorem nmX3 : ∀ a, a < 7 → ∀ b, b < 7 → a ≠ b → (TX3 a).2.1 ≠ (TX3 b).2.1 := by decide +kernel
theorem tyX3_ok : ∀ k, k < 7 → parseFieldDescriptor (TX3 k).2.2.1 = some (tyX3 k) := by decide +kernel
abbrev cX3_init : ByteArray := prog_5_method_1_code
def yX3_init : MethodName := ⟨RX3, "<init>", "(I)V"⟩
abbrev cX3_grow : ByteArray := prog_5_method_2_code
def yX3_grow : MethodName := ⟨RX3, "grow", "(LRuleCrypts$Draws;LRuleCrypts$Dungeon;)V"⟩
abbrev cX3_behindDoor : ByteArray := prog_5_method_3_code
def yX3_behindDoor : MethodName := ⟨RX3, "behindDoor", "(II)I"⟩
abbrev cX3_measureByDoors : ByteArray := prog_5_method_4_code
def yX3_measureByDoors : MethodName := ⟨RX3, "measureByDoors", "()V"⟩
abbrev cX3_bringNearer : ByteArray := prog_5_method_5_code
def yX3_bringNearer : MethodName := ⟨RX3, "bringNearer", "(II)Z"⟩
abbrev cX3_growWays : ByteArray := prog_5_method_6_code
def yX3_growWays : MethodName := ⟨RX3, "growWays", "(LRuleCrypts$Draws;)V"⟩
abbrev cX3_directionToNew : ByteArray := prog_5_method_7_code
def yX3_directionToNew : MethodName := ⟨RX3, "directionToNew", "(III)I"⟩
abbrev cX3_openDoor : ByteArray := prog_5_method_8_code
def yX3_openDoor : MethodName := ⟨RX3, "openDoor", "(II)V"⟩
abbrev cX3_growLoops : ByteArray := prog_5_method_9_code
def yX3_growLoops : MethodName := ⟨RX3, "growLoops", "(LRuleCrypts$Draws;I)V"⟩
abbrev cX3_growMonsters : ByteArray := prog_5_method_10_code
def yX3_growMonsters : MethodName := ⟨RX3, "growMonsters", "(LRuleCrypts$Draws;II)V"⟩
abbrev cX3_growTreasures : ByteArray := prog_5_method_11_code
def yX3_growTreasures : MethodName := ⟨RX3, "growTreasures", "(LRuleCrypts$Draws;I)V"⟩
abbrev cX3_measureBySearch : ByteArray := prog_5_method_12_code
def yX3_measureBySearch : MethodName := ⟨RX3, "measureBySearch", "()V"⟩
abbrev cX3_farthestRoom : ByteArray := prog_5_method_13_code
def yX3_farthestRoom : MethodName := ⟨RX3, "farthestRoom", "()I"⟩
def RX4 : String := "RuleCrypts$Pack"
def TX4 : u_T := fun k => match k with
  | 0 => ("RuleCrypts$Pack", "made", "[LRuleCrypts$Change;", true)
  | 1 => ("RuleCrypts$Pack", "changeCount", "I", false)
  | _ => ("RuleCrypts$Pack", "needs", "I", false)
def tyX4 : Nat → FieldType := fun k => match k with
  | 0 => .array (.object "RuleCrypts$Change")
  | 1 => .int
  | _ => .int
abbrev wsX40 : List Cond := u_ws RX4 TX4 3
theorem nmX4 : ∀ a, a < 3 → ∀ b, b < 3 → a ≠ b → (TX4 a).2.1 ≠ (TX4 b).2.1 := by decide +kernel
theorem tyX4_ok : ∀ k, k < 3 → parseFieldDescriptor (TX4 k).2.2.1 = some (tyX4 k) := by decide +kernel
abbrev cX4_init : ByteArray := prog_6_method_1_code
def yX4_init : MethodName := ⟨RX4, "<init>", "()V"⟩
abbrev cX4_addChange : ByteArray := prog_6_method_2_code
def yX4_addChange : MethodName := ⟨RX4, "addChange", "(IZI)Z"⟩
abbrev cX4_applyTo : ByteArray := prog_6_method_3_code
def yX4_applyTo : MethodName := ⟨RX4, "applyTo", "([I)V"⟩
def RX5 : String := "RuleCrypts$PackBook"
def TX5 : u_T := fun k => match k with
  | 0 => ("RuleCrypts$PackBook", "made", "[LRuleCrypts$Pack;", true)
  | 1 => ("RuleCrypts$PackBook", "count", "I", false)
  | 2 => ("RuleCrypts$PackBook", "order", "[I", true)
  | 3 => ("RuleCrypts$PackBook", "orderLength", "I", false)
  | _ => ("RuleCrypts$PackBook", "rules", "[I", true)
def tyX5 : Nat → FieldType := fun k => match k with
  | 0 => .array (.object "RuleCrypts$Pack")
  | 1 => .int
  | 2 => .array .int
  | 3 => .int
  | _ => .array .int
abbrev wsX50 : List Cond := u_ws RX5 TX5 5
theorem nmX5 : ∀ a, a < 5 → ∀ b, b < 5 → a ≠ b → (TX5 a).2.1 ≠ (TX5 b).2.1 := by decide +kernel
theorem tyX5_ok : ∀ k, k < 5 → parseFieldDescriptor (TX5 k).2.2.1 = some (tyX5 k) := by decide +kernel
abbrev cX5_init : ByteArray := prog_7_method_1_code
def yX5_init : MethodName := ⟨RX5, "<init>", "()V"⟩
abbrev cX5_addPack : ByteArray := prog_7_method_2_code
def yX5_addPack : MethodName := ⟨RX5, "addPack", "()Z"⟩
abbrev cX5_packAt : ByteArray := prog_7_method_3_code
def yX5_packAt : MethodName := ⟨RX5, "packAt", "(I)LRuleCrypts$Pack;"⟩
abbrev cX5_hasAll : ByteArray := prog_7_method_4_code
def yX5_hasAll : MethodName := ⟨RX5, "hasAll", "(I)Z"⟩
abbrev cX5_putInOrder : ByteArray := prog_7_method_5_code
def yX5_putInOrder : MethodName := ⟨RX5, "putInOrder", "(I)Z"⟩
abbrev cX5_packInPlace : ByteArray := prog_7_method_6_code
def yX5_packInPlace : MethodName := ⟨RX5, "packInPlace", "(I)I"⟩
abbrev cX5_makeRules : ByteArray := prog_7_method_7_code
def yX5_makeRules : MethodName := ⟨RX5, "makeRules", "()V"⟩
abbrev cX5_lowestReady : ByteArray := prog_7_method_8_code
def yX5_lowestReady : MethodName := ⟨RX5, "lowestReady", "(II)I"⟩
def RX6 : String := "RuleCrypts$Replay"
def TX6 : u_T := fun k => match k with
  | 0 => ("RuleCrypts$Replay", "monsters", "[I", true)
  | 1 => ("RuleCrypts$Replay", "treasures", "I", false)
  | 2 => ("RuleCrypts$Replay", "floor", "LRuleCrypts$Floor;", false)
  | 3 => ("RuleCrypts$Replay", "depth", "I", false)
  | 4 => ("RuleCrypts$Replay", "room", "I", false)
  | 5 => ("RuleCrypts$Replay", "health", "I", false)
  | 6 => ("RuleCrypts$Replay", "score", "I", false)
  | 7 => ("RuleCrypts$Replay", "end", "I", false)
  | _ => ("RuleCrypts$Replay", "turns", "I", false)
def tyX6 : Nat → FieldType := fun k => match k with
  | 0 => .array .int
  | 1 => .int
  | 2 => .object "RuleCrypts$Floor"
  | 3 => .int
  | 4 => .int
  | 5 => .int
  | 6 => .int
  | 7 => .int
  | _ => .int
abbrev wsX60 : List Cond := u_ws RX6 TX6 9
theorem nmX6 : ∀ a, a < 9 → ∀ b, b < 9 → a ≠ b → (TX6 a).2.1 ≠ (TX6 b).2.1 := by decide +kernel
theorem tyX6_ok : ∀ k, k < 9 → parseFieldDescriptor (TX6 k).2.2.1 = some (tyX6 k) := by decide +kernel
abbrev cX6_init : ByteArray := prog_8_method_1_code
def yX6_init : MethodName := ⟨RX6, "<init>", "()V"⟩
abbrev cX6_play : ByteArray := prog_8_method_2_code
def yX6_play : MethodName := ⟨RX6, "play", "(LRuleCrypts$Run;)V"⟩
abbrev cX6_verdictOn : ByteArray := prog_8_method_3_code
def yX6_verdictOn : MethodName := ⟨RX6, "verdictOn", "(LRuleCrypts$Run;)I"⟩
abbrev cX6_take : ByteArray := prog_8_method_4_code
def yX6_take : MethodName := ⟨RX6, "take", "(ILRuleCrypts$Dungeon;)Z"⟩
abbrev cX6_go : ByteArray := prog_8_method_5_code
def yX6_go : MethodName := ⟨RX6, "go", "(I)Z"⟩
abbrev cX6_fight : ByteArray := prog_8_method_6_code
def yX6_fight : MethodName := ⟨RX6, "fight", "(I)V"⟩
abbrev cX6_takeTreasure : ByteArray := prog_8_method_7_code
def yX6_takeTreasure : MethodName := ⟨RX6, "takeTreasure", "()V"⟩
abbrev cX6_goDown : ByteArray := prog_8_method_8_code
def yX6_goDown : MethodName := ⟨RX6, "goDown", "(LRuleCrypts$Dungeon;)Z"⟩
abbrev cX6_enter : ByteArray := prog_8_method_9_code
def yX6_enter : MethodName := ⟨RX6, "enter", "(LRuleCrypts$Dungeon;I)V"⟩
def RX7 : String := "RuleCrypts$Run"
def TX7 : u_T := fun k => match k with
  | 0 => ("RuleCrypts$Run", "number", "I", true)
  | 1 => ("RuleCrypts$Run", "player", "I", true)
  | 2 => ("RuleCrypts$Run", "claim", "I", true)
  | 3 => ("RuleCrypts$Run", "dungeon", "LRuleCrypts$Dungeon;", true)
  | 4 => ("RuleCrypts$Run", "keys", "[I", true)
  | _ => ("RuleCrypts$Run", "verdictGiven", "I", false)
def tyX7 : Nat → FieldType := fun k => match k with
  | 0 => .int
  | 1 => .int
  | 2 => .int
  | 3 => .object "RuleCrypts$Dungeon"
  | 4 => .array .int
  | _ => .int
abbrev wsX70 : List Cond := u_ws RX7 TX7 6
theorem nmX7 : ∀ a, a < 6 → ∀ b, b < 6 → a ≠ b → (TX7 a).2.1 ≠ (TX7 b).2.1 := by decide +kernel
theorem tyX7_ok : ∀ k, k < 6 → parseFieldDescriptor (TX7 k).2.2.1 = some (tyX7 k) := by decide +kernel
abbrev cX7_init : ByteArray := prog_9_method_1_code
def yX7_init : MethodName := ⟨RX7, "<init>", "(IIILRuleCrypts$Dungeon;[I)V"⟩
abbrev cX7_isRanked : ByteArray := prog_9_method_2_code
def yX7_isRanked : MethodName := ⟨RX7, "isRanked", "()Z"⟩
abbrev cX7_isRankedIn : ByteArray := prog_9_method_3_code
def yX7_isRankedIn : MethodName := ⟨RX7, "isRankedIn", "(I)Z"⟩
abbrev cX7_isAheadOf : ByteArray := prog_9_method_4_code
def yX7_isAheadOf : MethodName := ⟨RX7, "isAheadOf", "(LRuleCrypts$Run;)Z"⟩
def RX8 : String := "RuleCrypts"
def TX8 : u_T := fun k => match k with
  | 0 => ("RuleCrypts", "book", "LRuleCrypts$PackBook;", true)
  | 1 => ("RuleCrypts", "dayCount", "I", false)
  | 2 => ("RuleCrypts", "seedToday", "I", false)
  | 3 => ("RuleCrypts", "packsToday", "I", false)
  | 4 => ("RuleCrypts", "draft", "[I", true)
  | 5 => ("RuleCrypts", "draftLength", "I", false)
  | 6 => ("RuleCrypts", "had", "[LRuleCrypts$Dungeon;", true)
  | 7 => ("RuleCrypts", "hadCount", "I", false)
  | 8 => ("RuleCrypts", "handedIn", "[LRuleCrypts$Run;", true)
  | 9 => ("RuleCrypts", "runCount", "I", false)
  | _ => ("RuleCrypts", "replay", "LRuleCrypts$Replay;", true)
def tyX8 : Nat → FieldType := fun k => match k with
  | 0 => .object "RuleCrypts$PackBook"
  | 1 => .int
  | 2 => .int
  | 3 => .int
  | 4 => .array .int
  | 5 => .int
  | 6 => .array (.object "RuleCrypts$Dungeon")
  | 7 => .int
  | 8 => .array (.object "RuleCrypts$Run")
  | 9 => .int
  | _ => .object "RuleCrypts$Replay"
abbrev wsX80 : List Cond := u_ws RX8 TX8 11
theorem nmX8 : ∀ a, a < 11 → ∀ b, b < 11 → a ≠ b → (TX8 a).2.1 ≠ (TX8 b).2.1 := by decide +kernel
theorem tyX8_ok : ∀ k, k < 11 → parseFieldDescriptor (TX8 k).2.2.1 = some (tyX8 k) := by decide +kernel
abbrev cX8_init : ByteArray := prog_1_method_1_code
def yX8_init : MethodName := ⟨RX8, "<init>", "()V"⟩
abbrev cX8_pack : ByteArray := prog_1_method_2_code
def yX8_pack : MethodName := ⟨RX8, "pack", "()I"⟩
abbrev cX8_change : ByteArray := prog_1_method_3_code
def yX8_change : MethodName := ⟨RX8, "change", "(IIZI)I"⟩
abbrev cX8_mend : ByteArray := prog_1_method_4_code
def yX8_mend : MethodName := ⟨RX8, "mend", "(I)I"⟩
abbrev cX8_setNeeds : ByteArray := prog_1_method_5_code
def yX8_setNeeds : MethodName := ⟨RX8, "setNeeds", "(II)I"⟩
abbrev cX8_open : ByteArray := prog_1_method_6_code
def yX8_open : MethodName := ⟨RX8, "open", "(II)I"⟩
abbrev cX8_key : ByteArray := prog_1_method_7_code
def yX8_key : MethodName := ⟨RX8, "key", "(I)I"⟩
abbrev cX8_wipe : ByteArray := prog_1_method_8_code
def yX8_wipe : MethodName := ⟨RX8, "wipe", "()I"⟩
abbrev cX8_handIn : ByteArray := prog_1_method_9_code
def yX8_handIn : MethodName := ⟨RX8, "handIn", "(II)I"⟩
abbrev cX8_judge : ByteArray := prog_1_method_10_code
def yX8_judge : MethodName := ⟨RX8, "judge", "(I)I"⟩
abbrev cX8_packs : ByteArray := prog_1_method_11_code
def yX8_packs : MethodName := ⟨RX8, "packs", "()I"⟩
abbrev cX8_changes : ByteArray := prog_1_method_12_code
def yX8_changes : MethodName := ⟨RX8, "changes", "(I)I"⟩
abbrev cX8_isPossible : ByteArray := prog_1_method_13_code
def yX8_isPossible : MethodName := ⟨RX8, "isPossible", "(I)Z"⟩
abbrev cX8_orderAt : ByteArray := prog_1_method_14_code
def yX8_orderAt : MethodName := ⟨RX8, "orderAt", "(II)I"⟩
abbrev cX8_ruleOf : ByteArray := prog_1_method_15_code
def yX8_ruleOf : MethodName := ⟨RX8, "ruleOf", "(II)I"⟩
abbrev cX8_today : ByteArray := prog_1_method_16_code
def yX8_today : MethodName := ⟨RX8, "today", "()I"⟩
abbrev cX8_dungeons : ByteArray := prog_1_method_17_code
def yX8_dungeons : MethodName := ⟨RX8, "dungeons", "()I"⟩
abbrev cX8_dungeonToday : ByteArray := prog_1_method_18_code
def yX8_dungeonToday : MethodName := ⟨RX8, "dungeonToday", "()I"⟩
abbrev cX8_hasDoor : ByteArray := prog_1_method_19_code
def yX8_hasDoor : MethodName := ⟨RX8, "hasDoor", "(IIII)Z"⟩
abbrev cX8_monster : ByteArray := prog_1_method_20_code
def yX8_monster : MethodName := ⟨RX8, "monster", "(III)I"⟩
abbrev cX8_stairs : ByteArray := prog_1_method_22_code
def yX8_stairs : MethodName := ⟨RX8, "stairs", "(II)I"⟩
abbrev cX8_way : ByteArray := prog_1_method_23_code
def yX8_way : MethodName := ⟨RX8, "way", "(III)I"⟩
abbrev cX8_wayByDoors : ByteArray := prog_1_method_24_code
def yX8_wayByDoors : MethodName := ⟨RX8, "wayByDoors", "(III)I"⟩
abbrev cX8_runs : ByteArray := prog_1_method_25_code
def yX8_runs : MethodName := ⟨RX8, "runs", "()I"⟩
abbrev cX8_dungeonOf : ByteArray := prog_1_method_26_code
def yX8_dungeonOf : MethodName := ⟨RX8, "dungeonOf", "(I)I"⟩
abbrev cX8_verdict : ByteArray := prog_1_method_27_code
def yX8_verdict : MethodName := ⟨RX8, "verdict", "(I)I"⟩
abbrev cX8_scoreOf : ByteArray := prog_1_method_28_code
def yX8_scoreOf : MethodName := ⟨RX8, "scoreOf", "(I)I"⟩
abbrev cX8_endOf : ByteArray := prog_1_method_29_code
def yX8_endOf : MethodName := ⟨RX8, "endOf", "(I)I"⟩
abbrev cX8_rank : ByteArray := prog_1_method_30_code
def yX8_rank : MethodName := ⟨RX8, "rank", "(I)I"⟩
abbrev cX8_ranked : ByteArray := prog_1_method_31_code
def yX8_ranked : MethodName := ⟨RX8, "ranked", "(II)I"⟩
abbrev cX8_glory : ByteArray := prog_1_method_32_code
def yX8_glory : MethodName := ⟨RX8, "glory", "(I)I"⟩
abbrev cX8_existingPack : ByteArray := prog_1_method_33_code
def yX8_existingPack : MethodName := ⟨RX8, "existingPack", "(I)LRuleCrypts$Pack;"⟩
abbrev cX8_existingDungeon : ByteArray := prog_1_method_34_code
def yX8_existingDungeon : MethodName := ⟨RX8, "existingDungeon", "(I)LRuleCrypts$Dungeon;"⟩
abbrev cX8_existingFloor : ByteArray := prog_1_method_35_code
def yX8_existingFloor : MethodName := ⟨RX8, "existingFloor", "(II)LRuleCrypts$Floor;"⟩
abbrev cX8_existingRun : ByteArray := prog_1_method_36_code
def yX8_existingRun : MethodName := ⟨RX8, "existingRun", "(I)LRuleCrypts$Run;"⟩
abbrev cX8_requireRule : ByteArray := prog_1_method_37_code
def yX8_requireRule : MethodName := ⟨RX8, "requireRule", "(I)V"⟩
abbrev cX8_requireRoom : ByteArray := prog_1_method_38_code
def yX8_requireRoom : MethodName := ⟨RX8, "requireRoom", "(I)V"⟩
abbrev cX8_requirePlayer : ByteArray := prog_1_method_39_code
def yX8_requirePlayer : MethodName := ⟨RX8, "requirePlayer", "(I)V"⟩
abbrev cX8_requirePacks : ByteArray := prog_1_method_40_code
def yX8_requirePacks : MethodName := ⟨RX8, "requirePacks", "(I)V"⟩
abbrev cX8_requireOrder : ByteArray := prog_1_method_41_code
def yX8_requireOrder : MethodName := ⟨RX8, "requireOrder", "(I)V"⟩
abbrev cX8_makeRulesToday : ByteArray := prog_1_method_42_code
def yX8_makeRulesToday : MethodName := ⟨RX8, "makeRulesToday", "()Z"⟩
abbrev cX8_hadToday : ByteArray := prog_1_method_43_code
def yX8_hadToday : MethodName := ⟨RX8, "hadToday", "()LRuleCrypts$Dungeon;"⟩
abbrev cX8_dungeonForRun : ByteArray := prog_1_method_44_code
def yX8_dungeonForRun : MethodName := ⟨RX8, "dungeonForRun", "()LRuleCrypts$Dungeon;"⟩
abbrev cX8_countAhead : ByteArray := prog_1_method_45_code
def yX8_countAhead : MethodName := ⟨RX8, "countAhead", "(LRuleCrypts$Run;)I"⟩
abbrev cX8_holds : ByteArray := prog_1_method_46_code
def yX8_holds : MethodName := ⟨RX8, "holds", "(II)Z"⟩
abbrev cX8_remainder : ByteArray := prog_1_method_47_code
def yX8_remainder : MethodName := ⟨RX8, "remainder", "(II)I"⟩
abbrev cX8_isRoom : ByteArray := prog_1_method_48_code
def yX8_isRoom : MethodName := ⟨RX8, "isRoom", "(I)Z"⟩
abbrev cX8_opposite : ByteArray := prog_1_method_49_code
def yX8_opposite : MethodName := ⟨RX8, "opposite", "(I)I"⟩
abbrev cX8_neighbour : ByteArray := prog_1_method_50_code
def yX8_neighbour : MethodName := ⟨RX8, "neighbour", "(II)I"⟩
def RX9 : String := "RuleCryptsModel"
def TX9 : u_T := fun k => match k with
  | _ => ("", "", "", false)
def tyX9 : Nat → FieldType := fun k => match k with
  | _ => .int
abbrev wsX90 : List Cond := u_ws RX9 TX9 0
theorem nmX9 : ∀ a, a < 0 → ∀ b, b < 0 → a ≠ b → (TX9 a).2.1 ≠ (TX9 b).2.1 := by decide +kernel
theorem tyX9_ok : ∀ k, k < 0 → parseFieldDescriptor (TX9 k).2.2.1 = some (tyX9 k) := by decide +kernel
def RJx145de : String := "java/io/Serializable"
def TJx145de : u_T := fun k => match k with
  | _ => ("", "", "", false)
def tyJx145de : Nat → FieldType := fun k => match k with
  | _ => .int
abbrev wsJx145de0 : List Cond := u_ws RJx145de TJx145de 0
theorem nmJx145de : ∀ a, a < 0 → ∀ b, b < 0 → a ≠ b → (TJx145de a).2.1 ≠ (TJx145de b).2.1 := by decide +kernel
theorem tyJx145de_ok : ∀ k, k < 0 → parseFieldDescriptor (TJx145de k).2.2.1 = some (tyJx145de k) := by decide +kernel
def RJx8e188 : String := "java/lang/Cloneable"
def TJx8e188 : u_T := fun k => match k with
  | _ => ("", "", "", false)
def tyJx8e188 : Nat → FieldType := fun k => match k with
  | _ => .int
abbrev wsJx8e1880 : List Cond := u_ws RJx8e188 TJx8e188 0
theorem nmJx8e188 : ∀ a, a < 0 → ∀ b, b < 0 → a ≠ b → (TJx8e188 a).2.1 ≠ (TJx8e188 b).2.1 := by decide +kernel
theorem tyJx8e188_ok : ∀ k, k < 0 → parseFieldDescriptor (TJx8e188 k).2.2.1 = some (tyJx8e188 k) := by decide +kernel
def RJ9 : String := "java/lang/Math"
def TJ9 : u_T := fun k => match k with
  | _ => ("", "", "", false)
def tyJ9 : Nat → FieldType := fun k => match k with
  | _ => .int
abbrev wsJ90 : List Cond := u_ws RJ9 TJ9 0
theorem nmJ9 : ∀ a, a < 0 → ∀ b, b < 0 → a ≠ b → (TJ9 a).2.1 ≠ (TJ9 b).2.1 := by decide +kernel
theorem tyJ9_ok : ∀ k, k < 0 → parseFieldDescriptor (TJ9 k).2.2.1 = some (tyJ9 k) := by decide +kernel
abbrev cJ9_max_7cf53 : ByteArray := prog_17_method_65_code
def yJ9_max_7cf53 : MethodName := ⟨RJ9, "max", "(II)I"⟩
abbrev cJ9_min_7cf53 : ByteArray := prog_17_method_69_code
def yJ9_min_7cf53 : MethodName := ⟨RJ9, "min", "(II)I"⟩
def RJ0 : String := "java/lang/String"
def TJ0 : u_T := fun k => match k with
  | _ => ("", "", "", false)
def tyJ0 : Nat → FieldType := fun k => match k with
  | _ => .int
abbrev wsJ00 : List Cond := u_ws RJ0 TJ0 0
theorem nmJ0 : ∀ a, a < 0 → ∀ b, b < 0 → a ≠ b → (TJ0 a).2.1 ≠ (TJ0 b).2.1 := by decide +kernel
theorem tyJ0_ok : ∀ k, k < 0 → parseFieldDescriptor (TJ0 k).2.2.1 = some (tyJ0 k) := by decide +kernel
def RJ10 : String := "java/lang/System"
def TJ10 : u_T := fun k => match k with
  | _ => ("", "", "", false)
def tyJ10 : Nat → FieldType := fun k => match k with
  | _ => .int
abbrev wsJ100 : List Cond := u_ws RJ10 TJ10 0
theorem nmJ10 : ∀ a, a < 0 → ∀ b, b < 0 → a ≠ b → (TJ10 a).2.1 ≠ (TJ10 b).2.1 := by decide +kernel
theorem tyJ10_ok : ∀ k, k < 0 → parseFieldDescriptor (TJ10 k).2.2.1 = some (tyJ10 k) := by decide +kernel
def RJ7 : String := "java/util/Arrays"
def TJ7 : u_T := fun k => match k with
  | _ => ("", "", "", false)
def tyJ7 : Nat → FieldType := fun k => match k with
  | _ => .int
abbrev wsJ70 : List Cond := u_ws RJ7 TJ7 0
theorem nmJ7 : ∀ a, a < 0 → ∀ b, b < 0 → a ≠ b → (TJ7 a).2.1 ≠ (TJ7 b).2.1 := by decide +kernel
theorem tyJ7_ok : ∀ k, k < 0 → parseFieldDescriptor (TJ7 k).2.2.1 = some (tyJ7 k) := by decide +kernel
abbrev cJ7_copyOf_59c91 : ByteArray := prog_22_method_123_code
def yJ7_copyOf_59c91 : MethodName := ⟨RJ7, "copyOf", "([II)[I"⟩
def RL : String := "RuleCryptsLaw"
abbrev cL_cell : ByteArray := method_2_code
def yL_cell : MethodName := ⟨RL, "cell", "([II)I"⟩
abbrev cL_low : ByteArray := method_3_code
def yL_low : MethodName := ⟨RL, "low", "(II)I"⟩
abbrev cL_does : ByteArray := method_4_code
def yL_does : MethodName := ⟨RL, "does", "(LRuleCrypts;IIIII)I"⟩
abbrev cL_act : ByteArray := method_5_code
def yL_act : MethodName := ⟨RL, "act", "(LRuleCrypts;I)I"⟩
abbrev cL_areAlike : ByteArray := method_6_code
def yL_areAlike : MethodName := ⟨RL, "areAlike", "(LRuleCrypts;LRuleCrypts;)Z"⟩
abbrev cL_isFloorSo : ByteArray := method_7_code
def yL_isFloorSo : MethodName := ⟨RL, "isFloorSo", "(LRuleCrypts;II)Z"⟩
abbrev cL_isSetSo : ByteArray := method_8_code
def yL_isSetSo : MethodName := ⟨RL, "isSetSo", "(LRuleCrypts;I)Z"⟩
abbrev cL_isRunSo : ByteArray := method_9_code
def yL_isRunSo : MethodName := ⟨RL, "isRunSo", "(LRuleCrypts;LRuleCrypts;I)Z"⟩
abbrev cL_isHandedSo : ByteArray := method_10_code
def yL_isHandedSo : MethodName := ⟨RL, "isHandedSo", "(LRuleCrypts;LRuleCrypts;II)Z"⟩
abbrev cL_law : ByteArray := code
def yL_law : MethodName := ⟨RL, "law", "([I)Z"⟩
abbrev vwCl : List vw_C := [(RX0, TX0, 3), (RX1, TX1, 1), (RX2, TX2, 4), (RX3, TX3, 7), (RX4, TX4, 3), (RX5, TX5, 5), (RX6, TX6, 9), (RX7, TX7, 6), (RX8, TX8, 11)]
