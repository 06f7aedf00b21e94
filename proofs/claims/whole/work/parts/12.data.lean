/-! ===== printed by wip/whole/gen.py: links, words, each method's data ===== -/
theorem ac_xat {L : List Cond} (h : (L.all fun w => decide (w ∈ tables_1) && (goodWord w || ac_nest w)) = true) : ∀ w ∈ L, w ∈ ac_tbl ∨ w ∈ tables_1.filter ac_nest := by
  intro w hw
  have h1 := List.all_eq_true.mp h w hw
  rw [Bool.and_eq_true, decide_eq_true_eq, Bool.or_eq_true] at h1
  rcases h1.2 with q | q
  · exact Or.inl (List.mem_filter.mpr ⟨List.mem_append_right _ h1.1, q⟩)
  · exact Or.inr (List.mem_filter.mpr ⟨h1.1, q⟩)
def mX0_init : ac_M := (cX0_init, 4, RX0, none, "<init>", [])
set_option maxRecDepth 40000 in
theorem Y_X0_init : ac_Y yX0_init mX0_init 3 := ⟨List.mem_filter.mpr ⟨List.mem_append_right _ (List.mem_of_getElem? (i := 365) rfl), rfl⟩, ⟨by decide, by decide, by decide +kernel⟩, (ac_inT 12 (by decide +kernel))⟩
def mX0_applyTo : ac_M := (cX0_applyTo, 3, RX0, none, "applyTo", [])
set_option maxRecDepth 40000 in
theorem Y_X0_applyTo : ac_Y yX0_applyTo mX0_applyTo 1 := ⟨List.mem_filter.mpr ⟨List.mem_append_right _ (List.mem_of_getElem? (i := 184) rfl), rfl⟩, ⟨by decide, by decide, by decide +kernel⟩, (ac_inT 12 (by decide +kernel))⟩
def mX1_init : ac_M := (cX1_init, 2, RX1, none, "<init>", [])
set_option maxRecDepth 40000 in
theorem Y_X1_init : ac_Y yX1_init mX1_init 1 := ⟨List.mem_filter.mpr ⟨List.mem_append_right _ (List.mem_of_getElem? (i := 482) rfl), rfl⟩, ⟨by decide, by decide, by decide +kernel⟩, (ac_inT 16 (by decide +kernel))⟩
def mX1_next : ac_M := (cX1_next, 1, RX1, (some .int), "next", [])
set_option maxRecDepth 40000 in
theorem Y_X1_next : ac_Y yX1_next mX1_next 0 := ⟨List.mem_filter.mpr ⟨List.mem_append_right _ (List.mem_of_getElem? (i := 536) rfl), rfl⟩, ⟨by decide, by decide, by decide +kernel⟩, (ac_inT 16 (by decide +kernel))⟩
def mX2_init : ac_M := (cX2_init, 4, RX2, none, "<init>", [])
set_option maxRecDepth 40000 in
theorem Y_X2_init : ac_Y yX2_init mX2_init 3 := ⟨List.mem_filter.mpr ⟨List.mem_append_right _ (List.mem_of_getElem? (i := 455) rfl), rfl⟩, ⟨by decide, by decide, by decide +kernel⟩, (ac_inT 15 (by decide +kernel))⟩
def mX3_init : ac_M := (cX3_init, 2, RX3, none, "<init>", [])
set_option maxRecDepth 40000 in
theorem Y_X3_init : ac_Y yX3_init mX3_init 1 := ⟨List.mem_filter.mpr ⟨List.mem_append_right _ (List.mem_of_getElem? (i := 491) rfl), rfl⟩, ⟨by decide, by decide, by decide +kernel⟩, (ac_inT 17 (by decide +kernel))⟩
def mX8_remainder : ac_M := (cX8_remainder, 2, RX8, (some .int), "remainder", [])
set_option maxRecDepth 40000 in
theorem Y_X8_remainder : ac_Y yX8_remainder mX8_remainder 2 := ⟨List.mem_filter.mpr ⟨List.mem_append_right _ (List.mem_of_getElem? (i := 540) rfl), rfl⟩, ⟨by decide, by decide, by decide +kernel⟩, (ac_inT 1 (by decide +kernel))⟩
def mX8_neighbour : ac_M := (cX8_neighbour, 4, RX8, (some .int), "neighbour", [])
set_option maxRecDepth 40000 in
theorem Y_X8_neighbour : ac_Y yX8_neighbour mX8_neighbour 2 := ⟨List.mem_filter.mpr ⟨List.mem_append_right _ (List.mem_of_getElem? (i := 546) rfl), rfl⟩, ⟨by decide, by decide, by decide +kernel⟩, (ac_inT 1 (by decide +kernel))⟩
def mX8_holds : ac_M := (cX8_holds, 2, RX8, (some .boolean), "holds", [])
set_option maxRecDepth 40000 in
theorem Y_X8_holds : ac_Y yX8_holds mX8_holds 2 := ⟨List.mem_filter.mpr ⟨List.mem_append_right _ (List.mem_of_getElem? (i := 163) rfl), rfl⟩, ⟨by decide, by decide, by decide +kernel⟩, (ac_inT 1 (by decide +kernel))⟩
def mX3_directionToNew : ac_M := (cX3_directionToNew, 6, RX3, (some .int), "directionToNew", [])
set_option maxRecDepth 40000 in
theorem Y_X3_directionToNew : ac_Y yX3_directionToNew mX3_directionToNew 3 := ⟨List.mem_filter.mpr ⟨List.mem_append_right _ (List.mem_of_getElem? (i := 543) rfl), rfl⟩, ⟨by decide, by decide, by decide +kernel⟩, (ac_inT 17 (by decide +kernel))⟩
def mX8_isRoom : ac_M := (cX8_isRoom, 1, RX8, (some .boolean), "isRoom", [])
set_option maxRecDepth 40000 in
theorem Y_X8_isRoom : ac_Y yX8_isRoom mX8_isRoom 1 := ⟨List.mem_filter.mpr ⟨List.mem_append_right _ (List.mem_of_getElem? (i := 554) rfl), rfl⟩, ⟨by decide, by decide, by decide +kernel⟩, (ac_inT 1 (by decide +kernel))⟩
def mX8_opposite : ac_M := (cX8_opposite, 1, RX8, (some .int), "opposite", [])
set_option maxRecDepth 40000 in
theorem Y_X8_opposite : ac_Y yX8_opposite mX8_opposite 1 := ⟨List.mem_filter.mpr ⟨List.mem_append_right _ (List.mem_of_getElem? (i := 557) rfl), rfl⟩, ⟨by decide, by decide, by decide +kernel⟩, (ac_inT 1 (by decide +kernel))⟩
def mX3_openDoor : ac_M := (cX3_openDoor, 4, RX3, none, "openDoor", [])
set_option maxRecDepth 40000 in
theorem Y_X3_openDoor : ac_Y yX3_openDoor mX3_openDoor 2 := ⟨List.mem_filter.mpr ⟨List.mem_append_right _ (List.mem_of_getElem? (i := 551) rfl), rfl⟩, ⟨by decide, by decide, by decide +kernel⟩, (ac_inT 17 (by decide +kernel))⟩
def mX3_growWays : ac_M := (cX3_growWays, 10, RX3, none, "growWays", [])
set_option maxRecDepth 40000 in
theorem Y_X3_growWays : ac_Y yX3_growWays mX3_growWays 1 := ⟨List.mem_filter.mpr ⟨List.mem_append_right _ (List.mem_of_getElem? (i := 532) rfl), rfl⟩, ⟨by decide, by decide, by decide +kernel⟩, (ac_inT 17 (by decide +kernel))⟩
def mX2_rule : ac_M := (cX2_rule, 2, RX2, (some .int), "rule", [])
set_option maxRecDepth 40000 in
theorem Y_X2_rule : ac_Y yX2_rule mX2_rule 1 := ⟨List.mem_filter.mpr ⟨List.mem_append_right _ (List.mem_of_getElem? (i := 561) rfl), rfl⟩, ⟨by decide, by decide, by decide +kernel⟩, (ac_inT 15 (by decide +kernel))⟩
def mX3_growLoops : ac_M := (cX3_growLoops, 5, RX3, none, "growLoops", [])
set_option maxRecDepth 40000 in
theorem Y_X3_growLoops : ac_Y yX3_growLoops mX3_growLoops 2 := ⟨List.mem_filter.mpr ⟨List.mem_append_right _ (List.mem_of_getElem? (i := 565) rfl), rfl⟩, ⟨by decide, by decide, by decide +kernel⟩, (ac_inT 17 (by decide +kernel))⟩
def mX3_growMonsters : ac_M := (cX3_growMonsters, 7, RX3, none, "growMonsters", [])
set_option maxRecDepth 40000 in
theorem Y_X3_growMonsters : ac_Y yX3_growMonsters mX3_growMonsters 3 := ⟨List.mem_filter.mpr ⟨List.mem_append_right _ (List.mem_of_getElem? (i := 569) rfl), rfl⟩, ⟨by decide, by decide, by decide +kernel⟩, (ac_inT 17 (by decide +kernel))⟩
def mX3_growTreasures : ac_M := (cX3_growTreasures, 4, RX3, none, "growTreasures", [])
set_option maxRecDepth 40000 in
theorem Y_X3_growTreasures : ac_Y yX3_growTreasures mX3_growTreasures 2 := ⟨List.mem_filter.mpr ⟨List.mem_append_right _ (List.mem_of_getElem? (i := 573) rfl), rfl⟩, ⟨by decide, by decide, by decide +kernel⟩, (ac_inT 17 (by decide +kernel))⟩
def mX3_behindDoor : ac_M := (cX3_behindDoor, 3, RX3, (some .int), "behindDoor", [])
set_option maxRecDepth 40000 in
theorem Y_X3_behindDoor : ac_Y yX3_behindDoor mX3_behindDoor 2 := ⟨List.mem_filter.mpr ⟨List.mem_append_right _ (List.mem_of_getElem? (i := 581) rfl), rfl⟩, ⟨by decide, by decide, by decide +kernel⟩, (ac_inT 17 (by decide +kernel))⟩
def mX3_measureBySearch : ac_M := (cX3_measureBySearch, 5, RX3, none, "measureBySearch", [])
set_option maxRecDepth 40000 in
theorem Y_X3_measureBySearch : ac_Y yX3_measureBySearch mX3_measureBySearch 0 := ⟨List.mem_filter.mpr ⟨List.mem_append_right _ (List.mem_of_getElem? (i := 577) rfl), rfl⟩, ⟨by decide, by decide, by decide +kernel⟩, (ac_inT 17 (by decide +kernel))⟩
def mX3_farthestRoom : ac_M := (cX3_farthestRoom, 4, RX3, (some .int), "farthestRoom", [])
set_option maxRecDepth 40000 in
theorem Y_X3_farthestRoom : ac_Y yX3_farthestRoom mX3_farthestRoom 0 := ⟨List.mem_filter.mpr ⟨List.mem_append_right _ (List.mem_of_getElem? (i := 585) rfl), rfl⟩, ⟨by decide, by decide, by decide +kernel⟩, (ac_inT 17 (by decide +kernel))⟩
def mX3_grow : ac_M := (cX3_grow, 3, RX3, none, "grow", [])
set_option maxRecDepth 40000 in
theorem Y_X3_grow : ac_Y yX3_grow mX3_grow 2 := ⟨List.mem_filter.mpr ⟨List.mem_append_right _ (List.mem_of_getElem? (i := 528) rfl), rfl⟩, ⟨by decide, by decide, by decide +kernel⟩, (ac_inT 17 (by decide +kernel))⟩
def mX2_grow : ac_M := (cX2_grow, 5, RX2, none, "grow", [])
set_option maxRecDepth 40000 in
theorem Y_X2_grow : ac_Y yX2_grow mX2_grow 0 := ⟨List.mem_filter.mpr ⟨List.mem_append_right _ (List.mem_of_getElem? (i := 477) rfl), rfl⟩, ⟨by decide, by decide, by decide +kernel⟩, (ac_inT 15 (by decide +kernel))⟩
def mX2_isBy : ac_M := (cX2_isBy, 4, RX2, (some .boolean), "isBy", [])
set_option maxRecDepth 40000 in
theorem Y_X2_isBy : ac_Y yX2_isBy mX2_isBy 2 := ⟨List.mem_filter.mpr ⟨List.mem_append_right _ (List.mem_of_getElem? (i := 202) rfl), rfl⟩, ⟨by decide, by decide, by decide +kernel⟩, (ac_inT 15 (by decide +kernel))⟩
def mX2_floorAt : ac_M := (cX2_floorAt, 2, RX2, (some (.object "RuleCrypts$Floor")), "floorAt", [])
set_option maxRecDepth 40000 in
theorem Y_X2_floorAt : ac_Y yX2_floorAt mX2_floorAt 1 := ⟨List.mem_filter.mpr ⟨List.mem_append_right _ (List.mem_of_getElem? (i := 651) rfl), rfl⟩, ⟨by decide, by decide, by decide +kernel⟩, (ac_inT 15 (by decide +kernel))⟩
def mX3_bringNearer : ac_M := (cX3_bringNearer, 6, RX3, (some .boolean), "bringNearer", [])
set_option maxRecDepth 40000 in
theorem Y_X3_bringNearer : ac_Y yX3_bringNearer mX3_bringNearer 2 := ⟨List.mem_filter.mpr ⟨List.mem_append_right _ (List.mem_of_getElem? (i := 781) rfl), rfl⟩, ⟨by decide, by decide, by decide +kernel⟩, (ac_inT 17 (by decide +kernel))⟩
def mX3_measureByDoors : ac_M := (cX3_measureByDoors, 4, RX3, none, "measureByDoors", [])
set_option maxRecDepth 40000 in
theorem Y_X3_measureByDoors : ac_Y yX3_measureByDoors mX3_measureByDoors 0 := ⟨List.mem_filter.mpr ⟨List.mem_append_right _ (List.mem_of_getElem? (i := 777) rfl), rfl⟩, ⟨by decide, by decide, by decide +kernel⟩, (ac_inT 17 (by decide +kernel))⟩
def mX4_init : ac_M := (cX4_init, 1, RX4, none, "<init>", [])
set_option maxRecDepth 40000 in
theorem Y_X4_init : ac_Y yX4_init mX4_init 0 := ⟨List.mem_filter.mpr ⟨List.mem_append_right _ (List.mem_of_getElem? (i := 222) rfl), rfl⟩, ⟨by decide, by decide, by decide +kernel⟩, (ac_inT 5 (by decide +kernel))⟩
def mX4_addChange : ac_M := (cX4_addChange, 4, RX4, (some .boolean), "addChange", [])
set_option maxRecDepth 40000 in
theorem Y_X4_addChange : ac_Y yX4_addChange mX4_addChange 3 := ⟨List.mem_filter.mpr ⟨List.mem_append_right _ (List.mem_of_getElem? (i := 361) rfl), rfl⟩, ⟨by decide, by decide, by decide +kernel⟩, (ac_inT 5 (by decide +kernel))⟩
def mX4_applyTo : ac_M := (cX4_applyTo, 4, RX4, none, "applyTo", [])
set_option maxRecDepth 40000 in
theorem Y_X4_applyTo : ac_Y yX4_applyTo mX4_applyTo 1 := ⟨List.mem_filter.mpr ⟨List.mem_append_right _ (List.mem_of_getElem? (i := 180) rfl), rfl⟩, ⟨by decide, by decide, by decide +kernel⟩, (ac_inT 5 (by decide +kernel))⟩
def mX5_init : ac_M := (cX5_init, 1, RX5, none, "<init>", [])
set_option maxRecDepth 40000 in
theorem Y_X5_init : ac_Y yX5_init mX5_init 0 := ⟨List.mem_filter.mpr ⟨List.mem_append_right _ (List.mem_of_getElem? (i := 32) rfl), rfl⟩, ⟨by decide, by decide, by decide +kernel⟩, (ac_inT 2 (by decide +kernel))⟩
def mX5_addPack : ac_M := (cX5_addPack, 1, RX5, (some .boolean), "addPack", [])
set_option maxRecDepth 40000 in
theorem Y_X5_addPack : ac_Y yX5_addPack mX5_addPack 0 := ⟨List.mem_filter.mpr ⟨List.mem_append_right _ (List.mem_of_getElem? (i := 218) rfl), rfl⟩, ⟨by decide, by decide, by decide +kernel⟩, (ac_inT 2 (by decide +kernel))⟩
def mX5_packAt : ac_M := (cX5_packAt, 2, RX5, (some (.object "RuleCrypts$Pack")), "packAt", [])
set_option maxRecDepth 40000 in
theorem Y_X5_packAt : ac_Y yX5_packAt mX5_packAt 1 := ⟨List.mem_filter.mpr ⟨List.mem_append_right _ (List.mem_of_getElem? (i := 176) rfl), rfl⟩, ⟨by decide, by decide, by decide +kernel⟩, (ac_inT 2 (by decide +kernel))⟩
def mX5_hasAll : ac_M := (cX5_hasAll, 2, RX5, (some .boolean), "hasAll", [])
set_option maxRecDepth 40000 in
theorem Y_X5_hasAll : ac_Y yX5_hasAll mX5_hasAll 1 := ⟨List.mem_filter.mpr ⟨List.mem_append_right _ (List.mem_of_getElem? (i := 400) rfl), rfl⟩, ⟨by decide, by decide, by decide +kernel⟩, (ac_inT 2 (by decide +kernel))⟩
def mX5_lowestReady : ac_M := (cX5_lowestReady, 5, RX5, (some .int), "lowestReady", [])
set_option maxRecDepth 40000 in
theorem Y_X5_lowestReady : ac_Y yX5_lowestReady mX5_lowestReady 2 := ⟨List.mem_filter.mpr ⟨List.mem_append_right _ (List.mem_of_getElem? (i := 160) rfl), rfl⟩, ⟨by decide, by decide, by decide +kernel⟩, (ac_inT 2 (by decide +kernel))⟩
def mX5_putInOrder : ac_M := (cX5_putInOrder, 5, RX5, (some .boolean), "putInOrder", [])
set_option maxRecDepth 40000 in
theorem Y_X5_putInOrder : ac_Y yX5_putInOrder mX5_putInOrder 1 := ⟨List.mem_filter.mpr ⟨List.mem_append_right _ (List.mem_of_getElem? (i := 156) rfl), rfl⟩, ⟨by decide, by decide, by decide +kernel⟩, (ac_inT 2 (by decide +kernel))⟩
def mX5_packInPlace : ac_M := (cX5_packInPlace, 2, RX5, (some .int), "packInPlace", [])
set_option maxRecDepth 40000 in
theorem Y_X5_packInPlace : ac_Y yX5_packInPlace mX5_packInPlace 1 := ⟨List.mem_filter.mpr ⟨List.mem_append_right _ (List.mem_of_getElem? (i := 706) rfl), rfl⟩, ⟨by decide, by decide, by decide +kernel⟩, (ac_inT 2 (by decide +kernel))⟩
def mX5_makeRules : ac_M := (cX5_makeRules, 3, RX5, none, "makeRules", [])
set_option maxRecDepth 40000 in
theorem Y_X5_makeRules : ac_Y yX5_makeRules mX5_makeRules 0 := ⟨List.mem_filter.mpr ⟨List.mem_append_right _ (List.mem_of_getElem? (i := 167) rfl), rfl⟩, ⟨by decide, by decide, by decide +kernel⟩, (ac_inT 2 (by decide +kernel))⟩
def mX6_init : ac_M := (cX6_init, 1, RX6, none, "<init>", [])
set_option maxRecDepth 40000 in
theorem Y_X6_init : ac_Y yX6_init mX6_init 0 := ⟨List.mem_filter.mpr ⟨List.mem_append_right _ (List.mem_of_getElem? (i := 63) rfl), rfl⟩, ⟨by decide, by decide, by decide +kernel⟩, (ac_inT 3 (by decide +kernel))⟩
def mX6_enter : ac_M := (cX6_enter, 3, RX6, none, "enter", [])
set_option maxRecDepth 40000 in
theorem Y_X6_enter : ac_Y yX6_enter mX6_enter 2 := ⟨List.mem_filter.mpr ⟨List.mem_append_right _ (List.mem_of_getElem? (i := 647) rfl), rfl⟩, ⟨by decide, by decide, by decide +kernel⟩, (ac_inT 3 (by decide +kernel))⟩
def mX6_goDown : ac_M := (cX6_goDown, 2, RX6, (some .boolean), "goDown", [])
set_option maxRecDepth 40000 in
theorem Y_X6_goDown : ac_Y yX6_goDown mX6_goDown 1 := ⟨List.mem_filter.mpr ⟨List.mem_append_right _ (List.mem_of_getElem? (i := 660) rfl), rfl⟩, ⟨by decide, by decide, by decide +kernel⟩, (ac_inT 3 (by decide +kernel))⟩
def mX6_fight : ac_M := (cX6_fight, 2, RX6, none, "fight", [])
set_option maxRecDepth 40000 in
theorem Y_X6_fight : ac_Y yX6_fight mX6_fight 1 := ⟨List.mem_filter.mpr ⟨List.mem_append_right _ (List.mem_of_getElem? (i := 671) rfl), rfl⟩, ⟨by decide, by decide, by decide +kernel⟩, (ac_inT 3 (by decide +kernel))⟩
def mX6_takeTreasure : ac_M := (cX6_takeTreasure, 1, RX6, none, "takeTreasure", [])
set_option maxRecDepth 40000 in
theorem Y_X6_takeTreasure : ac_Y yX6_takeTreasure mX6_takeTreasure 0 := ⟨List.mem_filter.mpr ⟨List.mem_append_right _ (List.mem_of_getElem? (i := 675) rfl), rfl⟩, ⟨by decide, by decide, by decide +kernel⟩, (ac_inT 3 (by decide +kernel))⟩
def mX6_go : ac_M := (cX6_go, 3, RX6, (some .boolean), "go", [])
set_option maxRecDepth 40000 in
theorem Y_X6_go : ac_Y yX6_go mX6_go 1 := ⟨List.mem_filter.mpr ⟨List.mem_append_right _ (List.mem_of_getElem? (i := 665) rfl), rfl⟩, ⟨by decide, by decide, by decide +kernel⟩, (ac_inT 3 (by decide +kernel))⟩
def mX6_take : ac_M := (cX6_take, 3, RX6, (some .boolean), "take", [])
set_option maxRecDepth 40000 in
theorem Y_X6_take : ac_Y yX6_take mX6_take 2 := ⟨List.mem_filter.mpr ⟨List.mem_append_right _ (List.mem_of_getElem? (i := 656) rfl), rfl⟩, ⟨by decide, by decide, by decide +kernel⟩, (ac_inT 3 (by decide +kernel))⟩
def mX6_play : ac_M := (cX6_play, 3, RX6, none, "play", [])
set_option maxRecDepth 40000 in
theorem Y_X6_play : ac_Y yX6_play mX6_play 1 := ⟨List.mem_filter.mpr ⟨List.mem_append_right _ (List.mem_of_getElem? (i := 642) rfl), rfl⟩, ⟨by decide, by decide, by decide +kernel⟩, (ac_inT 3 (by decide +kernel))⟩
def mX6_verdictOn : ac_M := (cX6_verdictOn, 2, RX6, (some .int), "verdictOn", [])
set_option maxRecDepth 40000 in
theorem Y_X6_verdictOn : ac_Y yX6_verdictOn mX6_verdictOn 1 := ⟨List.mem_filter.mpr ⟨List.mem_append_right _ (List.mem_of_getElem? (i := 680) rfl), rfl⟩, ⟨by decide, by decide, by decide +kernel⟩, (ac_inT 3 (by decide +kernel))⟩
def mX7_init : ac_M := (cX7_init, 6, RX7, none, "<init>", [])
set_option maxRecDepth 40000 in
theorem Y_X7_init : ac_Y yX7_init mX7_init 5 := ⟨List.mem_filter.mpr ⟨List.mem_append_right _ (List.mem_of_getElem? (i := 598) rfl), rfl⟩, ⟨by decide, by decide, by decide +kernel⟩, (ac_inT 18 (by decide +kernel))⟩
def mX7_isRanked : ac_M := (cX7_isRanked, 1, RX7, (some .boolean), "isRanked", [])
set_option maxRecDepth 40000 in
theorem Y_X7_isRanked : ac_Y yX7_isRanked mX7_isRanked 0 := ⟨List.mem_filter.mpr ⟨List.mem_append_right _ (List.mem_of_getElem? (i := 820) rfl), rfl⟩, ⟨by decide, by decide, by decide +kernel⟩, (ac_inT 18 (by decide +kernel))⟩
def mX7_isRankedIn : ac_M := (cX7_isRankedIn, 2, RX7, (some .boolean), "isRankedIn", [])
set_option maxRecDepth 40000 in
theorem Y_X7_isRankedIn : ac_Y yX7_isRankedIn mX7_isRankedIn 1 := ⟨List.mem_filter.mpr ⟨List.mem_append_right _ (List.mem_of_getElem? (i := 828) rfl), rfl⟩, ⟨by decide, by decide, by decide +kernel⟩, (ac_inT 18 (by decide +kernel))⟩
def mX7_isAheadOf : ac_M := (cX7_isAheadOf, 2, RX7, (some .boolean), "isAheadOf", [])
set_option maxRecDepth 40000 in
theorem Y_X7_isAheadOf : ac_Y yX7_isAheadOf mX7_isAheadOf 1 := ⟨List.mem_filter.mpr ⟨List.mem_append_right _ (List.mem_of_getElem? (i := 833) rfl), rfl⟩, ⟨by decide, by decide, by decide +kernel⟩, (ac_inT 18 (by decide +kernel))⟩
def mX8_init : ac_M := (cX8_init, 1, RX8, none, "<init>", [])
set_option maxRecDepth 40000 in
theorem Y_X8_init : ac_Y yX8_init mX8_init 0 := ⟨List.mem_filter.mpr ⟨List.mem_append_right _ (List.mem_of_getElem? (i := 24) rfl), rfl⟩, ⟨by decide, by decide, by decide +kernel⟩, (ac_inT 1 (by decide +kernel))⟩
def mX8_pack : ac_M := (cX8_pack, 1, RX8, (some .int), "pack", [])
set_option maxRecDepth 40000 in
theorem Y_X8_pack : ac_Y yX8_pack mX8_pack 0 := ⟨List.mem_filter.mpr ⟨List.mem_append_right _ (List.mem_of_getElem? (i := 214) rfl), rfl⟩, ⟨by decide, by decide, by decide +kernel⟩, (ac_inT 1 (by decide +kernel))⟩
def mX8_existingPack : ac_M := (cX8_existingPack, 3, RX8, (some (.object "RuleCrypts$Pack")), "existingPack", [])
set_option maxRecDepth 40000 in
theorem Y_X8_existingPack : ac_Y yX8_existingPack mX8_existingPack 1 := ⟨List.mem_filter.mpr ⟨List.mem_append_right _ (List.mem_of_getElem? (i := 318) rfl), rfl⟩, ⟨by decide, by decide, by decide +kernel⟩, (ac_inT 1 (by decide +kernel))⟩
def mX8_requireRule : ac_M := (cX8_requireRule, 1, RX8, none, "requireRule", [])
set_option maxRecDepth 40000 in
theorem Y_X8_requireRule : ac_Y yX8_requireRule mX8_requireRule 1 := ⟨List.mem_filter.mpr ⟨List.mem_append_right _ (List.mem_of_getElem? (i := 338) rfl), rfl⟩, ⟨by decide, by decide, by decide +kernel⟩, (ac_inT 1 (by decide +kernel))⟩
def mX8_change : ac_M := (cX8_change, 8, RX8, (some .int), "change", [])
set_option maxRecDepth 40000 in
theorem Y_X8_change : ac_Y yX8_change mX8_change 4 := ⟨List.mem_filter.mpr ⟨List.mem_append_right _ (List.mem_of_getElem? (i := 314) rfl), rfl⟩, ⟨by decide, by decide, by decide +kernel⟩, (ac_inT 1 (by decide +kernel))⟩
def mX8_mend : ac_M := (cX8_mend, 3, RX8, (some .int), "mend", [])
set_option maxRecDepth 40000 in
theorem Y_X8_mend : ac_Y yX8_mend mX8_mend 1 := ⟨List.mem_filter.mpr ⟨List.mem_append_right _ (List.mem_of_getElem? (i := 384) rfl), rfl⟩, ⟨by decide, by decide, by decide +kernel⟩, (ac_inT 1 (by decide +kernel))⟩
def mX8_requirePacks : ac_M := (cX8_requirePacks, 2, RX8, none, "requirePacks", [])
set_option maxRecDepth 40000 in
theorem Y_X8_requirePacks : ac_Y yX8_requirePacks mX8_requirePacks 1 := ⟨List.mem_filter.mpr ⟨List.mem_append_right _ (List.mem_of_getElem? (i := 396) rfl), rfl⟩, ⟨by decide, by decide, by decide +kernel⟩, (ac_inT 1 (by decide +kernel))⟩
def mX8_setNeeds : ac_M := (cX8_setNeeds, 5, RX8, (some .int), "setNeeds", [])
set_option maxRecDepth 40000 in
theorem Y_X8_setNeeds : ac_Y yX8_setNeeds mX8_setNeeds 2 := ⟨List.mem_filter.mpr ⟨List.mem_append_right _ (List.mem_of_getElem? (i := 392) rfl), rfl⟩, ⟨by decide, by decide, by decide +kernel⟩, (ac_inT 1 (by decide +kernel))⟩
def mX8_requireOrder : ac_M := (cX8_requireOrder, 2, RX8, none, "requireOrder", [])
set_option maxRecDepth 40000 in
theorem Y_X8_requireOrder : ac_Y yX8_requireOrder mX8_requireOrder 1 := ⟨List.mem_filter.mpr ⟨List.mem_append_right _ (List.mem_of_getElem? (i := 416) rfl), rfl⟩, ⟨by decide, by decide, by decide +kernel⟩, (ac_inT 1 (by decide +kernel))⟩
def mX8_open : ac_M := (cX8_open, 3, RX8, (some .int), "open", [])
set_option maxRecDepth 40000 in
theorem Y_X8_open : ac_Y yX8_open mX8_open 2 := ⟨List.mem_filter.mpr ⟨List.mem_append_right _ (List.mem_of_getElem? (i := 410) rfl), rfl⟩, ⟨by decide, by decide, by decide +kernel⟩, (ac_inT 1 (by decide +kernel))⟩
def mX8_key : ac_M := (cX8_key, 2, RX8, (some .int), "key", [])
set_option maxRecDepth 40000 in
theorem Y_X8_key : ac_Y yX8_key mX8_key 1 := ⟨List.mem_filter.mpr ⟨List.mem_append_right _ (List.mem_of_getElem? (i := 425) rfl), rfl⟩, ⟨by decide, by decide, by decide +kernel⟩, (ac_inT 1 (by decide +kernel))⟩
def mX8_wipe : ac_M := (cX8_wipe, 2, RX8, (some .int), "wipe", [])
set_option maxRecDepth 40000 in
theorem Y_X8_wipe : ac_Y yX8_wipe mX8_wipe 0 := ⟨List.mem_filter.mpr ⟨List.mem_append_right _ (List.mem_of_getElem? (i := 132) rfl), rfl⟩, ⟨by decide, by decide, by decide +kernel⟩, (ac_inT 1 (by decide +kernel))⟩
def mX8_requirePlayer : ac_M := (cX8_requirePlayer, 1, RX8, none, "requirePlayer", [])
set_option maxRecDepth 40000 in
theorem Y_X8_requirePlayer : ac_Y yX8_requirePlayer mX8_requirePlayer 1 := ⟨List.mem_filter.mpr ⟨List.mem_append_right _ (List.mem_of_getElem? (i := 437) rfl), rfl⟩, ⟨by decide, by decide, by decide +kernel⟩, (ac_inT 1 (by decide +kernel))⟩
def mX8_makeRulesToday : ac_M := (cX8_makeRulesToday, 1, RX8, (some .boolean), "makeRulesToday", [])
set_option maxRecDepth 40000 in
theorem Y_X8_makeRulesToday : ac_Y yX8_makeRulesToday mX8_makeRulesToday 0 := ⟨List.mem_filter.mpr ⟨List.mem_append_right _ (List.mem_of_getElem? (i := 152) rfl), rfl⟩, ⟨by decide, by decide, by decide +kernel⟩, (ac_inT 1 (by decide +kernel))⟩
def mX8_hadToday : ac_M := (cX8_hadToday, 3, RX8, (some (.object "RuleCrypts$Dungeon")), "hadToday", [])
set_option maxRecDepth 40000 in
theorem Y_X8_hadToday : ac_Y yX8_hadToday mX8_hadToday 0 := ⟨List.mem_filter.mpr ⟨List.mem_append_right _ (List.mem_of_getElem? (i := 198) rfl), rfl⟩, ⟨by decide, by decide, by decide +kernel⟩, (ac_inT 1 (by decide +kernel))⟩
def mX8_dungeonForRun : ac_M := (cX8_dungeonForRun, 2, RX8, (some (.object "RuleCrypts$Dungeon")), "dungeonForRun", [])
set_option maxRecDepth 40000 in
theorem Y_X8_dungeonForRun : ac_Y yX8_dungeonForRun mX8_dungeonForRun 0 := ⟨List.mem_filter.mpr ⟨List.mem_append_right _ (List.mem_of_getElem? (i := 444) rfl), rfl⟩, ⟨by decide, by decide, by decide +kernel⟩, (ac_inT 1 (by decide +kernel))⟩
def mJ7_copyOf_59c91 : ac_M := (cJ7_copyOf_59c91, 3, RJ7, (some (.array .int)), "copyOf", [])
set_option maxRecDepth 40000 in
theorem Y_J7_copyOf_59c91 : ac_Y yJ7_copyOf_59c91 mJ7_copyOf_59c91 2 := ⟨List.mem_filter.mpr ⟨List.mem_append_right _ (List.mem_of_getElem? (i := 591) rfl), rfl⟩, ⟨by decide, by decide, by decide +kernel⟩, (ac_inT 19 (by decide +kernel))⟩
def mX8_handIn : ac_M := (cX8_handIn, 5, RX8, (some .int), "handIn", [])
set_option maxRecDepth 40000 in
theorem Y_X8_handIn : ac_Y yX8_handIn mX8_handIn 2 := ⟨List.mem_filter.mpr ⟨List.mem_append_right _ (List.mem_of_getElem? (i := 434) rfl), rfl⟩, ⟨by decide, by decide, by decide +kernel⟩, (ac_inT 1 (by decide +kernel))⟩
def mX8_existingRun : ac_M := (cX8_existingRun, 3, RX8, (some (.object "RuleCrypts$Run")), "existingRun", [])
set_option maxRecDepth 40000 in
theorem Y_X8_existingRun : ac_Y yX8_existingRun mX8_existingRun 1 := ⟨List.mem_filter.mpr ⟨List.mem_append_right _ (List.mem_of_getElem? (i := 637) rfl), rfl⟩, ⟨by decide, by decide, by decide +kernel⟩, (ac_inT 1 (by decide +kernel))⟩
def mX8_judge : ac_M := (cX8_judge, 3, RX8, (some .int), "judge", [])
set_option maxRecDepth 40000 in
theorem Y_X8_judge : ac_Y yX8_judge mX8_judge 1 := ⟨List.mem_filter.mpr ⟨List.mem_append_right _ (List.mem_of_getElem? (i := 633) rfl), rfl⟩, ⟨by decide, by decide, by decide +kernel⟩, (ac_inT 1 (by decide +kernel))⟩
def mX8_packs : ac_M := (cX8_packs, 1, RX8, (some .int), "packs", [])
set_option maxRecDepth 40000 in
theorem Y_X8_packs : ac_Y yX8_packs mX8_packs 0 := ⟨List.mem_filter.mpr ⟨List.mem_append_right _ (List.mem_of_getElem? (i := 136) rfl), rfl⟩, ⟨by decide, by decide, by decide +kernel⟩, (ac_inT 1 (by decide +kernel))⟩
def mX8_changes : ac_M := (cX8_changes, 2, RX8, (some .int), "changes", [])
set_option maxRecDepth 40000 in
theorem Y_X8_changes : ac_Y yX8_changes mX8_changes 1 := ⟨List.mem_filter.mpr ⟨List.mem_append_right _ (List.mem_of_getElem? (i := 687) rfl), rfl⟩, ⟨by decide, by decide, by decide +kernel⟩, (ac_inT 1 (by decide +kernel))⟩
def mX8_isPossible : ac_M := (cX8_isPossible, 2, RX8, (some .boolean), "isPossible", [])
set_option maxRecDepth 40000 in
theorem Y_X8_isPossible : ac_Y yX8_isPossible mX8_isPossible 1 := ⟨List.mem_filter.mpr ⟨List.mem_append_right _ (List.mem_of_getElem? (i := 694) rfl), rfl⟩, ⟨by decide, by decide, by decide +kernel⟩, (ac_inT 1 (by decide +kernel))⟩
def mX8_orderAt : ac_M := (cX8_orderAt, 3, RX8, (some .int), "orderAt", [])
set_option maxRecDepth 40000 in
theorem Y_X8_orderAt : ac_Y yX8_orderAt mX8_orderAt 2 := ⟨List.mem_filter.mpr ⟨List.mem_append_right _ (List.mem_of_getElem? (i := 701) rfl), rfl⟩, ⟨by decide, by decide, by decide +kernel⟩, (ac_inT 1 (by decide +kernel))⟩
def mX8_ruleOf : ac_M := (cX8_ruleOf, 3, RX8, (some .int), "ruleOf", [])
set_option maxRecDepth 40000 in
theorem Y_X8_ruleOf : ac_Y yX8_ruleOf mX8_ruleOf 2 := ⟨List.mem_filter.mpr ⟨List.mem_append_right _ (List.mem_of_getElem? (i := 713) rfl), rfl⟩, ⟨by decide, by decide, by decide +kernel⟩, (ac_inT 1 (by decide +kernel))⟩
def mX8_today : ac_M := (cX8_today, 1, RX8, (some .int), "today", [])
set_option maxRecDepth 40000 in
theorem Y_X8_today : ac_Y yX8_today mX8_today 0 := ⟨List.mem_filter.mpr ⟨List.mem_append_right _ (List.mem_of_getElem? (i := 140) rfl), rfl⟩, ⟨by decide, by decide, by decide +kernel⟩, (ac_inT 1 (by decide +kernel))⟩
def mX8_dungeons : ac_M := (cX8_dungeons, 1, RX8, (some .int), "dungeons", [])
set_option maxRecDepth 40000 in
theorem Y_X8_dungeons : ac_Y yX8_dungeons mX8_dungeons 0 := ⟨List.mem_filter.mpr ⟨List.mem_append_right _ (List.mem_of_getElem? (i := 144) rfl), rfl⟩, ⟨by decide, by decide, by decide +kernel⟩, (ac_inT 1 (by decide +kernel))⟩
def mX8_dungeonToday : ac_M := (cX8_dungeonToday, 2, RX8, (some .int), "dungeonToday", [])
set_option maxRecDepth 40000 in
theorem Y_X8_dungeonToday : ac_Y yX8_dungeonToday mX8_dungeonToday 0 := ⟨List.mem_filter.mpr ⟨List.mem_append_right _ (List.mem_of_getElem? (i := 148) rfl), rfl⟩, ⟨by decide, by decide, by decide +kernel⟩, (ac_inT 1 (by decide +kernel))⟩
def mX8_existingDungeon : ac_M := (cX8_existingDungeon, 3, RX8, (some (.object "RuleCrypts$Dungeon")), "existingDungeon", [])
set_option maxRecDepth 40000 in
theorem Y_X8_existingDungeon : ac_Y yX8_existingDungeon mX8_existingDungeon 1 := ⟨List.mem_filter.mpr ⟨List.mem_append_right _ (List.mem_of_getElem? (i := 728) rfl), rfl⟩, ⟨by decide, by decide, by decide +kernel⟩, (ac_inT 1 (by decide +kernel))⟩
def mX8_existingFloor : ac_M := (cX8_existingFloor, 4, RX8, (some (.object "RuleCrypts$Floor")), "existingFloor", [])
set_option maxRecDepth 40000 in
theorem Y_X8_existingFloor : ac_Y yX8_existingFloor mX8_existingFloor 2 := ⟨List.mem_filter.mpr ⟨List.mem_append_right _ (List.mem_of_getElem? (i := 724) rfl), rfl⟩, ⟨by decide, by decide, by decide +kernel⟩, (ac_inT 1 (by decide +kernel))⟩
def mX8_requireRoom : ac_M := (cX8_requireRoom, 1, RX8, none, "requireRoom", [])
set_option maxRecDepth 40000 in
theorem Y_X8_requireRoom : ac_Y yX8_requireRoom mX8_requireRoom 1 := ⟨List.mem_filter.mpr ⟨List.mem_append_right _ (List.mem_of_getElem? (i := 734) rfl), rfl⟩, ⟨by decide, by decide, by decide +kernel⟩, (ac_inT 1 (by decide +kernel))⟩
def mX8_hasDoor : ac_M := (cX8_hasDoor, 6, RX8, (some .boolean), "hasDoor", [])
set_option maxRecDepth 40000 in
theorem Y_X8_hasDoor : ac_Y yX8_hasDoor mX8_hasDoor 4 := ⟨List.mem_filter.mpr ⟨List.mem_append_right _ (List.mem_of_getElem? (i := 720) rfl), rfl⟩, ⟨by decide, by decide, by decide +kernel⟩, (ac_inT 1 (by decide +kernel))⟩
def mX8_monster : ac_M := (cX8_monster, 5, RX8, (some .int), "monster", [])
set_option maxRecDepth 40000 in
theorem Y_X8_monster : ac_Y yX8_monster mX8_monster 3 := ⟨List.mem_filter.mpr ⟨List.mem_append_right _ (List.mem_of_getElem? (i := 745) rfl), rfl⟩, ⟨by decide, by decide, by decide +kernel⟩, (ac_inT 1 (by decide +kernel))⟩
def mX8_hasTreasure : ac_M := (cX8_hasTreasure, 5, RX8, (some .boolean), "hasTreasure", [])
set_option maxRecDepth 40000 in
theorem Y_X8_hasTreasure : ac_Y yX8_hasTreasure mX8_hasTreasure 3 := ⟨List.mem_filter.mpr ⟨List.mem_append_right _ (List.mem_of_getElem? (i := 752) rfl), rfl⟩, ⟨by decide, by decide, by decide +kernel⟩, (ac_inT 1 (by decide +kernel))⟩
def mX8_stairs : ac_M := (cX8_stairs, 3, RX8, (some .int), "stairs", [])
set_option maxRecDepth 40000 in
theorem Y_X8_stairs : ac_Y yX8_stairs mX8_stairs 2 := ⟨List.mem_filter.mpr ⟨List.mem_append_right _ (List.mem_of_getElem? (i := 759) rfl), rfl⟩, ⟨by decide, by decide, by decide +kernel⟩, (ac_inT 1 (by decide +kernel))⟩
def mX8_way : ac_M := (cX8_way, 5, RX8, (some .int), "way", [])
set_option maxRecDepth 40000 in
theorem Y_X8_way : ac_Y yX8_way mX8_way 3 := ⟨List.mem_filter.mpr ⟨List.mem_append_right _ (List.mem_of_getElem? (i := 766) rfl), rfl⟩, ⟨by decide, by decide, by decide +kernel⟩, (ac_inT 1 (by decide +kernel))⟩
def mX8_wayByDoors : ac_M := (cX8_wayByDoors, 5, RX8, (some .int), "wayByDoors", [])
set_option maxRecDepth 40000 in
theorem Y_X8_wayByDoors : ac_Y yX8_wayByDoors mX8_wayByDoors 3 := ⟨List.mem_filter.mpr ⟨List.mem_append_right _ (List.mem_of_getElem? (i := 773) rfl), rfl⟩, ⟨by decide, by decide, by decide +kernel⟩, (ac_inT 1 (by decide +kernel))⟩
def mX8_runs : ac_M := (cX8_runs, 1, RX8, (some .int), "runs", [])
set_option maxRecDepth 40000 in
theorem Y_X8_runs : ac_Y yX8_runs mX8_runs 0 := ⟨List.mem_filter.mpr ⟨List.mem_append_right _ (List.mem_of_getElem? (i := 206) rfl), rfl⟩, ⟨by decide, by decide, by decide +kernel⟩, (ac_inT 1 (by decide +kernel))⟩
def mX8_dungeonOf : ac_M := (cX8_dungeonOf, 2, RX8, (some .int), "dungeonOf", [])
set_option maxRecDepth 40000 in
theorem Y_X8_dungeonOf : ac_Y yX8_dungeonOf mX8_dungeonOf 1 := ⟨List.mem_filter.mpr ⟨List.mem_append_right _ (List.mem_of_getElem? (i := 788) rfl), rfl⟩, ⟨by decide, by decide, by decide +kernel⟩, (ac_inT 1 (by decide +kernel))⟩
def mX8_verdict : ac_M := (cX8_verdict, 2, RX8, (some .int), "verdict", [])
set_option maxRecDepth 40000 in
theorem Y_X8_verdict : ac_Y yX8_verdict mX8_verdict 1 := ⟨List.mem_filter.mpr ⟨List.mem_append_right _ (List.mem_of_getElem? (i := 795) rfl), rfl⟩, ⟨by decide, by decide, by decide +kernel⟩, (ac_inT 1 (by decide +kernel))⟩
def mX8_scoreOf : ac_M := (cX8_scoreOf, 2, RX8, (some .int), "scoreOf", [])
set_option maxRecDepth 40000 in
theorem Y_X8_scoreOf : ac_Y yX8_scoreOf mX8_scoreOf 1 := ⟨List.mem_filter.mpr ⟨List.mem_append_right _ (List.mem_of_getElem? (i := 802) rfl), rfl⟩, ⟨by decide, by decide, by decide +kernel⟩, (ac_inT 1 (by decide +kernel))⟩
def mX8_endOf : ac_M := (cX8_endOf, 2, RX8, (some .int), "endOf", [])
set_option maxRecDepth 40000 in
theorem Y_X8_endOf : ac_Y yX8_endOf mX8_endOf 1 := ⟨List.mem_filter.mpr ⟨List.mem_append_right _ (List.mem_of_getElem? (i := 809) rfl), rfl⟩, ⟨by decide, by decide, by decide +kernel⟩, (ac_inT 1 (by decide +kernel))⟩
def mX8_countAhead : ac_M := (cX8_countAhead, 5, RX8, (some .int), "countAhead", [])
set_option maxRecDepth 40000 in
theorem Y_X8_countAhead : ac_Y yX8_countAhead mX8_countAhead 1 := ⟨List.mem_filter.mpr ⟨List.mem_append_right _ (List.mem_of_getElem? (i := 824) rfl), rfl⟩, ⟨by decide, by decide, by decide +kernel⟩, (ac_inT 1 (by decide +kernel))⟩
def mX8_rank : ac_M := (cX8_rank, 3, RX8, (some .int), "rank", [])
set_option maxRecDepth 40000 in
theorem Y_X8_rank : ac_Y yX8_rank mX8_rank 1 := ⟨List.mem_filter.mpr ⟨List.mem_append_right _ (List.mem_of_getElem? (i := 816) rfl), rfl⟩, ⟨by decide, by decide, by decide +kernel⟩, (ac_inT 1 (by decide +kernel))⟩
def mX8_ranked : ac_M := (cX8_ranked, 5, RX8, (some .int), "ranked", [])
set_option maxRecDepth 40000 in
theorem Y_X8_ranked : ac_Y yX8_ranked mX8_ranked 2 := ⟨List.mem_filter.mpr ⟨List.mem_append_right _ (List.mem_of_getElem? (i := 840) rfl), rfl⟩, ⟨by decide, by decide, by decide +kernel⟩, (ac_inT 1 (by decide +kernel))⟩
def mX8_glory : ac_M := (cX8_glory, 5, RX8, (some .int), "glory", [])
set_option maxRecDepth 40000 in
theorem Y_X8_glory : ac_Y yX8_glory mX8_glory 1 := ⟨List.mem_filter.mpr ⟨List.mem_append_right _ (List.mem_of_getElem? (i := 848) rfl), rfl⟩, ⟨by decide, by decide, by decide +kernel⟩, (ac_inT 1 (by decide +kernel))⟩
def mX9_init : ac_M := (cX9_init, 1, RX9, none, "<init>", [])
set_option maxRecDepth 40000 in
theorem Y_X9_init : ac_Y yX9_init mX9_init 0 := ⟨List.mem_filter.mpr ⟨List.mem_append_right _ (List.mem_of_getElem? (i := 853) rfl), rfl⟩, ⟨by decide, by decide, by decide +kernel⟩, (ac_inT 4 (by decide +kernel))⟩
def mX9_thrown : ac_M := (cX9_thrown, 1, RX9, (some .int), "thrown", [])
set_option maxRecDepth 40000 in
theorem Y_X9_thrown : ac_Y yX9_thrown mX9_thrown 0 := ⟨List.mem_filter.mpr ⟨List.mem_append_right _ (List.mem_of_getElem? (i := 980) rfl), rfl⟩, ⟨by decide, by decide, by decide +kernel⟩, (ac_inT 4 (by decide +kernel))⟩
def mX9_holds : ac_M := (cX9_holds, 2, RX9, (some .boolean), "holds", [])
set_option maxRecDepth 40000 in
theorem Y_X9_holds : ac_Y yX9_holds mX9_holds 1 := ⟨List.mem_filter.mpr ⟨List.mem_append_right _ (List.mem_of_getElem? (i := 988) rfl), rfl⟩, ⟨by decide, by decide, by decide +kernel⟩, (ac_inT 4 (by decide +kernel))⟩
def mX9_in : ac_M := (cX9_in, 3, RX9, (some .boolean), "in", [])
set_option maxRecDepth 40000 in
theorem Y_X9_in : ac_Y yX9_in mX9_in 3 := ⟨List.mem_filter.mpr ⟨List.mem_append_right _ (List.mem_of_getElem? (i := 999) rfl), rfl⟩, ⟨by decide, by decide, by decide +kernel⟩, (ac_inT 4 (by decide +kernel))⟩
def mX9_isPack : ac_M := (cX9_isPack, 2, RX9, (some .boolean), "isPack", [])
set_option maxRecDepth 40000 in
theorem Y_X9_isPack : ac_Y yX9_isPack mX9_isPack 1 := ⟨List.mem_filter.mpr ⟨List.mem_append_right _ (List.mem_of_getElem? (i := 996) rfl), rfl⟩, ⟨by decide, by decide, by decide +kernel⟩, (ac_inT 4 (by decide +kernel))⟩
def mX9_isRule : ac_M := (cX9_isRule, 1, RX9, (some .boolean), "isRule", [])
set_option maxRecDepth 40000 in
theorem Y_X9_isRule : ac_Y yX9_isRule mX9_isRule 1 := ⟨List.mem_filter.mpr ⟨List.mem_append_right _ (List.mem_of_getElem? (i := 1002) rfl), rfl⟩, ⟨by decide, by decide, by decide +kernel⟩, (ac_inT 4 (by decide +kernel))⟩
def mX9_isRun : ac_M := (cX9_isRun, 2, RX9, (some .boolean), "isRun", [])
set_option maxRecDepth 40000 in
theorem Y_X9_isRun : ac_Y yX9_isRun mX9_isRun 1 := ⟨List.mem_filter.mpr ⟨List.mem_append_right _ (List.mem_of_getElem? (i := 1106) rfl), rfl⟩, ⟨by decide, by decide, by decide +kernel⟩, (ac_inT 4 (by decide +kernel))⟩
def mX9_isPlayer : ac_M := (cX9_isPlayer, 1, RX9, (some .boolean), "isPlayer", [])
set_option maxRecDepth 40000 in
theorem Y_X9_isPlayer : ac_Y yX9_isPlayer mX9_isPlayer 1 := ⟨List.mem_filter.mpr ⟨List.mem_append_right _ (List.mem_of_getElem? (i := 1067) rfl), rfl⟩, ⟨by decide, by decide, by decide +kernel⟩, (ac_inT 4 (by decide +kernel))⟩
def mX9_isDungeon : ac_M := (cX9_isDungeon, 2, RX9, (some .boolean), "isDungeon", [])
set_option maxRecDepth 40000 in
theorem Y_X9_isDungeon : ac_Y yX9_isDungeon mX9_isDungeon 1 := ⟨List.mem_filter.mpr ⟨List.mem_append_right _ (List.mem_of_getElem? (i := 1166) rfl), rfl⟩, ⟨by decide, by decide, by decide +kernel⟩, (ac_inT 4 (by decide +kernel))⟩
def mX9_isFloor : ac_M := (cX9_isFloor, 3, RX9, (some .boolean), "isFloor", [])
set_option maxRecDepth 40000 in
theorem Y_X9_isFloor : ac_Y yX9_isFloor mX9_isFloor 2 := ⟨List.mem_filter.mpr ⟨List.mem_append_right _ (List.mem_of_getElem? (i := 1162) rfl), rfl⟩, ⟨by decide, by decide, by decide +kernel⟩, (ac_inT 4 (by decide +kernel))⟩
def mX9_isRoom : ac_M := (cX9_isRoom, 4, RX9, (some .boolean), "isRoom", [])
set_option maxRecDepth 40000 in
theorem Y_X9_isRoom : ac_Y yX9_isRoom mX9_isRoom 3 := ⟨List.mem_filter.mpr ⟨List.mem_append_right _ (List.mem_of_getElem? (i := 1158) rfl), rfl⟩, ⟨by decide, by decide, by decide +kernel⟩, (ac_inT 4 (by decide +kernel))⟩
def mX9_areSet : ac_M := (cX9_areSet, 2, RX9, (some .boolean), "areSet", [])
set_option maxRecDepth 40000 in
theorem Y_X9_areSet : ac_Y yX9_areSet mX9_areSet 1 := ⟨List.mem_filter.mpr ⟨List.mem_append_right _ (List.mem_of_getElem? (i := 1020) rfl), rfl⟩, ⟨by decide, by decide, by decide +kernel⟩, (ac_inT 4 (by decide +kernel))⟩
def mX9_least : ac_M := (cX9_least, 1, RX9, (some .int), "least", [])
set_option maxRecDepth 40000 in
theorem Y_X9_least : ac_Y yX9_least mX9_least 1 := ⟨List.mem_filter.mpr ⟨List.mem_append_right _ (List.mem_of_getElem? (i := 1005) rfl), rfl⟩, ⟨by decide, by decide, by decide +kernel⟩, (ac_inT 4 (by decide +kernel))⟩
def mX9_most : ac_M := (cX9_most, 1, RX9, (some .int), "most", [])
set_option maxRecDepth 40000 in
theorem Y_X9_most : ac_Y yX9_most mX9_most 1 := ⟨List.mem_filter.mpr ⟨List.mem_append_right _ (List.mem_of_getElem? (i := 1008) rfl), rfl⟩, ⟨by decide, by decide, by decide +kernel⟩, (ac_inT 4 (by decide +kernel))⟩
def mX9_firstOf : ac_M := (cX9_firstOf, 1, RX9, (some .int), "firstOf", [])
set_option maxRecDepth 40000 in
theorem Y_X9_firstOf : ac_Y yX9_firstOf mX9_firstOf 1 := ⟨List.mem_filter.mpr ⟨List.mem_append_right _ (List.mem_of_getElem? (i := 1056) rfl), rfl⟩, ⟨by decide, by decide, by decide +kernel⟩, (ac_inT 4 (by decide +kernel))⟩
def mX9_pack : ac_M := (cX9_pack, 1, RX9, (some .int), "pack", [])
set_option maxRecDepth 40000 in
theorem Y_X9_pack : ac_Y yX9_pack mX9_pack 0 := ⟨List.mem_filter.mpr ⟨List.mem_append_right _ (List.mem_of_getElem? (i := 984) rfl), rfl⟩, ⟨by decide, by decide, by decide +kernel⟩, (ac_inT 4 (by decide +kernel))⟩
def mX9_change : ac_M := (cX9_change, 8, RX9, (some .int), "change", [])
set_option maxRecDepth 40000 in
theorem Y_X9_change : ac_Y yX9_change mX9_change 4 := ⟨List.mem_filter.mpr ⟨List.mem_append_right _ (List.mem_of_getElem? (i := 992) rfl), rfl⟩, ⟨by decide, by decide, by decide +kernel⟩, (ac_inT 4 (by decide +kernel))⟩
def mX9_mend : ac_M := (cX9_mend, 2, RX9, (some .int), "mend", [])
set_option maxRecDepth 40000 in
theorem Y_X9_mend : ac_Y yX9_mend mX9_mend 1 := ⟨List.mem_filter.mpr ⟨List.mem_append_right _ (List.mem_of_getElem? (i := 1012) rfl), rfl⟩, ⟨by decide, by decide, by decide +kernel⟩, (ac_inT 4 (by decide +kernel))⟩
def mX9_setNeeds : ac_M := (cX9_setNeeds, 5, RX9, (some .int), "setNeeds", [])
set_option maxRecDepth 40000 in
theorem Y_X9_setNeeds : ac_Y yX9_setNeeds mX9_setNeeds 2 := ⟨List.mem_filter.mpr ⟨List.mem_append_right _ (List.mem_of_getElem? (i := 1016) rfl), rfl⟩, ⟨by decide, by decide, by decide +kernel⟩, (ac_inT 4 (by decide +kernel))⟩
def mX9_next : ac_M := (cX9_next, 4, RX9, (some .int), "next", [])
set_option maxRecDepth 40000 in
theorem Y_X9_next : ac_Y yX9_next mX9_next 2 := ⟨List.mem_filter.mpr ⟨List.mem_append_right _ (List.mem_of_getElem? (i := 1033) rfl), rfl⟩, ⟨by decide, by decide, by decide +kernel⟩, (ac_inT 4 (by decide +kernel))⟩
def mX9_orders : ac_M := (cX9_orders, 4, RX9, (some .boolean), "orders", [])
set_option maxRecDepth 40000 in
theorem Y_X9_orders : ac_Y yX9_orders mX9_orders 1 := ⟨List.mem_filter.mpr ⟨List.mem_append_right _ (List.mem_of_getElem? (i := 1029) rfl), rfl⟩, ⟨by decide, by decide, by decide +kernel⟩, (ac_inT 4 (by decide +kernel))⟩
def mX9_applies : ac_M := (cX9_applies, 4, RX9, none, "applies", [])
set_option maxRecDepth 40000 in
theorem Y_X9_applies : ac_Y yX9_applies mX9_applies 1 := ⟨List.mem_filter.mpr ⟨List.mem_append_right _ (List.mem_of_getElem? (i := 1060) rfl), rfl⟩, ⟨by decide, by decide, by decide +kernel⟩, (ac_inT 4 (by decide +kernel))⟩
def mX9_hasRules : ac_M := (cX9_hasRules, 5, RX9, (some .boolean), "hasRules", [])
set_option maxRecDepth 40000 in
theorem Y_X9_hasRules : ac_Y yX9_hasRules mX9_hasRules 1 := ⟨List.mem_filter.mpr ⟨List.mem_append_right _ (List.mem_of_getElem? (i := 1053) rfl), rfl⟩, ⟨by decide, by decide, by decide +kernel⟩, (ac_inT 4 (by decide +kernel))⟩
def mX9_open : ac_M := (cX9_open, 4, RX9, (some .int), "open", [])
set_option maxRecDepth 40000 in
theorem Y_X9_open : ac_Y yX9_open mX9_open 2 := ⟨List.mem_filter.mpr ⟨List.mem_append_right _ (List.mem_of_getElem? (i := 1024) rfl), rfl⟩, ⟨by decide, by decide, by decide +kernel⟩, (ac_inT 4 (by decide +kernel))⟩
def mX9_key : ac_M := (cX9_key, 2, RX9, (some .int), "key", [])
set_option maxRecDepth 40000 in
theorem Y_X9_key : ac_Y yX9_key mX9_key 1 := ⟨List.mem_filter.mpr ⟨List.mem_append_right _ (List.mem_of_getElem? (i := 1037) rfl), rfl⟩, ⟨by decide, by decide, by decide +kernel⟩, (ac_inT 4 (by decide +kernel))⟩
def mX9_wipe : ac_M := (cX9_wipe, 2, RX9, (some .int), "wipe", [])
set_option maxRecDepth 40000 in
theorem Y_X9_wipe : ac_Y yX9_wipe mX9_wipe 0 := ⟨List.mem_filter.mpr ⟨List.mem_append_right _ (List.mem_of_getElem? (i := 1041) rfl), rfl⟩, ⟨by decide, by decide, by decide +kernel⟩, (ac_inT 4 (by decide +kernel))⟩
def mX9_hasToday : ac_M := (cX9_hasToday, 1, RX9, (some .boolean), "hasToday", [])
set_option maxRecDepth 40000 in
theorem Y_X9_hasToday : ac_Y yX9_hasToday mX9_hasToday 0 := ⟨List.mem_filter.mpr ⟨List.mem_append_right _ (List.mem_of_getElem? (i := 1049) rfl), rfl⟩, ⟨by decide, by decide, by decide +kernel⟩, (ac_inT 4 (by decide +kernel))⟩
def mX9_had : ac_M := (cX9_had, 4, RX9, (some .int), "had", [])
set_option maxRecDepth 40000 in
theorem Y_X9_had : ac_Y yX9_had mX9_had 0 := ⟨List.mem_filter.mpr ⟨List.mem_append_right _ (List.mem_of_getElem? (i := 1064) rfl), rfl⟩, ⟨by decide, by decide, by decide +kernel⟩, (ac_inT 4 (by decide +kernel))⟩
def mX9_draws : ac_M := (cX9_draws, 1, RX9, (some .int), "draws", [])
set_option maxRecDepth 40000 in
theorem Y_X9_draws : ac_Y yX9_draws mX9_draws 0 := ⟨List.mem_filter.mpr ⟨List.mem_append_right _ (List.mem_of_getElem? (i := 1079) rfl), rfl⟩, ⟨by decide, by decide, by decide +kernel⟩, (ac_inT 4 (by decide +kernel))⟩
def mX9_beside : ac_M := (cX9_beside, 4, RX9, (some .int), "beside", [])
set_option maxRecDepth 40000 in
theorem Y_X9_beside : ac_Y yX9_beside mX9_beside 2 := ⟨List.mem_filter.mpr ⟨List.mem_append_right _ (List.mem_of_getElem? (i := 1086) rfl), rfl⟩, ⟨by decide, by decide, by decide +kernel⟩, (ac_inT 4 (by decide +kernel))⟩
def mX9_toFind : ac_M := (cX9_toFind, 5, RX9, (some .int), "toFind", [])
set_option maxRecDepth 40000 in
theorem Y_X9_toFind : ac_Y yX9_toFind mX9_toFind 3 := ⟨List.mem_filter.mpr ⟨List.mem_append_right _ (List.mem_of_getElem? (i := 1083) rfl), rfl⟩, ⟨by decide, by decide, by decide +kernel⟩, (ac_inT 4 (by decide +kernel))⟩
def mX9_joins : ac_M := (cX9_joins, 4, RX9, none, "joins", [])
set_option maxRecDepth 40000 in
theorem Y_X9_joins : ac_Y yX9_joins mX9_joins 3 := ⟨List.mem_filter.mpr ⟨List.mem_append_right _ (List.mem_of_getElem? (i := 1090) rfl), rfl⟩, ⟨by decide, by decide, by decide +kernel⟩, (ac_inT 4 (by decide +kernel))⟩
def mX9_growsWays : ac_M := (cX9_growsWays, 9, RX9, none, "growsWays", [])
set_option maxRecDepth 40000 in
theorem Y_X9_growsWays : ac_Y yX9_growsWays mX9_growsWays 2 := ⟨List.mem_filter.mpr ⟨List.mem_append_right _ (List.mem_of_getElem? (i := 1075) rfl), rfl⟩, ⟨by decide, by decide, by decide +kernel⟩, (ac_inT 4 (by decide +kernel))⟩
def mX9_growsRest : ac_M := (cX9_growsRest, 8, RX9, none, "growsRest", [])
set_option maxRecDepth 40000 in
theorem Y_X9_growsRest : ac_Y yX9_growsRest mX9_growsRest 3 := ⟨List.mem_filter.mpr ⟨List.mem_append_right _ (List.mem_of_getElem? (i := 1094) rfl), rfl⟩, ⟨by decide, by decide, by decide +kernel⟩, (ac_inT 4 (by decide +kernel))⟩
def mX9_counts : ac_M := (cX9_counts, 7, RX9, none, "counts", [])
set_option maxRecDepth 40000 in
theorem Y_X9_counts : ac_Y yX9_counts mX9_counts 2 := ⟨List.mem_filter.mpr ⟨List.mem_append_right _ (List.mem_of_getElem? (i := 1098) rfl), rfl⟩, ⟨by decide, by decide, by decide +kernel⟩, (ac_inT 4 (by decide +kernel))⟩
def mX9_grows : ac_M := (cX9_grows, 7, RX9, none, "grows", [])
set_option maxRecDepth 40000 in
theorem Y_X9_grows : ac_Y yX9_grows mX9_grows 1 := ⟨List.mem_filter.mpr ⟨List.mem_append_right _ (List.mem_of_getElem? (i := 1071) rfl), rfl⟩, ⟨by decide, by decide, by decide +kernel⟩, (ac_inT 4 (by decide +kernel))⟩
def mX9_handIn : ac_M := (cX9_handIn, 7, RX9, (some .int), "handIn", [])
set_option maxRecDepth 40000 in
theorem Y_X9_handIn : ac_Y yX9_handIn mX9_handIn 2 := ⟨List.mem_filter.mpr ⟨List.mem_append_right _ (List.mem_of_getElem? (i := 1045) rfl), rfl⟩, ⟨by decide, by decide, by decide +kernel⟩, (ac_inT 4 (by decide +kernel))⟩
def mX9_entryOf : ac_M := (cX9_entryOf, 3, RX9, (some .int), "entryOf", [])
set_option maxRecDepth 40000 in
theorem Y_X9_entryOf : ac_Y yX9_entryOf mX9_entryOf 2 := ⟨List.mem_filter.mpr ⟨List.mem_append_right _ (List.mem_of_getElem? (i := 1190) rfl), rfl⟩, ⟨by decide, by decide, by decide +kernel⟩, (ac_inT 4 (by decide +kernel))⟩
def mX9_comes : ac_M := (cX9_comes, 3, RX9, none, "comes", [])
set_option maxRecDepth 40000 in
theorem Y_X9_comes : ac_Y yX9_comes mX9_comes 1 := ⟨List.mem_filter.mpr ⟨List.mem_append_right _ (List.mem_of_getElem? (i := 1118) rfl), rfl⟩, ⟨by decide, by decide, by decide +kernel⟩, (ac_inT 4 (by decide +kernel))⟩
def mX9_turns : ac_M := (cX9_turns, 5, RX9, (some .boolean), "turns", [])
set_option maxRecDepth 40000 in
theorem Y_X9_turns : ac_Y yX9_turns mX9_turns 2 := ⟨List.mem_filter.mpr ⟨List.mem_append_right _ (List.mem_of_getElem? (i := 1114) rfl), rfl⟩, ⟨by decide, by decide, by decide +kernel⟩, (ac_inT 4 (by decide +kernel))⟩
def mX9_plays : ac_M := (cX9_plays, 4, RX9, none, "plays", [])
set_option maxRecDepth 40000 in
theorem Y_X9_plays : ac_Y yX9_plays mX9_plays 1 := ⟨List.mem_filter.mpr ⟨List.mem_append_right _ (List.mem_of_getElem? (i := 1110) rfl), rfl⟩, ⟨by decide, by decide, by decide +kernel⟩, (ac_inT 4 (by decide +kernel))⟩
def mX9_judge : ac_M := (cX9_judge, 2, RX9, (some .int), "judge", [])
set_option maxRecDepth 40000 in
theorem Y_X9_judge : ac_Y yX9_judge mX9_judge 1 := ⟨List.mem_filter.mpr ⟨List.mem_append_right _ (List.mem_of_getElem? (i := 1102) rfl), rfl⟩, ⟨by decide, by decide, by decide +kernel⟩, (ac_inT 4 (by decide +kernel))⟩
def mX9_packs : ac_M := (cX9_packs, 1, RX9, (some .int), "packs", [])
set_option maxRecDepth 40000 in
theorem Y_X9_packs : ac_Y yX9_packs mX9_packs 0 := ⟨List.mem_filter.mpr ⟨List.mem_append_right _ (List.mem_of_getElem? (i := 1122) rfl), rfl⟩, ⟨by decide, by decide, by decide +kernel⟩, (ac_inT 4 (by decide +kernel))⟩
def mX9_changes : ac_M := (cX9_changes, 2, RX9, (some .int), "changes", [])
set_option maxRecDepth 40000 in
theorem Y_X9_changes : ac_Y yX9_changes mX9_changes 1 := ⟨List.mem_filter.mpr ⟨List.mem_append_right _ (List.mem_of_getElem? (i := 1126) rfl), rfl⟩, ⟨by decide, by decide, by decide +kernel⟩, (ac_inT 4 (by decide +kernel))⟩
def mX9_isPossible : ac_M := (cX9_isPossible, 2, RX9, (some .boolean), "isPossible", [])
set_option maxRecDepth 40000 in
theorem Y_X9_isPossible : ac_Y yX9_isPossible mX9_isPossible 1 := ⟨List.mem_filter.mpr ⟨List.mem_append_right _ (List.mem_of_getElem? (i := 1130) rfl), rfl⟩, ⟨by decide, by decide, by decide +kernel⟩, (ac_inT 4 (by decide +kernel))⟩
def mX9_orderAt : ac_M := (cX9_orderAt, 4, RX9, (some .int), "orderAt", [])
set_option maxRecDepth 40000 in
theorem Y_X9_orderAt : ac_Y yX9_orderAt mX9_orderAt 2 := ⟨List.mem_filter.mpr ⟨List.mem_append_right _ (List.mem_of_getElem? (i := 1134) rfl), rfl⟩, ⟨by decide, by decide, by decide +kernel⟩, (ac_inT 4 (by decide +kernel))⟩
def mX9_ruleOf : ac_M := (cX9_ruleOf, 3, RX9, (some .int), "ruleOf", [])
set_option maxRecDepth 40000 in
theorem Y_X9_ruleOf : ac_Y yX9_ruleOf mX9_ruleOf 2 := ⟨List.mem_filter.mpr ⟨List.mem_append_right _ (List.mem_of_getElem? (i := 1138) rfl), rfl⟩, ⟨by decide, by decide, by decide +kernel⟩, (ac_inT 4 (by decide +kernel))⟩
def mX9_today : ac_M := (cX9_today, 1, RX9, (some .int), "today", [])
set_option maxRecDepth 40000 in
theorem Y_X9_today : ac_Y yX9_today mX9_today 0 := ⟨List.mem_filter.mpr ⟨List.mem_append_right _ (List.mem_of_getElem? (i := 1142) rfl), rfl⟩, ⟨by decide, by decide, by decide +kernel⟩, (ac_inT 4 (by decide +kernel))⟩
def mX9_dungeons : ac_M := (cX9_dungeons, 1, RX9, (some .int), "dungeons", [])
set_option maxRecDepth 40000 in
theorem Y_X9_dungeons : ac_Y yX9_dungeons mX9_dungeons 0 := ⟨List.mem_filter.mpr ⟨List.mem_append_right _ (List.mem_of_getElem? (i := 1146) rfl), rfl⟩, ⟨by decide, by decide, by decide +kernel⟩, (ac_inT 4 (by decide +kernel))⟩
def mX9_dungeonToday : ac_M := (cX9_dungeonToday, 1, RX9, (some .int), "dungeonToday", [])
set_option maxRecDepth 40000 in
theorem Y_X9_dungeonToday : ac_Y yX9_dungeonToday mX9_dungeonToday 0 := ⟨List.mem_filter.mpr ⟨List.mem_append_right _ (List.mem_of_getElem? (i := 1150) rfl), rfl⟩, ⟨by decide, by decide, by decide +kernel⟩, (ac_inT 4 (by decide +kernel))⟩
def mX9_hasDoor : ac_M := (cX9_hasDoor, 6, RX9, (some .boolean), "hasDoor", [])
set_option maxRecDepth 40000 in
theorem Y_X9_hasDoor : ac_Y yX9_hasDoor mX9_hasDoor 4 := ⟨List.mem_filter.mpr ⟨List.mem_append_right _ (List.mem_of_getElem? (i := 1154) rfl), rfl⟩, ⟨by decide, by decide, by decide +kernel⟩, (ac_inT 4 (by decide +kernel))⟩
def mX9_monster : ac_M := (cX9_monster, 4, RX9, (some .int), "monster", [])
set_option maxRecDepth 40000 in
theorem Y_X9_monster : ac_Y yX9_monster mX9_monster 3 := ⟨List.mem_filter.mpr ⟨List.mem_append_right _ (List.mem_of_getElem? (i := 1170) rfl), rfl⟩, ⟨by decide, by decide, by decide +kernel⟩, (ac_inT 4 (by decide +kernel))⟩
def mX9_hasTreasure : ac_M := (cX9_hasTreasure, 5, RX9, (some .boolean), "hasTreasure", [])
set_option maxRecDepth 40000 in
theorem Y_X9_hasTreasure : ac_Y yX9_hasTreasure mX9_hasTreasure 3 := ⟨List.mem_filter.mpr ⟨List.mem_append_right _ (List.mem_of_getElem? (i := 1174) rfl), rfl⟩, ⟨by decide, by decide, by decide +kernel⟩, (ac_inT 4 (by decide +kernel))⟩
def mX9_stairs : ac_M := (cX9_stairs, 3, RX9, (some .int), "stairs", [])
set_option maxRecDepth 40000 in
theorem Y_X9_stairs : ac_Y yX9_stairs mX9_stairs 2 := ⟨List.mem_filter.mpr ⟨List.mem_append_right _ (List.mem_of_getElem? (i := 1178) rfl), rfl⟩, ⟨by decide, by decide, by decide +kernel⟩, (ac_inT 4 (by decide +kernel))⟩
def mX9_wayTo : ac_M := (cX9_wayTo, 4, RX9, (some .int), "wayTo", [])
set_option maxRecDepth 40000 in
theorem Y_X9_wayTo : ac_Y yX9_wayTo mX9_wayTo 3 := ⟨List.mem_filter.mpr ⟨List.mem_append_right _ (List.mem_of_getElem? (i := 1186) rfl), rfl⟩, ⟨by decide, by decide, by decide +kernel⟩, (ac_inT 4 (by decide +kernel))⟩
def mX9_way : ac_M := (cX9_way, 4, RX9, (some .int), "way", [])
set_option maxRecDepth 40000 in
theorem Y_X9_way : ac_Y yX9_way mX9_way 3 := ⟨List.mem_filter.mpr ⟨List.mem_append_right _ (List.mem_of_getElem? (i := 1182) rfl), rfl⟩, ⟨by decide, by decide, by decide +kernel⟩, (ac_inT 4 (by decide +kernel))⟩
def mX9_wayByDoors : ac_M := (cX9_wayByDoors, 4, RX9, (some .int), "wayByDoors", [])
set_option maxRecDepth 40000 in
theorem Y_X9_wayByDoors : ac_Y yX9_wayByDoors mX9_wayByDoors 3 := ⟨List.mem_filter.mpr ⟨List.mem_append_right _ (List.mem_of_getElem? (i := 1194) rfl), rfl⟩, ⟨by decide, by decide, by decide +kernel⟩, (ac_inT 4 (by decide +kernel))⟩
def mX9_runs : ac_M := (cX9_runs, 1, RX9, (some .int), "runs", [])
set_option maxRecDepth 40000 in
theorem Y_X9_runs : ac_Y yX9_runs mX9_runs 0 := ⟨List.mem_filter.mpr ⟨List.mem_append_right _ (List.mem_of_getElem? (i := 1198) rfl), rfl⟩, ⟨by decide, by decide, by decide +kernel⟩, (ac_inT 4 (by decide +kernel))⟩
def mX9_dungeonOf : ac_M := (cX9_dungeonOf, 2, RX9, (some .int), "dungeonOf", [])
set_option maxRecDepth 40000 in
theorem Y_X9_dungeonOf : ac_Y yX9_dungeonOf mX9_dungeonOf 1 := ⟨List.mem_filter.mpr ⟨List.mem_append_right _ (List.mem_of_getElem? (i := 1202) rfl), rfl⟩, ⟨by decide, by decide, by decide +kernel⟩, (ac_inT 4 (by decide +kernel))⟩
def mX9_verdict : ac_M := (cX9_verdict, 2, RX9, (some .int), "verdict", [])
set_option maxRecDepth 40000 in
theorem Y_X9_verdict : ac_Y yX9_verdict mX9_verdict 1 := ⟨List.mem_filter.mpr ⟨List.mem_append_right _ (List.mem_of_getElem? (i := 1206) rfl), rfl⟩, ⟨by decide, by decide, by decide +kernel⟩, (ac_inT 4 (by decide +kernel))⟩
def mX9_scoreOf : ac_M := (cX9_scoreOf, 2, RX9, (some .int), "scoreOf", [])
set_option maxRecDepth 40000 in
theorem Y_X9_scoreOf : ac_Y yX9_scoreOf mX9_scoreOf 1 := ⟨List.mem_filter.mpr ⟨List.mem_append_right _ (List.mem_of_getElem? (i := 1210) rfl), rfl⟩, ⟨by decide, by decide, by decide +kernel⟩, (ac_inT 4 (by decide +kernel))⟩
def mX9_endOf : ac_M := (cX9_endOf, 2, RX9, (some .int), "endOf", [])
set_option maxRecDepth 40000 in
theorem Y_X9_endOf : ac_Y yX9_endOf mX9_endOf 1 := ⟨List.mem_filter.mpr ⟨List.mem_append_right _ (List.mem_of_getElem? (i := 1214) rfl), rfl⟩, ⟨by decide, by decide, by decide +kernel⟩, (ac_inT 4 (by decide +kernel))⟩
def mX9_isAhead : ac_M := (cX9_isAhead, 3, RX9, (some .boolean), "isAhead", [])
set_option maxRecDepth 40000 in
theorem Y_X9_isAhead : ac_Y yX9_isAhead mX9_isAhead 2 := ⟨List.mem_filter.mpr ⟨List.mem_append_right _ (List.mem_of_getElem? (i := 1226) rfl), rfl⟩, ⟨by decide, by decide, by decide +kernel⟩, (ac_inT 4 (by decide +kernel))⟩
def mX9_rankOf : ac_M := (cX9_rankOf, 4, RX9, (some .int), "rankOf", [])
set_option maxRecDepth 40000 in
theorem Y_X9_rankOf : ac_Y yX9_rankOf mX9_rankOf 1 := ⟨List.mem_filter.mpr ⟨List.mem_append_right _ (List.mem_of_getElem? (i := 1222) rfl), rfl⟩, ⟨by decide, by decide, by decide +kernel⟩, (ac_inT 4 (by decide +kernel))⟩
def mX9_rank : ac_M := (cX9_rank, 2, RX9, (some .int), "rank", [])
set_option maxRecDepth 40000 in
theorem Y_X9_rank : ac_Y yX9_rank mX9_rank 1 := ⟨List.mem_filter.mpr ⟨List.mem_append_right _ (List.mem_of_getElem? (i := 1218) rfl), rfl⟩, ⟨by decide, by decide, by decide +kernel⟩, (ac_inT 4 (by decide +kernel))⟩
def mX9_ranked : ac_M := (cX9_ranked, 5, RX9, (some .int), "ranked", [])
set_option maxRecDepth 40000 in
theorem Y_X9_ranked : ac_Y yX9_ranked mX9_ranked 2 := ⟨List.mem_filter.mpr ⟨List.mem_append_right _ (List.mem_of_getElem? (i := 1230) rfl), rfl⟩, ⟨by decide, by decide, by decide +kernel⟩, (ac_inT 4 (by decide +kernel))⟩
def mX9_glory : ac_M := (cX9_glory, 4, RX9, (some .int), "glory", [])
set_option maxRecDepth 40000 in
theorem Y_X9_glory : ac_Y yX9_glory mX9_glory 1 := ⟨List.mem_filter.mpr ⟨List.mem_append_right _ (List.mem_of_getElem? (i := 1234) rfl), rfl⟩, ⟨by decide, by decide, by decide +kernel⟩, (ac_inT 4 (by decide +kernel))⟩
def mL_pack : ac_M := (cL_pack, 3, RL, (some .int), "pack", [(0, 8, 11, 13)])
set_option maxRecDepth 40000 in
theorem Y_L_pack : ac_Y yL_pack mL_pack 2 := ⟨List.mem_filter.mpr ⟨List.mem_append_right _ (List.mem_of_getElem? (i := 209) rfl), rfl⟩, ⟨by decide, by decide, by decide +kernel⟩, (ac_inT 0 (by decide +kernel))⟩
def mL_change : ac_M := (cL_change, 7, RL, (some .int), "change", [(0, 14, 17, 19), (0, 14, 21, 21), (0, 14, 25, 13)])
set_option maxRecDepth 40000 in
theorem Y_L_change : ac_Y yL_change mL_change 6 := ⟨List.mem_filter.mpr ⟨List.mem_append_right _ (List.mem_of_getElem? (i := 308) rfl), rfl⟩, ⟨by decide, by decide, by decide +kernel⟩, (ac_inT 0 (by decide +kernel))⟩
def mL_mend : ac_M := (cL_mend, 4, RL, (some .int), "mend", [(0, 9, 12, 19), (0, 9, 15, 13)])
set_option maxRecDepth 40000 in
theorem Y_L_mend : ac_Y yL_mend mL_mend 3 := ⟨List.mem_filter.mpr ⟨List.mem_append_right _ (List.mem_of_getElem? (i := 380) rfl), rfl⟩, ⟨by decide, by decide, by decide +kernel⟩, (ac_inT 0 (by decide +kernel))⟩
def mL_setNeeds : ac_M := (cL_setNeeds, 5, RL, (some .int), "setNeeds", [(0, 10, 13, 19), (0, 10, 17, 21)])
set_option maxRecDepth 40000 in
theorem Y_L_setNeeds : ac_Y yL_setNeeds mL_setNeeds 4 := ⟨List.mem_filter.mpr ⟨List.mem_append_right _ (List.mem_of_getElem? (i := 388) rfl), rfl⟩, ⟨by decide, by decide, by decide +kernel⟩, (ac_inT 0 (by decide +kernel))⟩
def mL_open : ac_M := (cL_open, 5, RL, (some .int), "open", [(0, 10, 13, 21), (0, 10, 17, 13)])
set_option maxRecDepth 40000 in
theorem Y_L_open : ac_Y yL_open mL_open 4 := ⟨List.mem_filter.mpr ⟨List.mem_append_right _ (List.mem_of_getElem? (i := 406) rfl), rfl⟩, ⟨by decide, by decide, by decide +kernel⟩, (ac_inT 0 (by decide +kernel))⟩
def mL_key : ac_M := (cL_key, 4, RL, (some .int), "key", [(0, 9, 12, 21), (0, 9, 15, 13)])
set_option maxRecDepth 40000 in
theorem Y_L_key : ac_Y yL_key mL_key 3 := ⟨List.mem_filter.mpr ⟨List.mem_append_right _ (List.mem_of_getElem? (i := 421) rfl), rfl⟩, ⟨by decide, by decide, by decide +kernel⟩, (ac_inT 0 (by decide +kernel))⟩
def mL_handIn : ac_M := (cL_handIn, 5, RL, (some .int), "handIn", [(0, 10, 13, 19), (0, 10, 17, 21), (0, 10, 21, 13)])
set_option maxRecDepth 40000 in
theorem Y_L_handIn : ac_Y yL_handIn mL_handIn 4 := ⟨List.mem_filter.mpr ⟨List.mem_append_right _ (List.mem_of_getElem? (i := 430) rfl), rfl⟩, ⟨by decide, by decide, by decide +kernel⟩, (ac_inT 0 (by decide +kernel))⟩
def mL_judge : ac_M := (cL_judge, 4, RL, (some .int), "judge", [(0, 9, 12, 19)])
set_option maxRecDepth 40000 in
theorem Y_L_judge : ac_Y yL_judge mL_judge 3 := ⟨List.mem_filter.mpr ⟨List.mem_append_right _ (List.mem_of_getElem? (i := 629) rfl), rfl⟩, ⟨by decide, by decide, by decide +kernel⟩, (ac_inT 0 (by decide +kernel))⟩
def mL_changes : ac_M := (cL_changes, 4, RL, (some .int), "changes", [(0, 9, 12, 19)])
set_option maxRecDepth 40000 in
theorem Y_L_changes : ac_Y yL_changes mL_changes 3 := ⟨List.mem_filter.mpr ⟨List.mem_append_right _ (List.mem_of_getElem? (i := 683) rfl), rfl⟩, ⟨by decide, by decide, by decide +kernel⟩, (ac_inT 0 (by decide +kernel))⟩
def mL_isPossible : ac_M := (cL_isPossible, 4, RL, (some .int), "isPossible", [(0, 16, 19, 21)])
set_option maxRecDepth 40000 in
theorem Y_L_isPossible : ac_Y yL_isPossible mL_isPossible 3 := ⟨List.mem_filter.mpr ⟨List.mem_append_right _ (List.mem_of_getElem? (i := 690) rfl), rfl⟩, ⟨by decide, by decide, by decide +kernel⟩, (ac_inT 0 (by decide +kernel))⟩
def mL_orderAt : ac_M := (cL_orderAt, 5, RL, (some .int), "orderAt", [(0, 10, 13, 21), (0, 10, 17, 13)])
set_option maxRecDepth 40000 in
theorem Y_L_orderAt : ac_Y yL_orderAt mL_orderAt 4 := ⟨List.mem_filter.mpr ⟨List.mem_append_right _ (List.mem_of_getElem? (i := 697) rfl), rfl⟩, ⟨by decide, by decide, by decide +kernel⟩, (ac_inT 0 (by decide +kernel))⟩
def mL_ruleOf : ac_M := (cL_ruleOf, 5, RL, (some .int), "ruleOf", [(0, 10, 13, 19), (0, 10, 17, 21), (0, 10, 21, 13)])
set_option maxRecDepth 40000 in
theorem Y_L_ruleOf : ac_Y yL_ruleOf mL_ruleOf 4 := ⟨List.mem_filter.mpr ⟨List.mem_append_right _ (List.mem_of_getElem? (i := 709) rfl), rfl⟩, ⟨by decide, by decide, by decide +kernel⟩, (ac_inT 0 (by decide +kernel))⟩
def mL_hasDoor : ac_M := (cL_hasDoor, 7, RL, (some .int), "hasDoor", [(0, 21, 24, 19), (0, 21, 28, 21)])
set_option maxRecDepth 40000 in
theorem Y_L_hasDoor : ac_Y yL_hasDoor mL_hasDoor 6 := ⟨List.mem_filter.mpr ⟨List.mem_append_right _ (List.mem_of_getElem? (i := 716) rfl), rfl⟩, ⟨by decide, by decide, by decide +kernel⟩, (ac_inT 0 (by decide +kernel))⟩
def mL_monster : ac_M := (cL_monster, 6, RL, (some .int), "monster", [(0, 12, 15, 19)])
set_option maxRecDepth 40000 in
theorem Y_L_monster : ac_Y yL_monster mL_monster 5 := ⟨List.mem_filter.mpr ⟨List.mem_append_right _ (List.mem_of_getElem? (i := 741) rfl), rfl⟩, ⟨by decide, by decide, by decide +kernel⟩, (ac_inT 0 (by decide +kernel))⟩
def mL_hasTreasure : ac_M := (cL_hasTreasure, 6, RL, (some .int), "hasTreasure", [(0, 19, 22, 19)])
set_option maxRecDepth 40000 in
theorem Y_L_hasTreasure : ac_Y yL_hasTreasure mL_hasTreasure 5 := ⟨List.mem_filter.mpr ⟨List.mem_append_right _ (List.mem_of_getElem? (i := 748) rfl), rfl⟩, ⟨by decide, by decide, by decide +kernel⟩, (ac_inT 0 (by decide +kernel))⟩
def mL_stairs : ac_M := (cL_stairs, 5, RL, (some .int), "stairs", [(0, 10, 13, 19)])
set_option maxRecDepth 40000 in
theorem Y_L_stairs : ac_Y yL_stairs mL_stairs 4 := ⟨List.mem_filter.mpr ⟨List.mem_append_right _ (List.mem_of_getElem? (i := 755) rfl), rfl⟩, ⟨by decide, by decide, by decide +kernel⟩, (ac_inT 0 (by decide +kernel))⟩
def mL_way : ac_M := (cL_way, 6, RL, (some .int), "way", [(0, 12, 15, 19)])
set_option maxRecDepth 40000 in
theorem Y_L_way : ac_Y yL_way mL_way 5 := ⟨List.mem_filter.mpr ⟨List.mem_append_right _ (List.mem_of_getElem? (i := 762) rfl), rfl⟩, ⟨by decide, by decide, by decide +kernel⟩, (ac_inT 0 (by decide +kernel))⟩
def mL_wayByDoors : ac_M := (cL_wayByDoors, 6, RL, (some .int), "wayByDoors", [(0, 12, 15, 19)])
set_option maxRecDepth 40000 in
theorem Y_L_wayByDoors : ac_Y yL_wayByDoors mL_wayByDoors 5 := ⟨List.mem_filter.mpr ⟨List.mem_append_right _ (List.mem_of_getElem? (i := 769) rfl), rfl⟩, ⟨by decide, by decide, by decide +kernel⟩, (ac_inT 0 (by decide +kernel))⟩
def mL_dungeonOf : ac_M := (cL_dungeonOf, 4, RL, (some .int), "dungeonOf", [(0, 9, 12, 19)])
set_option maxRecDepth 40000 in
theorem Y_L_dungeonOf : ac_Y yL_dungeonOf mL_dungeonOf 3 := ⟨List.mem_filter.mpr ⟨List.mem_append_right _ (List.mem_of_getElem? (i := 784) rfl), rfl⟩, ⟨by decide, by decide, by decide +kernel⟩, (ac_inT 0 (by decide +kernel))⟩
def mL_verdict : ac_M := (cL_verdict, 4, RL, (some .int), "verdict", [(0, 9, 12, 19)])
set_option maxRecDepth 40000 in
theorem Y_L_verdict : ac_Y yL_verdict mL_verdict 3 := ⟨List.mem_filter.mpr ⟨List.mem_append_right _ (List.mem_of_getElem? (i := 791) rfl), rfl⟩, ⟨by decide, by decide, by decide +kernel⟩, (ac_inT 0 (by decide +kernel))⟩
def mL_scoreOf : ac_M := (cL_scoreOf, 4, RL, (some .int), "scoreOf", [(0, 9, 12, 19)])
set_option maxRecDepth 40000 in
theorem Y_L_scoreOf : ac_Y yL_scoreOf mL_scoreOf 3 := ⟨List.mem_filter.mpr ⟨List.mem_append_right _ (List.mem_of_getElem? (i := 798) rfl), rfl⟩, ⟨by decide, by decide, by decide +kernel⟩, (ac_inT 0 (by decide +kernel))⟩
def mL_endOf : ac_M := (cL_endOf, 4, RL, (some .int), "endOf", [(0, 9, 12, 19)])
set_option maxRecDepth 40000 in
theorem Y_L_endOf : ac_Y yL_endOf mL_endOf 3 := ⟨List.mem_filter.mpr ⟨List.mem_append_right _ (List.mem_of_getElem? (i := 805) rfl), rfl⟩, ⟨by decide, by decide, by decide +kernel⟩, (ac_inT 0 (by decide +kernel))⟩
def mL_rank : ac_M := (cL_rank, 4, RL, (some .int), "rank", [(0, 9, 12, 19)])
set_option maxRecDepth 40000 in
theorem Y_L_rank : ac_Y yL_rank mL_rank 3 := ⟨List.mem_filter.mpr ⟨List.mem_append_right _ (List.mem_of_getElem? (i := 812) rfl), rfl⟩, ⟨by decide, by decide, by decide +kernel⟩, (ac_inT 0 (by decide +kernel))⟩
def mL_ranked : ac_M := (cL_ranked, 5, RL, (some .int), "ranked", [(0, 10, 13, 19), (0, 10, 17, 21)])
set_option maxRecDepth 40000 in
theorem Y_L_ranked : ac_Y yL_ranked mL_ranked 4 := ⟨List.mem_filter.mpr ⟨List.mem_append_right _ (List.mem_of_getElem? (i := 836) rfl), rfl⟩, ⟨by decide, by decide, by decide +kernel⟩, (ac_inT 0 (by decide +kernel))⟩
def mL_glory : ac_M := (cL_glory, 4, RL, (some .int), "glory", [(0, 9, 12, 19)])
set_option maxRecDepth 40000 in
theorem Y_L_glory : ac_Y yL_glory mL_glory 3 := ⟨List.mem_filter.mpr ⟨List.mem_append_right _ (List.mem_of_getElem? (i := 844) rfl), rfl⟩, ⟨by decide, by decide, by decide +kernel⟩, (ac_inT 0 (by decide +kernel))⟩
theorem xwat_263_267 : ∀ w ∈ vx_atS RX8 267 "java/lang/IndexOutOfBoundsException" ["java/lang/RuntimeException", "java/lang/Exception"], w ∈ ac_tbl ∨ w ∈ tables_1.filter ac_nest := ac_xat (by decide +kernel)
theorem xwat_43_47 : ∀ w ∈ vx_atS RX8 47 "java/lang/IllegalStateException" ["java/lang/RuntimeException", "java/lang/Exception"], w ∈ ac_tbl ∨ w ∈ tables_1.filter ac_nest := ac_xat (by decide +kernel)
theorem xwat_68_72 : ∀ w ∈ vx_atS RX8 72 "java/lang/IllegalArgumentException" ["java/lang/RuntimeException", "java/lang/Exception"], w ∈ ac_tbl ∨ w ∈ tables_1.filter ac_nest := ac_xat (by decide +kernel)
theorem xwot_263_267 : ∀ w ∈ Cond.classLink RX8 263 "java/lang/IndexOutOfBoundsException" :: Cond.initialized "java/lang/IndexOutOfBoundsException" :: vx_atS RX8 267 "java/lang/IndexOutOfBoundsException" ["java/lang/RuntimeException", "java/lang/Exception"], vx_ot w = true := by decide +kernel
theorem xwot_43_47 : ∀ w ∈ Cond.classLink RX8 43 "java/lang/IllegalStateException" :: Cond.initialized "java/lang/IllegalStateException" :: vx_atS RX8 47 "java/lang/IllegalStateException" ["java/lang/RuntimeException", "java/lang/Exception"], vx_ot w = true := by decide +kernel
theorem xwot_68_72 : ∀ w ∈ Cond.classLink RX8 68 "java/lang/IllegalArgumentException" :: Cond.initialized "java/lang/IllegalArgumentException" :: vx_atS RX8 72 "java/lang/IllegalArgumentException" ["java/lang/RuntimeException", "java/lang/Exception"], vx_ot w = true := by decide +kernel
theorem fl_RX0_15 : ac_fl RX0 15 0 1 true := ⟨_, rfl, by decide, rfl, rfl, Or.inl (ac_inT 368 (by decide +kernel))⟩
theorem fl_RX0_19 : ac_fl RX0 19 0 2 true := ⟨_, rfl, by decide, rfl, rfl, Or.inl (ac_inT 369 (by decide +kernel))⟩
theorem fl_RX0_9 : ac_fl RX0 9 0 0 true := ⟨_, rfl, by decide, rfl, rfl, Or.inl (ac_inT 367 (by decide +kernel))⟩
theorem fl_RX1_7 : ac_fl RX1 7 1 0 false := ⟨_, rfl, by decide, rfl, rfl, Or.inl (ac_inT 484 (by decide +kernel))⟩
theorem fl_RX2_11 : ac_fl RX2 11 2 3 true := ⟨_, rfl, by decide, rfl, rfl, Or.inl (ac_inT 464 (by decide +kernel))⟩
theorem fl_RX2_17 : ac_fl RX2 17 2 0 true := ⟨_, rfl, by decide, rfl, rfl, Or.inl (ac_inT 459 (by decide +kernel))⟩
theorem fl_RX2_21 : ac_fl RX2 21 2 1 true := ⟨_, rfl, by decide, rfl, rfl, Or.inl (ac_inT 462 (by decide +kernel))⟩
theorem fl_RX2_24 : ac_fl RX2 24 2 2 true := ⟨_, rfl, by decide, rfl, rfl, Or.inl (ac_inT 463 (by decide +kernel))⟩
theorem fl_RX2_38 : ac_fl RX2 38 3 1 false := ⟨_, rfl, by decide, rfl, rfl, Or.inr ⟨"RuleCrypts", (ac_inN 495 (by decide +kernel))⟩⟩
theorem fl_RX3_15 : ac_fl RX3 15 3 3 true := ⟨_, rfl, by decide, rfl, rfl, Or.inl (ac_inT 500 (by decide +kernel))⟩
theorem fl_RX3_18 : ac_fl RX3 18 3 5 true := ⟨_, rfl, by decide, rfl, rfl, Or.inl (ac_inT 506 (by decide +kernel))⟩
theorem fl_RX3_21 : ac_fl RX3 21 3 6 true := ⟨_, rfl, by decide, rfl, rfl, Or.inl (ac_inT 508 (by decide +kernel))⟩
theorem fl_RX3_24 : ac_fl RX3 24 3 0 true := ⟨_, rfl, by decide, rfl, rfl, Or.inl (ac_inT 493 (by decide +kernel))⟩
theorem fl_RX3_56 : ac_fl RX3 56 3 1 false := ⟨_, rfl, by decide, rfl, rfl, Or.inl (ac_inT 496 (by decide +kernel))⟩
theorem fl_RX3_9 : ac_fl RX3 9 3 2 true := ⟨_, rfl, by decide, rfl, rfl, Or.inl (ac_inT 499 (by decide +kernel))⟩
theorem fl_RX3_96 : ac_fl RX3 96 3 4 false := ⟨_, rfl, by decide, rfl, rfl, Or.inl (ac_inT 504 (by decide +kernel))⟩
theorem fl_RX4_11 : ac_fl RX4 11 4 0 true := ⟨_, rfl, by decide, rfl, rfl, Or.inl (ac_inT 226 (by decide +kernel))⟩
theorem fl_RX4_17 : ac_fl RX4 17 4 1 false := ⟨_, rfl, by decide, rfl, rfl, Or.inl (ac_inT 227 (by decide +kernel))⟩
theorem fl_RX5_11 : ac_fl RX5 11 5 0 true := ⟨_, rfl, by decide, rfl, rfl, Or.inl (ac_inT 36 (by decide +kernel))⟩
theorem fl_RX5_17 : ac_fl RX5 17 5 2 true := ⟨_, rfl, by decide, rfl, rfl, Or.inl (ac_inT 39 (by decide +kernel))⟩
theorem fl_RX5_21 : ac_fl RX5 21 5 4 true := ⟨_, rfl, by decide, rfl, rfl, Or.inl (ac_inT 41 (by decide +kernel))⟩
theorem fl_RX5_24 : ac_fl RX5 24 5 1 false := ⟨_, rfl, by decide, rfl, rfl, Or.inl (ac_inT 37 (by decide +kernel))⟩
theorem fl_RX5_29 : ac_fl RX5 29 5 3 false := ⟨_, rfl, by decide, rfl, rfl, Or.inl (ac_inT 40 (by decide +kernel))⟩
theorem fl_RX5_57 : ac_fl RX5 57 4 2 false := ⟨_, rfl, by decide, rfl, rfl, Or.inr ⟨"RuleCrypts", (ac_inN 230 (by decide +kernel))⟩⟩
theorem fl_RX6_100 : ac_fl RX6 100 6 3 false := ⟨_, rfl, by decide, rfl, rfl, Or.inl (ac_inT 68 (by decide +kernel))⟩
theorem fl_RX6_107 : ac_fl RX6 107 3 0 true := ⟨_, rfl, by decide, rfl, rfl, Or.inr ⟨"RuleCrypts", (ac_inN 494 (by decide +kernel))⟩⟩
theorem fl_RX6_110 : ac_fl RX6 110 3 3 true := ⟨_, rfl, by decide, rfl, rfl, Or.inr ⟨"RuleCrypts", (ac_inN 501 (by decide +kernel))⟩⟩
theorem fl_RX6_117 : ac_fl RX6 117 3 4 false := ⟨_, rfl, by decide, rfl, rfl, Or.inr ⟨"RuleCrypts", (ac_inN 503 (by decide +kernel))⟩⟩
theorem fl_RX6_15 : ac_fl RX6 15 7 3 true := ⟨_, rfl, by decide, rfl, rfl, Or.inr ⟨"RuleCrypts", (ac_inN 608 (by decide +kernel))⟩⟩
theorem fl_RX6_27 : ac_fl RX6 27 6 5 false := ⟨_, rfl, by decide, rfl, rfl, Or.inl (ac_inT 70 (by decide +kernel))⟩
theorem fl_RX6_31 : ac_fl RX6 31 6 6 false := ⟨_, rfl, by decide, rfl, rfl, Or.inl (ac_inT 71 (by decide +kernel))⟩
theorem fl_RX6_34 : ac_fl RX6 34 6 7 false := ⟨_, rfl, by decide, rfl, rfl, Or.inl (ac_inT 73 (by decide +kernel))⟩
theorem fl_RX6_37 : ac_fl RX6 37 6 8 false := ⟨_, rfl, by decide, rfl, rfl, Or.inl (ac_inT 75 (by decide +kernel))⟩
theorem fl_RX6_44 : ac_fl RX6 44 7 4 true := ⟨_, rfl, by decide, rfl, rfl, Or.inr ⟨"RuleCrypts", (ac_inN 611 (by decide +kernel))⟩⟩
theorem fl_RX6_51 : ac_fl RX6 51 7 2 true := ⟨_, rfl, by decide, rfl, rfl, Or.inr ⟨"RuleCrypts", (ac_inN 605 (by decide +kernel))⟩⟩
theorem fl_RX6_68 : ac_fl RX6 68 6 2 false := ⟨_, rfl, by decide, rfl, rfl, Or.inl (ac_inT 67 (by decide +kernel))⟩
theorem fl_RX6_72 : ac_fl RX6 72 6 4 false := ⟨_, rfl, by decide, rfl, rfl, Or.inl (ac_inT 69 (by decide +kernel))⟩
theorem fl_RX6_9 : ac_fl RX6 9 6 0 true := ⟨_, rfl, by decide, rfl, rfl, Or.inl (ac_inT 65 (by decide +kernel))⟩
theorem fl_RX6_90 : ac_fl RX6 90 6 1 false := ⟨_, rfl, by decide, rfl, rfl, Or.inl (ac_inT 66 (by decide +kernel))⟩
theorem fl_RX6_97 : ac_fl RX6 97 3 1 false := ⟨_, rfl, by decide, rfl, rfl, Or.inr ⟨"RuleCrypts", (ac_inN 497 (by decide +kernel))⟩⟩
theorem fl_RX7_15 : ac_fl RX7 15 7 0 true := ⟨_, rfl, by decide, rfl, rfl, Or.inl (ac_inT 600 (by decide +kernel))⟩
theorem fl_RX7_18 : ac_fl RX7 18 7 1 true := ⟨_, rfl, by decide, rfl, rfl, Or.inl (ac_inT 602 (by decide +kernel))⟩
theorem fl_RX7_21 : ac_fl RX7 21 7 2 true := ⟨_, rfl, by decide, rfl, rfl, Or.inl (ac_inT 604 (by decide +kernel))⟩
theorem fl_RX7_24 : ac_fl RX7 24 7 3 true := ⟨_, rfl, by decide, rfl, rfl, Or.inl (ac_inT 607 (by decide +kernel))⟩
theorem fl_RX7_28 : ac_fl RX7 28 7 4 true := ⟨_, rfl, by decide, rfl, rfl, Or.inl (ac_inT 610 (by decide +kernel))⟩
theorem fl_RX7_36 : ac_fl RX7 36 2 0 true := ⟨_, rfl, by decide, rfl, rfl, Or.inr ⟨"RuleCrypts", (ac_inN 460 (by decide +kernel))⟩⟩
theorem fl_RX7_9 : ac_fl RX7 9 7 5 false := ⟨_, rfl, by decide, rfl, rfl, Or.inl (ac_inT 612 (by decide +kernel))⟩
theorem fl_RX8_10 : ac_fl RX8 10 8 0 true := ⟨_, rfl, by decide, rfl, rfl, Or.inl (ac_inT 95 (by decide +kernel))⟩
theorem fl_RX8_104 : ac_fl RX8 104 8 1 false := ⟨_, rfl, by decide, rfl, rfl, Or.inl (ac_inT 96 (by decide +kernel))⟩
theorem fl_RX8_109 : ac_fl RX8 109 8 2 false := ⟨_, rfl, by decide, rfl, rfl, Or.inl (ac_inT 97 (by decide +kernel))⟩
theorem fl_RX8_112 : ac_fl RX8 112 8 3 false := ⟨_, rfl, by decide, rfl, rfl, Or.inl (ac_inT 98 (by decide +kernel))⟩
theorem fl_RX8_117 : ac_fl RX8 117 8 5 false := ⟨_, rfl, by decide, rfl, rfl, Or.inl (ac_inT 100 (by decide +kernel))⟩
theorem fl_RX8_127 : ac_fl RX8 127 8 9 false := ⟨_, rfl, by decide, rfl, rfl, Or.inl (ac_inT 104 (by decide +kernel))⟩
theorem fl_RX8_153 : ac_fl RX8 153 7 0 true := ⟨_, rfl, by decide, rfl, rfl, Or.inr ⟨"RuleCrypts", (ac_inN 601 (by decide +kernel))⟩⟩
theorem fl_RX8_16 : ac_fl RX8 16 8 4 true := ⟨_, rfl, by decide, rfl, rfl, Or.inl (ac_inT 99 (by decide +kernel))⟩
theorem fl_RX8_168 : ac_fl RX8 168 7 5 false := ⟨_, rfl, by decide, rfl, rfl, Or.inr ⟨"RuleCrypts", (ac_inN 613 (by decide +kernel))⟩⟩
theorem fl_RX8_184 : ac_fl RX8 184 5 4 true := ⟨_, rfl, by decide, rfl, rfl, Or.inr ⟨"RuleCrypts", (ac_inN 42 (by decide +kernel))⟩⟩
theorem fl_RX8_187 : ac_fl RX8 187 8 7 false := ⟨_, rfl, by decide, rfl, rfl, Or.inl (ac_inT 102 (by decide +kernel))⟩
theorem fl_RX8_196 : ac_fl RX8 196 2 0 true := ⟨_, rfl, by decide, rfl, rfl, Or.inr ⟨"RuleCrypts", (ac_inN 461 (by decide +kernel))⟩⟩
theorem fl_RX8_211 : ac_fl RX8 211 3 3 true := ⟨_, rfl, by decide, rfl, rfl, Or.inr ⟨"RuleCrypts", (ac_inN 502 (by decide +kernel))⟩⟩
theorem fl_RX8_214 : ac_fl RX8 214 3 4 false := ⟨_, rfl, by decide, rfl, rfl, Or.inr ⟨"RuleCrypts", (ac_inN 505 (by decide +kernel))⟩⟩
theorem fl_RX8_217 : ac_fl RX8 217 3 1 false := ⟨_, rfl, by decide, rfl, rfl, Or.inr ⟨"RuleCrypts", (ac_inN 498 (by decide +kernel))⟩⟩
theorem fl_RX8_22 : ac_fl RX8 22 8 6 true := ⟨_, rfl, by decide, rfl, rfl, Or.inl (ac_inT 101 (by decide +kernel))⟩
theorem fl_RX8_220 : ac_fl RX8 220 3 5 true := ⟨_, rfl, by decide, rfl, rfl, Or.inr ⟨"RuleCrypts", (ac_inN 507 (by decide +kernel))⟩⟩
theorem fl_RX8_226 : ac_fl RX8 226 3 6 true := ⟨_, rfl, by decide, rfl, rfl, Or.inr ⟨"RuleCrypts", (ac_inN 509 (by decide +kernel))⟩⟩
theorem fl_RX8_229 : ac_fl RX8 229 7 3 true := ⟨_, rfl, by decide, rfl, rfl, Or.inr ⟨"RuleCrypts", (ac_inN 609 (by decide +kernel))⟩⟩
theorem fl_RX8_233 : ac_fl RX8 233 6 6 false := ⟨_, rfl, by decide, rfl, rfl, Or.inr ⟨"RuleCrypts", (ac_inN 72 (by decide +kernel))⟩⟩
theorem fl_RX8_236 : ac_fl RX8 236 6 7 false := ⟨_, rfl, by decide, rfl, rfl, Or.inr ⟨"RuleCrypts", (ac_inN 74 (by decide +kernel))⟩⟩
theorem fl_RX8_254 : ac_fl RX8 254 7 1 true := ⟨_, rfl, by decide, rfl, rfl, Or.inr ⟨"RuleCrypts", (ac_inN 603 (by decide +kernel))⟩⟩
theorem fl_RX8_257 : ac_fl RX8 257 7 2 true := ⟨_, rfl, by decide, rfl, rfl, Or.inr ⟨"RuleCrypts", (ac_inN 606 (by decide +kernel))⟩⟩
theorem fl_RX8_28 : ac_fl RX8 28 8 8 true := ⟨_, rfl, by decide, rfl, rfl, Or.inl (ac_inT 103 (by decide +kernel))⟩
theorem fl_RX8_35 : ac_fl RX8 35 8 10 true := ⟨_, rfl, by decide, rfl, rfl, Or.inl (ac_inT 105 (by decide +kernel))⟩
theorem fl_RX8_50 : ac_fl RX8 50 5 1 false := ⟨_, rfl, by decide, rfl, rfl, Or.inr ⟨"RuleCrypts", (ac_inN 38 (by decide +kernel))⟩⟩
theorem fl_RX8_81 : ac_fl RX8 81 4 1 false := ⟨_, rfl, by decide, rfl, rfl, Or.inr ⟨"RuleCrypts", (ac_inN 228 (by decide +kernel))⟩⟩
theorem fl_RX8_95 : ac_fl RX8 95 4 2 false := ⟨_, rfl, by decide, rfl, rfl, Or.inr ⟨"RuleCrypts", (ac_inN 229 (by decide +kernel))⟩⟩
theorem fl_RX9_127 : ac_fl RX9 127 9 14 false := ⟨_, rfl, by decide, rfl, rfl, Or.inl (ac_inT 869 (by decide +kernel))⟩
theorem fl_RX9_13 : ac_fl RX9 13 9 3 true := ⟨_, rfl, by decide, rfl, rfl, Or.inl (ac_inT 858 (by decide +kernel))⟩
theorem fl_RX9_145 : ac_fl RX9 145 9 7 false := ⟨_, rfl, by decide, rfl, rfl, Or.inl (ac_inT 862 (by decide +kernel))⟩
theorem fl_RX9_148 : ac_fl RX9 148 9 11 false := ⟨_, rfl, by decide, rfl, rfl, Or.inl (ac_inT 866 (by decide +kernel))⟩
theorem fl_RX9_16 : ac_fl RX9 16 9 4 true := ⟨_, rfl, by decide, rfl, rfl, Or.inl (ac_inT 859 (by decide +kernel))⟩
theorem fl_RX9_168 : ac_fl RX9 168 9 22 false := ⟨_, rfl, by decide, rfl, rfl, Or.inl (ac_inT 877 (by decide +kernel))⟩
theorem fl_RX9_196 : ac_fl RX9 196 9 37 false := ⟨_, rfl, by decide, rfl, rfl, Or.inl (ac_inT 892 (by decide +kernel))⟩
theorem fl_RX9_199 : ac_fl RX9 199 9 33 false := ⟨_, rfl, by decide, rfl, rfl, Or.inl (ac_inT 888 (by decide +kernel))⟩
theorem fl_RX9_20 : ac_fl RX9 20 9 5 true := ⟨_, rfl, by decide, rfl, rfl, Or.inl (ac_inT 860 (by decide +kernel))⟩
theorem fl_RX9_202 : ac_fl RX9 202 9 34 false := ⟨_, rfl, by decide, rfl, rfl, Or.inl (ac_inT 889 (by decide +kernel))⟩
theorem fl_RX9_205 : ac_fl RX9 205 9 35 false := ⟨_, rfl, by decide, rfl, rfl, Or.inl (ac_inT 890 (by decide +kernel))⟩
theorem fl_RX9_208 : ac_fl RX9 208 9 36 false := ⟨_, rfl, by decide, rfl, rfl, Or.inl (ac_inT 891 (by decide +kernel))⟩
theorem fl_RX9_211 : ac_fl RX9 211 9 38 false := ⟨_, rfl, by decide, rfl, rfl, Or.inl (ac_inT 893 (by decide +kernel))⟩
theorem fl_RX9_214 : ac_fl RX9 214 9 32 false := ⟨_, rfl, by decide, rfl, rfl, Or.inl (ac_inT 887 (by decide +kernel))⟩
theorem fl_RX9_220 : ac_fl RX9 220 9 39 false := ⟨_, rfl, by decide, rfl, rfl, Or.inl (ac_inT 894 (by decide +kernel))⟩
theorem fl_RX9_23 : ac_fl RX9 23 9 6 true := ⟨_, rfl, by decide, rfl, rfl, Or.inl (ac_inT 861 (by decide +kernel))⟩
theorem fl_RX9_26 : ac_fl RX9 26 9 8 true := ⟨_, rfl, by decide, rfl, rfl, Or.inl (ac_inT 863 (by decide +kernel))⟩
theorem fl_RX9_29 : ac_fl RX9 29 9 9 true := ⟨_, rfl, by decide, rfl, rfl, Or.inl (ac_inT 864 (by decide +kernel))⟩
theorem fl_RX9_32 : ac_fl RX9 32 9 10 true := ⟨_, rfl, by decide, rfl, rfl, Or.inl (ac_inT 865 (by decide +kernel))⟩
theorem fl_RX9_35 : ac_fl RX9 35 9 12 true := ⟨_, rfl, by decide, rfl, rfl, Or.inl (ac_inT 867 (by decide +kernel))⟩
theorem fl_RX9_38 : ac_fl RX9 38 9 13 true := ⟨_, rfl, by decide, rfl, rfl, Or.inl (ac_inT 868 (by decide +kernel))⟩
theorem fl_RX9_41 : ac_fl RX9 41 9 16 true := ⟨_, rfl, by decide, rfl, rfl, Or.inl (ac_inT 871 (by decide +kernel))⟩
theorem fl_RX9_44 : ac_fl RX9 44 9 17 true := ⟨_, rfl, by decide, rfl, rfl, Or.inl (ac_inT 872 (by decide +kernel))⟩
theorem fl_RX9_47 : ac_fl RX9 47 9 18 true := ⟨_, rfl, by decide, rfl, rfl, Or.inl (ac_inT 873 (by decide +kernel))⟩
theorem fl_RX9_50 : ac_fl RX9 50 9 19 true := ⟨_, rfl, by decide, rfl, rfl, Or.inl (ac_inT 874 (by decide +kernel))⟩
theorem fl_RX9_53 : ac_fl RX9 53 9 20 true := ⟨_, rfl, by decide, rfl, rfl, Or.inl (ac_inT 875 (by decide +kernel))⟩
theorem fl_RX9_56 : ac_fl RX9 56 9 21 true := ⟨_, rfl, by decide, rfl, rfl, Or.inl (ac_inT 876 (by decide +kernel))⟩
theorem fl_RX9_59 : ac_fl RX9 59 9 23 true := ⟨_, rfl, by decide, rfl, rfl, Or.inl (ac_inT 878 (by decide +kernel))⟩
theorem fl_RX9_62 : ac_fl RX9 62 9 24 true := ⟨_, rfl, by decide, rfl, rfl, Or.inl (ac_inT 879 (by decide +kernel))⟩
theorem fl_RX9_65 : ac_fl RX9 65 9 26 true := ⟨_, rfl, by decide, rfl, rfl, Or.inl (ac_inT 881 (by decide +kernel))⟩
theorem fl_RX9_68 : ac_fl RX9 68 9 27 true := ⟨_, rfl, by decide, rfl, rfl, Or.inl (ac_inT 882 (by decide +kernel))⟩
theorem fl_RX9_7 : ac_fl RX9 7 9 2 true := ⟨_, rfl, by decide, rfl, rfl, Or.inl (ac_inT 857 (by decide +kernel))⟩
theorem fl_RX9_71 : ac_fl RX9 71 9 28 true := ⟨_, rfl, by decide, rfl, rfl, Or.inl (ac_inT 883 (by decide +kernel))⟩
theorem fl_RX9_74 : ac_fl RX9 74 9 29 true := ⟨_, rfl, by decide, rfl, rfl, Or.inl (ac_inT 884 (by decide +kernel))⟩
theorem fl_RX9_77 : ac_fl RX9 77 9 30 true := ⟨_, rfl, by decide, rfl, rfl, Or.inl (ac_inT 885 (by decide +kernel))⟩
theorem fl_RX9_80 : ac_fl RX9 80 9 31 true := ⟨_, rfl, by decide, rfl, rfl, Or.inl (ac_inT 886 (by decide +kernel))⟩
theorem fl_RX9_83 : ac_fl RX9 83 9 0 false := ⟨_, rfl, by decide, rfl, rfl, Or.inl (ac_inT 855 (by decide +kernel))⟩
theorem fl_RX9_87 : ac_fl RX9 87 9 1 false := ⟨_, rfl, by decide, rfl, rfl, Or.inl (ac_inT 856 (by decide +kernel))⟩
theorem fl_RX9_94 : ac_fl RX9 94 9 25 false := ⟨_, rfl, by decide, rfl, rfl, Or.inl (ac_inT 880 (by decide +kernel))⟩
theorem fl_RX9_97 : ac_fl RX9 97 9 15 false := ⟨_, rfl, by decide, rfl, rfl, Or.inl (ac_inT 870 (by decide +kernel))⟩
theorem xw_RX8_263_265_267 : ac_xw RX8 263 265 267 "java/lang/IndexOutOfBoundsException" "there is no such pack" := ⟨(ac_inT 320 (by decide +kernel)), (ac_inT 10 (by decide +kernel)), List.mem_of_getElem? (i := 329) (by decide +kernel), by decide +kernel, xwat_263_267, xwot_263_267⟩
theorem xw_RX8_263_268_267 : ac_xw RX8 263 268 267 "java/lang/IndexOutOfBoundsException" "there is no such dungeon" := ⟨(ac_inT 320 (by decide +kernel)), (ac_inT 10 (by decide +kernel)), List.mem_of_getElem? (i := 729) (by decide +kernel), by decide +kernel, xwat_263_267, xwot_263_267⟩
theorem xw_RX8_263_274_267 : ac_xw RX8 263 274 267 "java/lang/IndexOutOfBoundsException" "there is no such floor" := ⟨(ac_inT 320 (by decide +kernel)), (ac_inT 10 (by decide +kernel)), List.mem_of_getElem? (i := 731) (by decide +kernel), by decide +kernel, xwat_263_267, xwot_263_267⟩
theorem xw_RX8_263_276_267 : ac_xw RX8 263 276 267 "java/lang/IndexOutOfBoundsException" "there is no such run" := ⟨(ac_inT 320 (by decide +kernel)), (ac_inT 10 (by decide +kernel)), List.mem_of_getElem? (i := 638) (by decide +kernel), by decide +kernel, xwat_263_267, xwot_263_267⟩
theorem xw_RX8_263_278_267 : ac_xw RX8 263 278 267 "java/lang/IndexOutOfBoundsException" "there is no such rule" := ⟨(ac_inT 320 (by decide +kernel)), (ac_inT 10 (by decide +kernel)), List.mem_of_getElem? (i := 339) (by decide +kernel), by decide +kernel, xwat_263_267, xwot_263_267⟩
theorem xw_RX8_263_283_267 : ac_xw RX8 263 283 267 "java/lang/IndexOutOfBoundsException" "there is no such room" := ⟨(ac_inT 320 (by decide +kernel)), (ac_inT 10 (by decide +kernel)), List.mem_of_getElem? (i := 736) (by decide +kernel), by decide +kernel, xwat_263_267, xwot_263_267⟩
theorem xw_RX8_263_285_267 : ac_xw RX8 263 285 267 "java/lang/IndexOutOfBoundsException" "there is no such player" := ⟨(ac_inT 320 (by decide +kernel)), (ac_inT 10 (by decide +kernel)), List.mem_of_getElem? (i := 438) (by decide +kernel), by decide +kernel, xwat_263_267, xwot_263_267⟩
theorem xw_RX8_43_107_47 : ac_xw RX8 43 107 47 "java/lang/IllegalStateException" "30 days were opened" := ⟨(ac_inT 238 (by decide +kernel)), (ac_inT 9 (by decide +kernel)), List.mem_of_getElem? (i := 418) (by decide +kernel), by decide +kernel, xwat_43_47, xwot_43_47⟩
theorem xw_RX8_43_120_47 : ac_xw RX8 43 120 47 "java/lang/IllegalStateException" "the draft has 60 keys" := ⟨(ac_inT 238 (by decide +kernel)), (ac_inT 9 (by decide +kernel)), List.mem_of_getElem? (i := 427) (by decide +kernel), by decide +kernel, xwat_43_47, xwot_43_47⟩
theorem xw_RX8_43_130_47 : ac_xw RX8 43 130 47 "java/lang/IllegalStateException" "60 runs were handed in" := ⟨(ac_inT 238 (by decide +kernel)), (ac_inT 9 (by decide +kernel)), List.mem_of_getElem? (i := 440) (by decide +kernel), by decide +kernel, xwat_43_47, xwot_43_47⟩
theorem xw_RX8_43_136_47 : ac_xw RX8 43 136 47 "java/lang/IllegalStateException" "no dungeon can be had today" := ⟨(ac_inT 238 (by decide +kernel)), (ac_inT 9 (by decide +kernel)), List.mem_of_getElem? (i := 586) (by decide +kernel), by decide +kernel, xwat_43_47, xwot_43_47⟩
theorem xw_RX8_43_292_47 : ac_xw RX8 43 292 47 "java/lang/IllegalStateException" "the set is not possible" := ⟨(ac_inT 238 (by decide +kernel)), (ac_inT 9 (by decide +kernel)), List.mem_of_getElem? (i := 417) (by decide +kernel), by decide +kernel, xwat_43_47, xwot_43_47⟩
theorem xw_RX8_43_45_47 : ac_xw RX8 43 45 47 "java/lang/IllegalStateException" "there are 10 packs" := ⟨(ac_inT 238 (by decide +kernel)), (ac_inT 9 (by decide +kernel)), List.mem_of_getElem? (i := 279) (by decide +kernel), by decide +kernel, xwat_43_47, xwot_43_47⟩
theorem xw_RX8_43_79_47 : ac_xw RX8 43 79 47 "java/lang/IllegalStateException" "the pack has 4 changes" := ⟨(ac_inT 238 (by decide +kernel)), (ac_inT 9 (by decide +kernel)), List.mem_of_getElem? (i := 377) (by decide +kernel), by decide +kernel, xwat_43_47, xwot_43_47⟩
theorem xw_RX8_43_84_47 : ac_xw RX8 43 84 47 "java/lang/IllegalStateException" "the pack has no change" := ⟨(ac_inT 238 (by decide +kernel)), (ac_inT 9 (by decide +kernel)), List.mem_of_getElem? (i := 385) (by decide +kernel), by decide +kernel, xwat_43_47, xwot_43_47⟩
theorem xw_RX8_68_115_72 : ac_xw RX8 68 115 72 "java/lang/IllegalArgumentException" "there is no such key" := ⟨(ac_inT 342 (by decide +kernel)), (ac_inT 11 (by decide +kernel)), List.mem_of_getElem? (i := 426) (by decide +kernel), by decide +kernel, xwat_68_72, xwot_68_72⟩
theorem xw_RX8_68_125_72 : ac_xw RX8 68 125 72 "java/lang/IllegalArgumentException" "the score is out of range" := ⟨(ac_inT 342 (by decide +kernel)), (ac_inT 11 (by decide +kernel)), List.mem_of_getElem? (i := 439) (by decide +kernel), by decide +kernel, xwat_68_72, xwot_68_72⟩
theorem xw_RX8_68_175_72 : ac_xw RX8 68 175 72 "java/lang/IllegalArgumentException" "the place is below 0" := ⟨(ac_inT 342 (by decide +kernel)), (ac_inT 11 (by decide +kernel)), List.mem_of_getElem? (i := 702) (by decide +kernel), by decide +kernel, xwat_68_72, xwot_68_72⟩
theorem xw_RX8_68_204_72 : ac_xw RX8 68 204 72 "java/lang/IllegalArgumentException" "there is no such direction" := ⟨(ac_inT 342 (by decide +kernel)), (ac_inT 11 (by decide +kernel)), List.mem_of_getElem? (i := 737) (by decide +kernel), by decide +kernel, xwat_68_72, xwot_68_72⟩
theorem xw_RX8_68_249_72 : ac_xw RX8 68 249 72 "java/lang/IllegalArgumentException" "the rank is below 0" := ⟨(ac_inT 342 (by decide +kernel)), (ac_inT 11 (by decide +kernel)), List.mem_of_getElem? (i := 841) (by decide +kernel), by decide +kernel, xwat_68_72, xwot_68_72⟩
theorem xw_RX8_68_290_72 : ac_xw RX8 68 290 72 "java/lang/IllegalArgumentException" "there is no such pack in the set" := ⟨(ac_inT 342 (by decide +kernel)), (ac_inT 11 (by decide +kernel)), List.mem_of_getElem? (i := 401) (by decide +kernel), by decide +kernel, xwat_68_72, xwot_68_72⟩
theorem xw_RX8_68_70_72 : ac_xw RX8 68 70 72 "java/lang/IllegalArgumentException" "the number is out of range" := ⟨(ac_inT 342 (by decide +kernel)), (ac_inT 11 (by decide +kernel)), List.mem_of_getElem? (i := 351) (by decide +kernel), by decide +kernel, xwat_68_72, xwot_68_72⟩
theorem xw_RX8_68_93_72 : ac_xw RX8 68 93 72 "java/lang/IllegalArgumentException" "a pack does not need itself" := ⟨(ac_inT 342 (by decide +kernel)), (ac_inT 11 (by decide +kernel)), List.mem_of_getElem? (i := 403) (by decide +kernel), by decide +kernel, xwat_68_72, xwot_68_72⟩
theorem xw_RX8_68_99_72 : ac_xw RX8 68 99 72 "java/lang/IllegalArgumentException" "the seed is out of range" := ⟨(ac_inT 342 (by decide +kernel)), (ac_inT 11 (by decide +kernel)), List.mem_of_getElem? (i := 412) (by decide +kernel), by decide +kernel, xwat_68_72, xwot_68_72⟩
