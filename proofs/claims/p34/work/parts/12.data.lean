/-- only what is there holds anything -/
def PK (h : ac_H) : Prop := ∀ (k : Nat) (a j : Int), h k a j ≠ 0 → 0 < a
def psc (V : ac_S) : ac_S := fun L S h k n => PK h → V L S h k n
theorem psc_s {G : ac_G} {l : Launch} {R : Room} {M : ac_M} {QQ : List Frame → Array Value → State → State → Prop} {pc : Nat} {V : ac_S} (q : ac_Snd G l R M QQ pc V) : ac_Snd G l R M QQ pc (psc V) :=
  fun p e s m args below meth c C L S h k n hv H locs ls hR => q p e s m args below meth c C L S h k n (hv (fun _ _ _ q => (hR.bnd q).1)) H locs ls hR
/-! ===== printed by wip/whole/gen.py: links, words, each method's data ===== -/
theorem ac_xat {L : List Cond} (h : (L.all fun w => decide (w ∈ tables_1) && (goodWord w || ac_nest w)) = true) : ∀ w ∈ L, w ∈ ac_tbl ∨ w ∈ tables_1.filter ac_nest := by
  intro w hw
  have h1 := List.all_eq_true.mp h w hw
  rw [Bool.and_eq_true, decide_eq_true_eq, Bool.or_eq_true] at h1
  rcases h1.2 with q | q
  · exact Or.inl (List.mem_filter.mpr ⟨List.mem_append_right _ h1.1, q⟩)
  · exact Or.inr (List.mem_filter.mpr ⟨h1.1, q⟩)
def mX0_init : ac_M := (cX0_init, 4, RX0, none, "<init>", [])
set_option maxRecDepth 40000 in
theorem Y_X0_init : ac_Y yX0_init mX0_init 3 := ⟨List.mem_filter.mpr ⟨List.mem_append_right _ (List.mem_of_getElem? (i := 310) rfl), rfl⟩, ⟨by decide, by decide, by decide +kernel⟩, (ac_inT 11 (by decide +kernel))⟩
def mX0_applyTo : ac_M := (cX0_applyTo, 3, RX0, none, "applyTo", [])
set_option maxRecDepth 40000 in
theorem Y_X0_applyTo : ac_Y yX0_applyTo mX0_applyTo 1 := ⟨List.mem_filter.mpr ⟨List.mem_append_right _ (List.mem_of_getElem? (i := 407) rfl), rfl⟩, ⟨by decide, by decide, by decide +kernel⟩, (ac_inT 11 (by decide +kernel))⟩
def mX1_init : ac_M := (cX1_init, 2, RX1, none, "<init>", [])
set_option maxRecDepth 40000 in
theorem Y_X1_init : ac_Y yX1_init mX1_init 1 := ⟨List.mem_filter.mpr ⟨List.mem_append_right _ (List.mem_of_getElem? (i := 461) rfl), rfl⟩, ⟨by decide, by decide, by decide +kernel⟩, (ac_inT 15 (by decide +kernel))⟩
def mX1_next : ac_M := (cX1_next, 1, RX1, (some .int), "next", [])
set_option maxRecDepth 40000 in
theorem Y_X1_next : ac_Y yX1_next mX1_next 0 := ⟨List.mem_filter.mpr ⟨List.mem_append_right _ (List.mem_of_getElem? (i := 514) rfl), rfl⟩, ⟨by decide, by decide, by decide +kernel⟩, (ac_inT 15 (by decide +kernel))⟩
def mX2_init : ac_M := (cX2_init, 4, RX2, none, "<init>", [])
set_option maxRecDepth 40000 in
theorem Y_X2_init : ac_Y yX2_init mX2_init 3 := ⟨List.mem_filter.mpr ⟨List.mem_append_right _ (List.mem_of_getElem? (i := 434) rfl), rfl⟩, ⟨by decide, by decide, by decide +kernel⟩, (ac_inT 14 (by decide +kernel))⟩
def mX3_init : ac_M := (cX3_init, 2, RX3, none, "<init>", [])
set_option maxRecDepth 40000 in
theorem Y_X3_init : ac_Y yX3_init mX3_init 1 := ⟨List.mem_filter.mpr ⟨List.mem_append_right _ (List.mem_of_getElem? (i := 470) rfl), rfl⟩, ⟨by decide, by decide, by decide +kernel⟩, (ac_inT 16 (by decide +kernel))⟩
def mX8_remainder : ac_M := (cX8_remainder, 2, RX8, (some .int), "remainder", [])
set_option maxRecDepth 40000 in
theorem Y_X8_remainder : ac_Y yX8_remainder mX8_remainder 2 := ⟨List.mem_filter.mpr ⟨List.mem_append_right _ (List.mem_of_getElem? (i := 518) rfl), rfl⟩, ⟨by decide, by decide, by decide +kernel⟩, (ac_inT 1 (by decide +kernel))⟩
def mX8_neighbour : ac_M := (cX8_neighbour, 4, RX8, (some .int), "neighbour", [])
set_option maxRecDepth 40000 in
theorem Y_X8_neighbour : ac_Y yX8_neighbour mX8_neighbour 2 := ⟨List.mem_filter.mpr ⟨List.mem_append_right _ (List.mem_of_getElem? (i := 524) rfl), rfl⟩, ⟨by decide, by decide, by decide +kernel⟩, (ac_inT 1 (by decide +kernel))⟩
def mX8_holds : ac_M := (cX8_holds, 2, RX8, (some .boolean), "holds", [])
set_option maxRecDepth 40000 in
theorem Y_X8_holds : ac_Y yX8_holds mX8_holds 2 := ⟨List.mem_filter.mpr ⟨List.mem_append_right _ (List.mem_of_getElem? (i := 343) rfl), rfl⟩, ⟨by decide, by decide, by decide +kernel⟩, (ac_inT 1 (by decide +kernel))⟩
def mX3_directionToNew : ac_M := (cX3_directionToNew, 6, RX3, (some .int), "directionToNew", [])
set_option maxRecDepth 40000 in
theorem Y_X3_directionToNew : ac_Y yX3_directionToNew mX3_directionToNew 3 := ⟨List.mem_filter.mpr ⟨List.mem_append_right _ (List.mem_of_getElem? (i := 521) rfl), rfl⟩, ⟨by decide, by decide, by decide +kernel⟩, (ac_inT 16 (by decide +kernel))⟩
def mX8_isRoom : ac_M := (cX8_isRoom, 1, RX8, (some .boolean), "isRoom", [])
set_option maxRecDepth 40000 in
theorem Y_X8_isRoom : ac_Y yX8_isRoom mX8_isRoom 1 := ⟨List.mem_filter.mpr ⟨List.mem_append_right _ (List.mem_of_getElem? (i := 532) rfl), rfl⟩, ⟨by decide, by decide, by decide +kernel⟩, (ac_inT 1 (by decide +kernel))⟩
def mX8_opposite : ac_M := (cX8_opposite, 1, RX8, (some .int), "opposite", [])
set_option maxRecDepth 40000 in
theorem Y_X8_opposite : ac_Y yX8_opposite mX8_opposite 1 := ⟨List.mem_filter.mpr ⟨List.mem_append_right _ (List.mem_of_getElem? (i := 535) rfl), rfl⟩, ⟨by decide, by decide, by decide +kernel⟩, (ac_inT 1 (by decide +kernel))⟩
def mX3_openDoor : ac_M := (cX3_openDoor, 4, RX3, none, "openDoor", [])
set_option maxRecDepth 40000 in
theorem Y_X3_openDoor : ac_Y yX3_openDoor mX3_openDoor 2 := ⟨List.mem_filter.mpr ⟨List.mem_append_right _ (List.mem_of_getElem? (i := 529) rfl), rfl⟩, ⟨by decide, by decide, by decide +kernel⟩, (ac_inT 16 (by decide +kernel))⟩
def mX3_growWays : ac_M := (cX3_growWays, 10, RX3, none, "growWays", [])
set_option maxRecDepth 40000 in
theorem Y_X3_growWays : ac_Y yX3_growWays mX3_growWays 1 := ⟨List.mem_filter.mpr ⟨List.mem_append_right _ (List.mem_of_getElem? (i := 510) rfl), rfl⟩, ⟨by decide, by decide, by decide +kernel⟩, (ac_inT 16 (by decide +kernel))⟩
def mX2_rule : ac_M := (cX2_rule, 2, RX2, (some .int), "rule", [])
set_option maxRecDepth 40000 in
theorem Y_X2_rule : ac_Y yX2_rule mX2_rule 1 := ⟨List.mem_filter.mpr ⟨List.mem_append_right _ (List.mem_of_getElem? (i := 539) rfl), rfl⟩, ⟨by decide, by decide, by decide +kernel⟩, (ac_inT 14 (by decide +kernel))⟩
def mX3_growLoops : ac_M := (cX3_growLoops, 5, RX3, none, "growLoops", [])
set_option maxRecDepth 40000 in
theorem Y_X3_growLoops : ac_Y yX3_growLoops mX3_growLoops 2 := ⟨List.mem_filter.mpr ⟨List.mem_append_right _ (List.mem_of_getElem? (i := 543) rfl), rfl⟩, ⟨by decide, by decide, by decide +kernel⟩, (ac_inT 16 (by decide +kernel))⟩
def mX3_growMonsters : ac_M := (cX3_growMonsters, 7, RX3, none, "growMonsters", [])
set_option maxRecDepth 40000 in
theorem Y_X3_growMonsters : ac_Y yX3_growMonsters mX3_growMonsters 3 := ⟨List.mem_filter.mpr ⟨List.mem_append_right _ (List.mem_of_getElem? (i := 547) rfl), rfl⟩, ⟨by decide, by decide, by decide +kernel⟩, (ac_inT 16 (by decide +kernel))⟩
def mX3_growTreasures : ac_M := (cX3_growTreasures, 4, RX3, none, "growTreasures", [])
set_option maxRecDepth 40000 in
theorem Y_X3_growTreasures : ac_Y yX3_growTreasures mX3_growTreasures 2 := ⟨List.mem_filter.mpr ⟨List.mem_append_right _ (List.mem_of_getElem? (i := 551) rfl), rfl⟩, ⟨by decide, by decide, by decide +kernel⟩, (ac_inT 16 (by decide +kernel))⟩
def mX3_behindDoor : ac_M := (cX3_behindDoor, 3, RX3, (some .int), "behindDoor", [])
set_option maxRecDepth 40000 in
theorem Y_X3_behindDoor : ac_Y yX3_behindDoor mX3_behindDoor 2 := ⟨List.mem_filter.mpr ⟨List.mem_append_right _ (List.mem_of_getElem? (i := 559) rfl), rfl⟩, ⟨by decide, by decide, by decide +kernel⟩, (ac_inT 16 (by decide +kernel))⟩
def mX3_measureBySearch : ac_M := (cX3_measureBySearch, 5, RX3, none, "measureBySearch", [])
set_option maxRecDepth 40000 in
theorem Y_X3_measureBySearch : ac_Y yX3_measureBySearch mX3_measureBySearch 0 := ⟨List.mem_filter.mpr ⟨List.mem_append_right _ (List.mem_of_getElem? (i := 555) rfl), rfl⟩, ⟨by decide, by decide, by decide +kernel⟩, (ac_inT 16 (by decide +kernel))⟩
def mX3_farthestRoom : ac_M := (cX3_farthestRoom, 4, RX3, (some .int), "farthestRoom", [])
set_option maxRecDepth 40000 in
theorem Y_X3_farthestRoom : ac_Y yX3_farthestRoom mX3_farthestRoom 0 := ⟨List.mem_filter.mpr ⟨List.mem_append_right _ (List.mem_of_getElem? (i := 563) rfl), rfl⟩, ⟨by decide, by decide, by decide +kernel⟩, (ac_inT 16 (by decide +kernel))⟩
def mX3_grow : ac_M := (cX3_grow, 3, RX3, none, "grow", [])
set_option maxRecDepth 40000 in
theorem Y_X3_grow : ac_Y yX3_grow mX3_grow 2 := ⟨List.mem_filter.mpr ⟨List.mem_append_right _ (List.mem_of_getElem? (i := 506) rfl), rfl⟩, ⟨by decide, by decide, by decide +kernel⟩, (ac_inT 16 (by decide +kernel))⟩
def mX2_grow : ac_M := (cX2_grow, 5, RX2, none, "grow", [])
set_option maxRecDepth 40000 in
theorem Y_X2_grow : ac_Y yX2_grow mX2_grow 0 := ⟨List.mem_filter.mpr ⟨List.mem_append_right _ (List.mem_of_getElem? (i := 456) rfl), rfl⟩, ⟨by decide, by decide, by decide +kernel⟩, (ac_inT 14 (by decide +kernel))⟩
def mX2_isBy : ac_M := (cX2_isBy, 4, RX2, (some .boolean), "isBy", [])
set_option maxRecDepth 40000 in
theorem Y_X2_isBy : ac_Y yX2_isBy mX2_isBy 2 := ⟨List.mem_filter.mpr ⟨List.mem_append_right _ (List.mem_of_getElem? (i := 423) rfl), rfl⟩, ⟨by decide, by decide, by decide +kernel⟩, (ac_inT 14 (by decide +kernel))⟩
def mX2_floorAt : ac_M := (cX2_floorAt, 2, RX2, (some (.object "RuleCrypts$Floor")), "floorAt", [])
set_option maxRecDepth 40000 in
theorem Y_X2_floorAt : ac_Y yX2_floorAt mX2_floorAt 1 := ⟨List.mem_filter.mpr ⟨List.mem_append_right _ (List.mem_of_getElem? (i := 626) rfl), rfl⟩, ⟨by decide, by decide, by decide +kernel⟩, (ac_inT 14 (by decide +kernel))⟩
def mX3_bringNearer : ac_M := (cX3_bringNearer, 6, RX3, (some .boolean), "bringNearer", [])
set_option maxRecDepth 40000 in
theorem Y_X3_bringNearer : ac_Y yX3_bringNearer mX3_bringNearer 2 := ⟨List.mem_filter.mpr ⟨List.mem_append_right _ (List.mem_of_getElem? (i := 766) rfl), rfl⟩, ⟨by decide, by decide, by decide +kernel⟩, (ac_inT 16 (by decide +kernel))⟩
def mX3_measureByDoors : ac_M := (cX3_measureByDoors, 4, RX3, none, "measureByDoors", [])
set_option maxRecDepth 40000 in
theorem Y_X3_measureByDoors : ac_Y yX3_measureByDoors mX3_measureByDoors 0 := ⟨List.mem_filter.mpr ⟨List.mem_append_right _ (List.mem_of_getElem? (i := 762) rfl), rfl⟩, ⟨by decide, by decide, by decide +kernel⟩, (ac_inT 16 (by decide +kernel))⟩
def mX4_init : ac_M := (cX4_init, 1, RX4, none, "<init>", [])
set_option maxRecDepth 40000 in
theorem Y_X4_init : ac_Y yX4_init mX4_init 0 := ⟨List.mem_filter.mpr ⟨List.mem_append_right _ (List.mem_of_getElem? (i := 167) rfl), rfl⟩, ⟨by decide, by decide, by decide +kernel⟩, (ac_inT 4 (by decide +kernel))⟩
def mX4_addChange : ac_M := (cX4_addChange, 4, RX4, (some .boolean), "addChange", [])
set_option maxRecDepth 40000 in
theorem Y_X4_addChange : ac_Y yX4_addChange mX4_addChange 3 := ⟨List.mem_filter.mpr ⟨List.mem_append_right _ (List.mem_of_getElem? (i := 306) rfl), rfl⟩, ⟨by decide, by decide, by decide +kernel⟩, (ac_inT 4 (by decide +kernel))⟩
def mX4_applyTo : ac_M := (cX4_applyTo, 4, RX4, none, "applyTo", [])
set_option maxRecDepth 40000 in
theorem Y_X4_applyTo : ac_Y yX4_applyTo mX4_applyTo 1 := ⟨List.mem_filter.mpr ⟨List.mem_append_right _ (List.mem_of_getElem? (i := 403) rfl), rfl⟩, ⟨by decide, by decide, by decide +kernel⟩, (ac_inT 4 (by decide +kernel))⟩
def mX5_init : ac_M := (cX5_init, 1, RX5, none, "<init>", [])
set_option maxRecDepth 40000 in
theorem Y_X5_init : ac_Y yX5_init mX5_init 0 := ⟨List.mem_filter.mpr ⟨List.mem_append_right _ (List.mem_of_getElem? (i := 31) rfl), rfl⟩, ⟨by decide, by decide, by decide +kernel⟩, (ac_inT 2 (by decide +kernel))⟩
def mX5_addPack : ac_M := (cX5_addPack, 1, RX5, (some .boolean), "addPack", [])
set_option maxRecDepth 40000 in
theorem Y_X5_addPack : ac_Y yX5_addPack mX5_addPack 0 := ⟨List.mem_filter.mpr ⟨List.mem_append_right _ (List.mem_of_getElem? (i := 163) rfl), rfl⟩, ⟨by decide, by decide, by decide +kernel⟩, (ac_inT 2 (by decide +kernel))⟩
def mX5_packAt : ac_M := (cX5_packAt, 2, RX5, (some (.object "RuleCrypts$Pack")), "packAt", [])
set_option maxRecDepth 40000 in
theorem Y_X5_packAt : ac_Y yX5_packAt mX5_packAt 1 := ⟨List.mem_filter.mpr ⟨List.mem_append_right _ (List.mem_of_getElem? (i := 262) rfl), rfl⟩, ⟨by decide, by decide, by decide +kernel⟩, (ac_inT 2 (by decide +kernel))⟩
def mX5_hasAll : ac_M := (cX5_hasAll, 2, RX5, (some .boolean), "hasAll", [])
set_option maxRecDepth 40000 in
theorem Y_X5_hasAll : ac_Y yX5_hasAll mX5_hasAll 1 := ⟨List.mem_filter.mpr ⟨List.mem_append_right _ (List.mem_of_getElem? (i := 339) rfl), rfl⟩, ⟨by decide, by decide, by decide +kernel⟩, (ac_inT 2 (by decide +kernel))⟩
def mX5_lowestReady : ac_M := (cX5_lowestReady, 5, RX5, (some .int), "lowestReady", [])
set_option maxRecDepth 40000 in
theorem Y_X5_lowestReady : ac_Y yX5_lowestReady mX5_lowestReady 2 := ⟨List.mem_filter.mpr ⟨List.mem_append_right _ (List.mem_of_getElem? (i := 362) rfl), rfl⟩, ⟨by decide, by decide, by decide +kernel⟩, (ac_inT 2 (by decide +kernel))⟩
def mX5_putInOrder : ac_M := (cX5_putInOrder, 5, RX5, (some .boolean), "putInOrder", [])
set_option maxRecDepth 40000 in
theorem Y_X5_putInOrder : ac_Y yX5_putInOrder mX5_putInOrder 1 := ⟨List.mem_filter.mpr ⟨List.mem_append_right _ (List.mem_of_getElem? (i := 358) rfl), rfl⟩, ⟨by decide, by decide, by decide +kernel⟩, (ac_inT 2 (by decide +kernel))⟩
def mX5_packInPlace : ac_M := (cX5_packInPlace, 2, RX5, (some .int), "packInPlace", [])
set_option maxRecDepth 40000 in
theorem Y_X5_packInPlace : ac_Y yX5_packInPlace mX5_packInPlace 1 := ⟨List.mem_filter.mpr ⟨List.mem_append_right _ (List.mem_of_getElem? (i := 668) rfl), rfl⟩, ⟨by decide, by decide, by decide +kernel⟩, (ac_inT 2 (by decide +kernel))⟩
def mX5_makeRules : ac_M := (cX5_makeRules, 3, RX5, none, "makeRules", [])
set_option maxRecDepth 40000 in
theorem Y_X5_makeRules : ac_Y yX5_makeRules mX5_makeRules 0 := ⟨List.mem_filter.mpr ⟨List.mem_append_right _ (List.mem_of_getElem? (i := 393) rfl), rfl⟩, ⟨by decide, by decide, by decide +kernel⟩, (ac_inT 2 (by decide +kernel))⟩
def mX6_init : ac_M := (cX6_init, 1, RX6, none, "<init>", [])
set_option maxRecDepth 40000 in
theorem Y_X6_init : ac_Y yX6_init mX6_init 0 := ⟨List.mem_filter.mpr ⟨List.mem_append_right _ (List.mem_of_getElem? (i := 62) rfl), rfl⟩, ⟨by decide, by decide, by decide +kernel⟩, (ac_inT 3 (by decide +kernel))⟩
def mX6_enter : ac_M := (cX6_enter, 3, RX6, none, "enter", [])
set_option maxRecDepth 40000 in
theorem Y_X6_enter : ac_Y yX6_enter mX6_enter 2 := ⟨List.mem_filter.mpr ⟨List.mem_append_right _ (List.mem_of_getElem? (i := 622) rfl), rfl⟩, ⟨by decide, by decide, by decide +kernel⟩, (ac_inT 3 (by decide +kernel))⟩
def mX6_goDown : ac_M := (cX6_goDown, 2, RX6, (some .boolean), "goDown", [])
set_option maxRecDepth 40000 in
theorem Y_X6_goDown : ac_Y yX6_goDown mX6_goDown 1 := ⟨List.mem_filter.mpr ⟨List.mem_append_right _ (List.mem_of_getElem? (i := 635) rfl), rfl⟩, ⟨by decide, by decide, by decide +kernel⟩, (ac_inT 3 (by decide +kernel))⟩
def mX6_fight : ac_M := (cX6_fight, 2, RX6, none, "fight", [])
set_option maxRecDepth 40000 in
theorem Y_X6_fight : ac_Y yX6_fight mX6_fight 1 := ⟨List.mem_filter.mpr ⟨List.mem_append_right _ (List.mem_of_getElem? (i := 646) rfl), rfl⟩, ⟨by decide, by decide, by decide +kernel⟩, (ac_inT 3 (by decide +kernel))⟩
def mX6_takeTreasure : ac_M := (cX6_takeTreasure, 1, RX6, none, "takeTreasure", [])
set_option maxRecDepth 40000 in
theorem Y_X6_takeTreasure : ac_Y yX6_takeTreasure mX6_takeTreasure 0 := ⟨List.mem_filter.mpr ⟨List.mem_append_right _ (List.mem_of_getElem? (i := 650) rfl), rfl⟩, ⟨by decide, by decide, by decide +kernel⟩, (ac_inT 3 (by decide +kernel))⟩
def mX6_go : ac_M := (cX6_go, 3, RX6, (some .boolean), "go", [])
set_option maxRecDepth 40000 in
theorem Y_X6_go : ac_Y yX6_go mX6_go 1 := ⟨List.mem_filter.mpr ⟨List.mem_append_right _ (List.mem_of_getElem? (i := 640) rfl), rfl⟩, ⟨by decide, by decide, by decide +kernel⟩, (ac_inT 3 (by decide +kernel))⟩
def mX6_take : ac_M := (cX6_take, 3, RX6, (some .boolean), "take", [])
set_option maxRecDepth 40000 in
theorem Y_X6_take : ac_Y yX6_take mX6_take 2 := ⟨List.mem_filter.mpr ⟨List.mem_append_right _ (List.mem_of_getElem? (i := 631) rfl), rfl⟩, ⟨by decide, by decide, by decide +kernel⟩, (ac_inT 3 (by decide +kernel))⟩
def mX6_play : ac_M := (cX6_play, 3, RX6, none, "play", [])
set_option maxRecDepth 40000 in
theorem Y_X6_play : ac_Y yX6_play mX6_play 1 := ⟨List.mem_filter.mpr ⟨List.mem_append_right _ (List.mem_of_getElem? (i := 617) rfl), rfl⟩, ⟨by decide, by decide, by decide +kernel⟩, (ac_inT 3 (by decide +kernel))⟩
def mX6_verdictOn : ac_M := (cX6_verdictOn, 2, RX6, (some .int), "verdictOn", [])
set_option maxRecDepth 40000 in
theorem Y_X6_verdictOn : ac_Y yX6_verdictOn mX6_verdictOn 1 := ⟨List.mem_filter.mpr ⟨List.mem_append_right _ (List.mem_of_getElem? (i := 655) rfl), rfl⟩, ⟨by decide, by decide, by decide +kernel⟩, (ac_inT 3 (by decide +kernel))⟩
def mX7_init : ac_M := (cX7_init, 6, RX7, none, "<init>", [])
set_option maxRecDepth 40000 in
theorem Y_X7_init : ac_Y yX7_init mX7_init 5 := ⟨List.mem_filter.mpr ⟨List.mem_append_right _ (List.mem_of_getElem? (i := 576) rfl), rfl⟩, ⟨by decide, by decide, by decide +kernel⟩, (ac_inT 17 (by decide +kernel))⟩
def mX7_isRanked : ac_M := (cX7_isRanked, 1, RX7, (some .boolean), "isRanked", [])
set_option maxRecDepth 40000 in
theorem Y_X7_isRanked : ac_Y yX7_isRanked mX7_isRanked 0 := ⟨List.mem_filter.mpr ⟨List.mem_append_right _ (List.mem_of_getElem? (i := 706) rfl), rfl⟩, ⟨by decide, by decide, by decide +kernel⟩, (ac_inT 17 (by decide +kernel))⟩
def mX7_isRankedIn : ac_M := (cX7_isRankedIn, 2, RX7, (some .boolean), "isRankedIn", [])
set_option maxRecDepth 40000 in
theorem Y_X7_isRankedIn : ac_Y yX7_isRankedIn mX7_isRankedIn 1 := ⟨List.mem_filter.mpr ⟨List.mem_append_right _ (List.mem_of_getElem? (i := 714) rfl), rfl⟩, ⟨by decide, by decide, by decide +kernel⟩, (ac_inT 17 (by decide +kernel))⟩
def mX7_isAheadOf : ac_M := (cX7_isAheadOf, 2, RX7, (some .boolean), "isAheadOf", [])
set_option maxRecDepth 40000 in
theorem Y_X7_isAheadOf : ac_Y yX7_isAheadOf mX7_isAheadOf 1 := ⟨List.mem_filter.mpr ⟨List.mem_append_right _ (List.mem_of_getElem? (i := 719) rfl), rfl⟩, ⟨by decide, by decide, by decide +kernel⟩, (ac_inT 17 (by decide +kernel))⟩
def mX8_init : ac_M := (cX8_init, 1, RX8, none, "<init>", [])
set_option maxRecDepth 40000 in
theorem Y_X8_init : ac_Y yX8_init mX8_init 0 := ⟨List.mem_filter.mpr ⟨List.mem_append_right _ (List.mem_of_getElem? (i := 23) rfl), rfl⟩, ⟨by decide, by decide, by decide +kernel⟩, (ac_inT 1 (by decide +kernel))⟩
def mX8_pack : ac_M := (cX8_pack, 1, RX8, (some .int), "pack", [])
set_option maxRecDepth 40000 in
theorem Y_X8_pack : ac_Y yX8_pack mX8_pack 0 := ⟨List.mem_filter.mpr ⟨List.mem_append_right _ (List.mem_of_getElem? (i := 159) rfl), rfl⟩, ⟨by decide, by decide, by decide +kernel⟩, (ac_inT 1 (by decide +kernel))⟩
def mX8_existingPack : ac_M := (cX8_existingPack, 3, RX8, (some (.object "RuleCrypts$Pack")), "existingPack", [])
set_option maxRecDepth 40000 in
theorem Y_X8_existingPack : ac_Y yX8_existingPack mX8_existingPack 1 := ⟨List.mem_filter.mpr ⟨List.mem_append_right _ (List.mem_of_getElem? (i := 258) rfl), rfl⟩, ⟨by decide, by decide, by decide +kernel⟩, (ac_inT 1 (by decide +kernel))⟩
def mX8_requireRule : ac_M := (cX8_requireRule, 1, RX8, none, "requireRule", [])
set_option maxRecDepth 40000 in
theorem Y_X8_requireRule : ac_Y yX8_requireRule mX8_requireRule 1 := ⟨List.mem_filter.mpr ⟨List.mem_append_right _ (List.mem_of_getElem? (i := 281) rfl), rfl⟩, ⟨by decide, by decide, by decide +kernel⟩, (ac_inT 1 (by decide +kernel))⟩
def mX8_change : ac_M := (cX8_change, 8, RX8, (some .int), "change", [])
set_option maxRecDepth 40000 in
theorem Y_X8_change : ac_Y yX8_change mX8_change 4 := ⟨List.mem_filter.mpr ⟨List.mem_append_right _ (List.mem_of_getElem? (i := 254) rfl), rfl⟩, ⟨by decide, by decide, by decide +kernel⟩, (ac_inT 1 (by decide +kernel))⟩
def mX8_mend : ac_M := (cX8_mend, 3, RX8, (some .int), "mend", [])
set_option maxRecDepth 40000 in
theorem Y_X8_mend : ac_Y yX8_mend mX8_mend 1 := ⟨List.mem_filter.mpr ⟨List.mem_append_right _ (List.mem_of_getElem? (i := 326) rfl), rfl⟩, ⟨by decide, by decide, by decide +kernel⟩, (ac_inT 1 (by decide +kernel))⟩
def mX8_requirePacks : ac_M := (cX8_requirePacks, 2, RX8, none, "requirePacks", [])
set_option maxRecDepth 40000 in
theorem Y_X8_requirePacks : ac_Y yX8_requirePacks mX8_requirePacks 1 := ⟨List.mem_filter.mpr ⟨List.mem_append_right _ (List.mem_of_getElem? (i := 335) rfl), rfl⟩, ⟨by decide, by decide, by decide +kernel⟩, (ac_inT 1 (by decide +kernel))⟩
def mX8_setNeeds : ac_M := (cX8_setNeeds, 5, RX8, (some .int), "setNeeds", [])
set_option maxRecDepth 40000 in
theorem Y_X8_setNeeds : ac_Y yX8_setNeeds mX8_setNeeds 2 := ⟨List.mem_filter.mpr ⟨List.mem_append_right _ (List.mem_of_getElem? (i := 331) rfl), rfl⟩, ⟨by decide, by decide, by decide +kernel⟩, (ac_inT 1 (by decide +kernel))⟩
def mX8_requireOrder : ac_M := (cX8_requireOrder, 2, RX8, none, "requireOrder", [])
set_option maxRecDepth 40000 in
theorem Y_X8_requireOrder : ac_Y yX8_requireOrder mX8_requireOrder 1 := ⟨List.mem_filter.mpr ⟨List.mem_append_right _ (List.mem_of_getElem? (i := 354) rfl), rfl⟩, ⟨by decide, by decide, by decide +kernel⟩, (ac_inT 1 (by decide +kernel))⟩
def mX8_open : ac_M := (cX8_open, 3, RX8, (some .int), "open", [])
set_option maxRecDepth 40000 in
theorem Y_X8_open : ac_Y yX8_open mX8_open 2 := ⟨List.mem_filter.mpr ⟨List.mem_append_right _ (List.mem_of_getElem? (i := 348) rfl), rfl⟩, ⟨by decide, by decide, by decide +kernel⟩, (ac_inT 1 (by decide +kernel))⟩
def mX8_key : ac_M := (cX8_key, 2, RX8, (some .int), "key", [])
set_option maxRecDepth 40000 in
theorem Y_X8_key : ac_Y yX8_key mX8_key 1 := ⟨List.mem_filter.mpr ⟨List.mem_append_right _ (List.mem_of_getElem? (i := 369) rfl), rfl⟩, ⟨by decide, by decide, by decide +kernel⟩, (ac_inT 1 (by decide +kernel))⟩
def mX8_wipe : ac_M := (cX8_wipe, 2, RX8, (some .int), "wipe", [])
set_option maxRecDepth 40000 in
theorem Y_X8_wipe : ac_Y yX8_wipe mX8_wipe 0 := ⟨List.mem_filter.mpr ⟨List.mem_append_right _ (List.mem_of_getElem? (i := 675) rfl), rfl⟩, ⟨by decide, by decide, by decide +kernel⟩, (ac_inT 1 (by decide +kernel))⟩
def mX8_requirePlayer : ac_M := (cX8_requirePlayer, 1, RX8, none, "requirePlayer", [])
set_option maxRecDepth 40000 in
theorem Y_X8_requirePlayer : ac_Y yX8_requirePlayer mX8_requirePlayer 1 := ⟨List.mem_filter.mpr ⟨List.mem_append_right _ (List.mem_of_getElem? (i := 378) rfl), rfl⟩, ⟨by decide, by decide, by decide +kernel⟩, (ac_inT 1 (by decide +kernel))⟩
def mX8_makeRulesToday : ac_M := (cX8_makeRulesToday, 1, RX8, (some .boolean), "makeRulesToday", [])
set_option maxRecDepth 40000 in
theorem Y_X8_makeRulesToday : ac_Y yX8_makeRulesToday mX8_makeRulesToday 0 := ⟨List.mem_filter.mpr ⟨List.mem_append_right _ (List.mem_of_getElem? (i := 389) rfl), rfl⟩, ⟨by decide, by decide, by decide +kernel⟩, (ac_inT 1 (by decide +kernel))⟩
def mX8_hadToday : ac_M := (cX8_hadToday, 3, RX8, (some (.object "RuleCrypts$Dungeon")), "hadToday", [])
set_option maxRecDepth 40000 in
theorem Y_X8_hadToday : ac_Y yX8_hadToday mX8_hadToday 0 := ⟨List.mem_filter.mpr ⟨List.mem_append_right _ (List.mem_of_getElem? (i := 419) rfl), rfl⟩, ⟨by decide, by decide, by decide +kernel⟩, (ac_inT 1 (by decide +kernel))⟩
def mX8_dungeonForRun : ac_M := (cX8_dungeonForRun, 2, RX8, (some (.object "RuleCrypts$Dungeon")), "dungeonForRun", [])
set_option maxRecDepth 40000 in
theorem Y_X8_dungeonForRun : ac_Y yX8_dungeonForRun mX8_dungeonForRun 0 := ⟨List.mem_filter.mpr ⟨List.mem_append_right _ (List.mem_of_getElem? (i := 385) rfl), rfl⟩, ⟨by decide, by decide, by decide +kernel⟩, (ac_inT 1 (by decide +kernel))⟩
def mJ7_copyOf_59c91 : ac_M := (cJ7_copyOf_59c91, 3, RJ7, (some (.array .int)), "copyOf", [])
set_option maxRecDepth 40000 in
theorem Y_J7_copyOf_59c91 : ac_Y yJ7_copyOf_59c91 mJ7_copyOf_59c91 2 := ⟨List.mem_filter.mpr ⟨List.mem_append_right _ (List.mem_of_getElem? (i := 569) rfl), rfl⟩, ⟨by decide, by decide, by decide +kernel⟩, (ac_inT 18 (by decide +kernel))⟩
def mX8_handIn : ac_M := (cX8_handIn, 5, RX8, (some .int), "handIn", [])
set_option maxRecDepth 40000 in
theorem Y_X8_handIn : ac_Y yX8_handIn mX8_handIn 2 := ⟨List.mem_filter.mpr ⟨List.mem_append_right _ (List.mem_of_getElem? (i := 375) rfl), rfl⟩, ⟨by decide, by decide, by decide +kernel⟩, (ac_inT 1 (by decide +kernel))⟩
def mX8_existingRun : ac_M := (cX8_existingRun, 3, RX8, (some (.object "RuleCrypts$Run")), "existingRun", [])
set_option maxRecDepth 40000 in
theorem Y_X8_existingRun : ac_Y yX8_existingRun mX8_existingRun 1 := ⟨List.mem_filter.mpr ⟨List.mem_append_right _ (List.mem_of_getElem? (i := 612) rfl), rfl⟩, ⟨by decide, by decide, by decide +kernel⟩, (ac_inT 1 (by decide +kernel))⟩
def mX8_judge : ac_M := (cX8_judge, 3, RX8, (some .int), "judge", [])
set_option maxRecDepth 40000 in
theorem Y_X8_judge : ac_Y yX8_judge mX8_judge 1 := ⟨List.mem_filter.mpr ⟨List.mem_append_right _ (List.mem_of_getElem? (i := 608) rfl), rfl⟩, ⟨by decide, by decide, by decide +kernel⟩, (ac_inT 1 (by decide +kernel))⟩
def mX8_packs : ac_M := (cX8_packs, 1, RX8, (some .int), "packs", [])
set_option maxRecDepth 40000 in
theorem Y_X8_packs : ac_Y yX8_packs mX8_packs 0 := ⟨List.mem_filter.mpr ⟨List.mem_append_right _ (List.mem_of_getElem? (i := 131) rfl), rfl⟩, ⟨by decide, by decide, by decide +kernel⟩, (ac_inT 1 (by decide +kernel))⟩
def mX8_changes : ac_M := (cX8_changes, 2, RX8, (some .int), "changes", [])
set_option maxRecDepth 40000 in
theorem Y_X8_changes : ac_Y yX8_changes mX8_changes 1 := ⟨List.mem_filter.mpr ⟨List.mem_append_right _ (List.mem_of_getElem? (i := 690) rfl), rfl⟩, ⟨by decide, by decide, by decide +kernel⟩, (ac_inT 1 (by decide +kernel))⟩
def mX8_isPossible : ac_M := (cX8_isPossible, 2, RX8, (some .boolean), "isPossible", [])
set_option maxRecDepth 40000 in
theorem Y_X8_isPossible : ac_Y yX8_isPossible mX8_isPossible 1 := ⟨List.mem_filter.mpr ⟨List.mem_append_right _ (List.mem_of_getElem? (i := 694) rfl), rfl⟩, ⟨by decide, by decide, by decide +kernel⟩, (ac_inT 1 (by decide +kernel))⟩
def mX8_orderAt : ac_M := (cX8_orderAt, 3, RX8, (some .int), "orderAt", [])
set_option maxRecDepth 40000 in
theorem Y_X8_orderAt : ac_Y yX8_orderAt mX8_orderAt 2 := ⟨List.mem_filter.mpr ⟨List.mem_append_right _ (List.mem_of_getElem? (i := 663) rfl), rfl⟩, ⟨by decide, by decide, by decide +kernel⟩, (ac_inT 1 (by decide +kernel))⟩
def mX8_ruleOf : ac_M := (cX8_ruleOf, 3, RX8, (some .int), "ruleOf", [])
set_option maxRecDepth 40000 in
theorem Y_X8_ruleOf : ac_Y yX8_ruleOf mX8_ruleOf 2 := ⟨List.mem_filter.mpr ⟨List.mem_append_right _ (List.mem_of_getElem? (i := 659) rfl), rfl⟩, ⟨by decide, by decide, by decide +kernel⟩, (ac_inT 1 (by decide +kernel))⟩
def mX8_today : ac_M := (cX8_today, 1, RX8, (some .int), "today", [])
set_option maxRecDepth 40000 in
theorem Y_X8_today : ac_Y yX8_today mX8_today 0 := ⟨List.mem_filter.mpr ⟨List.mem_append_right _ (List.mem_of_getElem? (i := 682) rfl), rfl⟩, ⟨by decide, by decide, by decide +kernel⟩, (ac_inT 1 (by decide +kernel))⟩
def mX8_dungeons : ac_M := (cX8_dungeons, 1, RX8, (some .int), "dungeons", [])
set_option maxRecDepth 40000 in
theorem Y_X8_dungeons : ac_Y yX8_dungeons mX8_dungeons 0 := ⟨List.mem_filter.mpr ⟨List.mem_append_right _ (List.mem_of_getElem? (i := 135) rfl), rfl⟩, ⟨by decide, by decide, by decide +kernel⟩, (ac_inT 1 (by decide +kernel))⟩
def mX8_dungeonToday : ac_M := (cX8_dungeonToday, 2, RX8, (some .int), "dungeonToday", [])
set_option maxRecDepth 40000 in
theorem Y_X8_dungeonToday : ac_Y yX8_dungeonToday mX8_dungeonToday 0 := ⟨List.mem_filter.mpr ⟨List.mem_append_right _ (List.mem_of_getElem? (i := 686) rfl), rfl⟩, ⟨by decide, by decide, by decide +kernel⟩, (ac_inT 1 (by decide +kernel))⟩
def mX8_existingDungeon : ac_M := (cX8_existingDungeon, 3, RX8, (some (.object "RuleCrypts$Dungeon")), "existingDungeon", [])
set_option maxRecDepth 40000 in
theorem Y_X8_existingDungeon : ac_Y yX8_existingDungeon mX8_existingDungeon 1 := ⟨List.mem_filter.mpr ⟨List.mem_append_right _ (List.mem_of_getElem? (i := 738) rfl), rfl⟩, ⟨by decide, by decide, by decide +kernel⟩, (ac_inT 1 (by decide +kernel))⟩
def mX8_existingFloor : ac_M := (cX8_existingFloor, 4, RX8, (some (.object "RuleCrypts$Floor")), "existingFloor", [])
set_option maxRecDepth 40000 in
theorem Y_X8_existingFloor : ac_Y yX8_existingFloor mX8_existingFloor 2 := ⟨List.mem_filter.mpr ⟨List.mem_append_right _ (List.mem_of_getElem? (i := 734) rfl), rfl⟩, ⟨by decide, by decide, by decide +kernel⟩, (ac_inT 1 (by decide +kernel))⟩
def mX8_requireRoom : ac_M := (cX8_requireRoom, 1, RX8, none, "requireRoom", [])
set_option maxRecDepth 40000 in
theorem Y_X8_requireRoom : ac_Y yX8_requireRoom mX8_requireRoom 1 := ⟨List.mem_filter.mpr ⟨List.mem_append_right _ (List.mem_of_getElem? (i := 748) rfl), rfl⟩, ⟨by decide, by decide, by decide +kernel⟩, (ac_inT 1 (by decide +kernel))⟩
def mX8_hasDoor : ac_M := (cX8_hasDoor, 6, RX8, (some .boolean), "hasDoor", [])
set_option maxRecDepth 40000 in
theorem Y_X8_hasDoor : ac_Y yX8_hasDoor mX8_hasDoor 4 := ⟨List.mem_filter.mpr ⟨List.mem_append_right _ (List.mem_of_getElem? (i := 770) rfl), rfl⟩, ⟨by decide, by decide, by decide +kernel⟩, (ac_inT 1 (by decide +kernel))⟩
def mX8_monster : ac_M := (cX8_monster, 5, RX8, (some .int), "monster", [])
set_option maxRecDepth 40000 in
theorem Y_X8_monster : ac_Y yX8_monster mX8_monster 3 := ⟨List.mem_filter.mpr ⟨List.mem_append_right _ (List.mem_of_getElem? (i := 754) rfl), rfl⟩, ⟨by decide, by decide, by decide +kernel⟩, (ac_inT 1 (by decide +kernel))⟩
def mX8_stairs : ac_M := (cX8_stairs, 3, RX8, (some .int), "stairs", [])
set_option maxRecDepth 40000 in
theorem Y_X8_stairs : ac_Y yX8_stairs mX8_stairs 2 := ⟨List.mem_filter.mpr ⟨List.mem_append_right _ (List.mem_of_getElem? (i := 730) rfl), rfl⟩, ⟨by decide, by decide, by decide +kernel⟩, (ac_inT 1 (by decide +kernel))⟩
def mX8_way : ac_M := (cX8_way, 5, RX8, (some .int), "way", [])
set_option maxRecDepth 40000 in
theorem Y_X8_way : ac_Y yX8_way mX8_way 3 := ⟨List.mem_filter.mpr ⟨List.mem_append_right _ (List.mem_of_getElem? (i := 745) rfl), rfl⟩, ⟨by decide, by decide, by decide +kernel⟩, (ac_inT 1 (by decide +kernel))⟩
def mX8_wayByDoors : ac_M := (cX8_wayByDoors, 5, RX8, (some .int), "wayByDoors", [])
set_option maxRecDepth 40000 in
theorem Y_X8_wayByDoors : ac_Y yX8_wayByDoors mX8_wayByDoors 3 := ⟨List.mem_filter.mpr ⟨List.mem_append_right _ (List.mem_of_getElem? (i := 758) rfl), rfl⟩, ⟨by decide, by decide, by decide +kernel⟩, (ac_inT 1 (by decide +kernel))⟩
def mX8_runs : ac_M := (cX8_runs, 1, RX8, (some .int), "runs", [])
set_option maxRecDepth 40000 in
theorem Y_X8_runs : ac_Y yX8_runs mX8_runs 0 := ⟨List.mem_filter.mpr ⟨List.mem_append_right _ (List.mem_of_getElem? (i := 139) rfl), rfl⟩, ⟨by decide, by decide, by decide +kernel⟩, (ac_inT 1 (by decide +kernel))⟩
def mX8_dungeonOf : ac_M := (cX8_dungeonOf, 2, RX8, (some .int), "dungeonOf", [])
set_option maxRecDepth 40000 in
theorem Y_X8_dungeonOf : ac_Y yX8_dungeonOf mX8_dungeonOf 1 := ⟨List.mem_filter.mpr ⟨List.mem_append_right _ (List.mem_of_getElem? (i := 786) rfl), rfl⟩, ⟨by decide, by decide, by decide +kernel⟩, (ac_inT 1 (by decide +kernel))⟩
def mX8_verdict : ac_M := (cX8_verdict, 2, RX8, (some .int), "verdict", [])
set_option maxRecDepth 40000 in
theorem Y_X8_verdict : ac_Y yX8_verdict mX8_verdict 1 := ⟨List.mem_filter.mpr ⟨List.mem_append_right _ (List.mem_of_getElem? (i := 698) rfl), rfl⟩, ⟨by decide, by decide, by decide +kernel⟩, (ac_inT 1 (by decide +kernel))⟩
def mX8_scoreOf : ac_M := (cX8_scoreOf, 2, RX8, (some .int), "scoreOf", [])
set_option maxRecDepth 40000 in
theorem Y_X8_scoreOf : ac_Y yX8_scoreOf mX8_scoreOf 1 := ⟨List.mem_filter.mpr ⟨List.mem_append_right _ (List.mem_of_getElem? (i := 782) rfl), rfl⟩, ⟨by decide, by decide, by decide +kernel⟩, (ac_inT 1 (by decide +kernel))⟩
def mX8_endOf : ac_M := (cX8_endOf, 2, RX8, (some .int), "endOf", [])
set_option maxRecDepth 40000 in
theorem Y_X8_endOf : ac_Y yX8_endOf mX8_endOf 1 := ⟨List.mem_filter.mpr ⟨List.mem_append_right _ (List.mem_of_getElem? (i := 790) rfl), rfl⟩, ⟨by decide, by decide, by decide +kernel⟩, (ac_inT 1 (by decide +kernel))⟩
def mX8_countAhead : ac_M := (cX8_countAhead, 5, RX8, (some .int), "countAhead", [])
set_option maxRecDepth 40000 in
theorem Y_X8_countAhead : ac_Y yX8_countAhead mX8_countAhead 1 := ⟨List.mem_filter.mpr ⟨List.mem_append_right _ (List.mem_of_getElem? (i := 710) rfl), rfl⟩, ⟨by decide, by decide, by decide +kernel⟩, (ac_inT 1 (by decide +kernel))⟩
def mX8_rank : ac_M := (cX8_rank, 3, RX8, (some .int), "rank", [])
set_option maxRecDepth 40000 in
theorem Y_X8_rank : ac_Y yX8_rank mX8_rank 1 := ⟨List.mem_filter.mpr ⟨List.mem_append_right _ (List.mem_of_getElem? (i := 702) rfl), rfl⟩, ⟨by decide, by decide, by decide +kernel⟩, (ac_inT 1 (by decide +kernel))⟩
def mX8_ranked : ac_M := (cX8_ranked, 5, RX8, (some .int), "ranked", [])
set_option maxRecDepth 40000 in
theorem Y_X8_ranked : ac_Y yX8_ranked mX8_ranked 2 := ⟨List.mem_filter.mpr ⟨List.mem_append_right _ (List.mem_of_getElem? (i := 794) rfl), rfl⟩, ⟨by decide, by decide, by decide +kernel⟩, (ac_inT 1 (by decide +kernel))⟩
def mX8_glory : ac_M := (cX8_glory, 5, RX8, (some .int), "glory", [])
set_option maxRecDepth 40000 in
theorem Y_X8_glory : ac_Y yX8_glory mX8_glory 1 := ⟨List.mem_filter.mpr ⟨List.mem_append_right _ (List.mem_of_getElem? (i := 723) rfl), rfl⟩, ⟨by decide, by decide, by decide +kernel⟩, (ac_inT 1 (by decide +kernel))⟩
def mL_cell : ac_M := (cL_cell, 2, RL, (some .int), "cell", [])
set_option maxRecDepth 40000 in
theorem Y_L_cell : ac_Y yL_cell mL_cell 2 := ⟨List.mem_filter.mpr ⟨List.mem_append_right _ (List.mem_of_getElem? (i := 142) rfl), rfl⟩, ⟨by decide, by decide, by decide +kernel⟩, (ac_inT 0 (by decide +kernel))⟩
def mL_low : ac_M := (cL_low, 2, RL, (some .int), "low", [])
set_option maxRecDepth 40000 in
theorem Y_L_low : ac_Y yL_low mL_low 2 := ⟨List.mem_filter.mpr ⟨List.mem_append_right _ (List.mem_of_getElem? (i := 145) rfl), rfl⟩, ⟨by decide, by decide, by decide +kernel⟩, (ac_inT 0 (by decide +kernel))⟩
def mL_does : ac_M := (cL_does, 7, RL, (some .int), "does", [(0, 142, 143, 44), (0, 142, 148, 47), (0, 142, 153, 49)])
set_option maxRecDepth 40000 in
theorem Y_L_does : ac_Y yL_does mL_does 6 := ⟨List.mem_filter.mpr ⟨List.mem_append_right _ (List.mem_of_getElem? (i := 152) rfl), rfl⟩, ⟨by decide, by decide, by decide +kernel⟩, (ac_inT 0 (by decide +kernel))⟩
def mL_act : ac_M := (cL_act, 6, RL, (some .int), "act", [])
set_option maxRecDepth 40000 in
theorem Y_L_act : ac_Y yL_act mL_act 2 := ⟨List.mem_filter.mpr ⟨List.mem_append_right _ (List.mem_of_getElem? (i := 149) rfl), rfl⟩, ⟨by decide, by decide, by decide +kernel⟩, (ac_inT 0 (by decide +kernel))⟩
def mL_areAlike : ac_M := (cL_areAlike, 4, RL, (some .boolean), "areAlike", [])
set_option maxRecDepth 40000 in
theorem Y_L_areAlike : ac_Y yL_areAlike mL_areAlike 2 := ⟨List.mem_filter.mpr ⟨List.mem_append_right _ (List.mem_of_getElem? (i := 678) rfl), rfl⟩, ⟨by decide, by decide, by decide +kernel⟩, (ac_inT 0 (by decide +kernel))⟩
def mL_isFloorSo : ac_M := (cL_isFloorSo, 14, RL, (some .boolean), "isFloorSo", [])
set_option maxRecDepth 40000 in
theorem Y_L_isFloorSo : ac_Y yL_isFloorSo mL_isFloorSo 3 := ⟨List.mem_filter.mpr ⟨List.mem_append_right _ (List.mem_of_getElem? (i := 726) rfl), rfl⟩, ⟨by decide, by decide, by decide +kernel⟩, (ac_inT 0 (by decide +kernel))⟩
def mL_isSetSo : ac_M := (cL_isSetSo, 10, RL, (some .boolean), "isSetSo", [])
set_option maxRecDepth 40000 in
theorem Y_L_isSetSo : ac_Y yL_isSetSo mL_isSetSo 2 := ⟨List.mem_filter.mpr ⟨List.mem_append_right _ (List.mem_of_getElem? (i := 775) rfl), rfl⟩, ⟨by decide, by decide, by decide +kernel⟩, (ac_inT 0 (by decide +kernel))⟩
def mL_isRunSo : ac_M := (cL_isRunSo, 9, RL, (some .boolean), "isRunSo", [])
set_option maxRecDepth 40000 in
theorem Y_L_isRunSo : ac_Y yL_isRunSo mL_isRunSo 3 := ⟨List.mem_filter.mpr ⟨List.mem_append_right _ (List.mem_of_getElem? (i := 778) rfl), rfl⟩, ⟨by decide, by decide, by decide +kernel⟩, (ac_inT 0 (by decide +kernel))⟩
def mL_isHandedSo : ac_M := (cL_isHandedSo, 10, RL, (some .boolean), "isHandedSo", [])
set_option maxRecDepth 40000 in
theorem Y_L_isHandedSo : ac_Y yL_isHandedSo mL_isHandedSo 4 := ⟨List.mem_filter.mpr ⟨List.mem_append_right _ (List.mem_of_getElem? (i := 798) rfl), rfl⟩, ⟨by decide, by decide, by decide +kernel⟩, (ac_inT 0 (by decide +kernel))⟩
theorem xwat_263_267 : ∀ w ∈ vx_atS RX8 267 "java/lang/IndexOutOfBoundsException" ["java/lang/RuntimeException", "java/lang/Exception"], w ∈ ac_tbl ∨ w ∈ tables_1.filter ac_nest := ac_xat (by decide +kernel)
theorem xwat_43_47 : ∀ w ∈ vx_atS RX8 47 "java/lang/IllegalStateException" ["java/lang/RuntimeException", "java/lang/Exception"], w ∈ ac_tbl ∨ w ∈ tables_1.filter ac_nest := ac_xat (by decide +kernel)
theorem xwat_68_72 : ∀ w ∈ vx_atS RX8 72 "java/lang/IllegalArgumentException" ["java/lang/RuntimeException", "java/lang/Exception"], w ∈ ac_tbl ∨ w ∈ tables_1.filter ac_nest := ac_xat (by decide +kernel)
theorem xwot_263_267 : ∀ w ∈ Cond.classLink RX8 263 "java/lang/IndexOutOfBoundsException" :: Cond.initialized "java/lang/IndexOutOfBoundsException" :: vx_atS RX8 267 "java/lang/IndexOutOfBoundsException" ["java/lang/RuntimeException", "java/lang/Exception"], vx_ot w = true := by decide +kernel
theorem xwot_43_47 : ∀ w ∈ Cond.classLink RX8 43 "java/lang/IllegalStateException" :: Cond.initialized "java/lang/IllegalStateException" :: vx_atS RX8 47 "java/lang/IllegalStateException" ["java/lang/RuntimeException", "java/lang/Exception"], vx_ot w = true := by decide +kernel
theorem xwot_68_72 : ∀ w ∈ Cond.classLink RX8 68 "java/lang/IllegalArgumentException" :: Cond.initialized "java/lang/IllegalArgumentException" :: vx_atS RX8 72 "java/lang/IllegalArgumentException" ["java/lang/RuntimeException", "java/lang/Exception"], vx_ot w = true := by decide +kernel
theorem fl_RX0_15 : ac_fl RX0 15 0 1 true := ⟨_, rfl, by decide, rfl, rfl, Or.inl (ac_inT 313 (by decide +kernel))⟩
theorem fl_RX0_19 : ac_fl RX0 19 0 2 true := ⟨_, rfl, by decide, rfl, rfl, Or.inl (ac_inT 314 (by decide +kernel))⟩
theorem fl_RX0_9 : ac_fl RX0 9 0 0 true := ⟨_, rfl, by decide, rfl, rfl, Or.inl (ac_inT 312 (by decide +kernel))⟩
theorem fl_RX1_7 : ac_fl RX1 7 1 0 false := ⟨_, rfl, by decide, rfl, rfl, Or.inl (ac_inT 463 (by decide +kernel))⟩
theorem fl_RX2_11 : ac_fl RX2 11 2 3 true := ⟨_, rfl, by decide, rfl, rfl, Or.inl (ac_inT 443 (by decide +kernel))⟩
theorem fl_RX2_17 : ac_fl RX2 17 2 0 true := ⟨_, rfl, by decide, rfl, rfl, Or.inl (ac_inT 438 (by decide +kernel))⟩
theorem fl_RX2_21 : ac_fl RX2 21 2 1 true := ⟨_, rfl, by decide, rfl, rfl, Or.inl (ac_inT 441 (by decide +kernel))⟩
theorem fl_RX2_24 : ac_fl RX2 24 2 2 true := ⟨_, rfl, by decide, rfl, rfl, Or.inl (ac_inT 442 (by decide +kernel))⟩
theorem fl_RX2_38 : ac_fl RX2 38 3 1 false := ⟨_, rfl, by decide, rfl, rfl, Or.inr ⟨"RuleCrypts", (ac_inN 474 (by decide +kernel))⟩⟩
theorem fl_RX3_15 : ac_fl RX3 15 3 3 true := ⟨_, rfl, by decide, rfl, rfl, Or.inl (ac_inT 479 (by decide +kernel))⟩
theorem fl_RX3_18 : ac_fl RX3 18 3 5 true := ⟨_, rfl, by decide, rfl, rfl, Or.inl (ac_inT 484 (by decide +kernel))⟩
theorem fl_RX3_21 : ac_fl RX3 21 3 6 true := ⟨_, rfl, by decide, rfl, rfl, Or.inl (ac_inT 486 (by decide +kernel))⟩
theorem fl_RX3_24 : ac_fl RX3 24 3 0 true := ⟨_, rfl, by decide, rfl, rfl, Or.inl (ac_inT 472 (by decide +kernel))⟩
theorem fl_RX3_56 : ac_fl RX3 56 3 1 false := ⟨_, rfl, by decide, rfl, rfl, Or.inl (ac_inT 475 (by decide +kernel))⟩
theorem fl_RX3_9 : ac_fl RX3 9 3 2 true := ⟨_, rfl, by decide, rfl, rfl, Or.inl (ac_inT 478 (by decide +kernel))⟩
theorem fl_RX3_96 : ac_fl RX3 96 3 4 false := ⟨_, rfl, by decide, rfl, rfl, Or.inl (ac_inT 483 (by decide +kernel))⟩
theorem fl_RX4_11 : ac_fl RX4 11 4 0 true := ⟨_, rfl, by decide, rfl, rfl, Or.inl (ac_inT 171 (by decide +kernel))⟩
theorem fl_RX4_17 : ac_fl RX4 17 4 1 false := ⟨_, rfl, by decide, rfl, rfl, Or.inl (ac_inT 172 (by decide +kernel))⟩
theorem fl_RX5_11 : ac_fl RX5 11 5 0 true := ⟨_, rfl, by decide, rfl, rfl, Or.inl (ac_inT 35 (by decide +kernel))⟩
theorem fl_RX5_17 : ac_fl RX5 17 5 2 true := ⟨_, rfl, by decide, rfl, rfl, Or.inl (ac_inT 38 (by decide +kernel))⟩
theorem fl_RX5_21 : ac_fl RX5 21 5 4 true := ⟨_, rfl, by decide, rfl, rfl, Or.inl (ac_inT 40 (by decide +kernel))⟩
theorem fl_RX5_24 : ac_fl RX5 24 5 1 false := ⟨_, rfl, by decide, rfl, rfl, Or.inl (ac_inT 36 (by decide +kernel))⟩
theorem fl_RX5_29 : ac_fl RX5 29 5 3 false := ⟨_, rfl, by decide, rfl, rfl, Or.inl (ac_inT 39 (by decide +kernel))⟩
theorem fl_RX5_57 : ac_fl RX5 57 4 2 false := ⟨_, rfl, by decide, rfl, rfl, Or.inr ⟨"RuleCrypts", (ac_inN 175 (by decide +kernel))⟩⟩
theorem fl_RX6_100 : ac_fl RX6 100 6 3 false := ⟨_, rfl, by decide, rfl, rfl, Or.inl (ac_inT 67 (by decide +kernel))⟩
theorem fl_RX6_107 : ac_fl RX6 107 3 0 true := ⟨_, rfl, by decide, rfl, rfl, Or.inr ⟨"RuleCrypts", (ac_inN 473 (by decide +kernel))⟩⟩
theorem fl_RX6_110 : ac_fl RX6 110 3 3 true := ⟨_, rfl, by decide, rfl, rfl, Or.inr ⟨"RuleCrypts", (ac_inN 480 (by decide +kernel))⟩⟩
theorem fl_RX6_117 : ac_fl RX6 117 3 4 false := ⟨_, rfl, by decide, rfl, rfl, Or.inr ⟨"RuleCrypts", (ac_inN 482 (by decide +kernel))⟩⟩
theorem fl_RX6_15 : ac_fl RX6 15 7 3 true := ⟨_, rfl, by decide, rfl, rfl, Or.inr ⟨"RuleCrypts", (ac_inN 586 (by decide +kernel))⟩⟩
theorem fl_RX6_27 : ac_fl RX6 27 6 5 false := ⟨_, rfl, by decide, rfl, rfl, Or.inl (ac_inT 69 (by decide +kernel))⟩
theorem fl_RX6_31 : ac_fl RX6 31 6 6 false := ⟨_, rfl, by decide, rfl, rfl, Or.inl (ac_inT 70 (by decide +kernel))⟩
theorem fl_RX6_34 : ac_fl RX6 34 6 7 false := ⟨_, rfl, by decide, rfl, rfl, Or.inl (ac_inT 72 (by decide +kernel))⟩
theorem fl_RX6_37 : ac_fl RX6 37 6 8 false := ⟨_, rfl, by decide, rfl, rfl, Or.inl (ac_inT 74 (by decide +kernel))⟩
theorem fl_RX6_44 : ac_fl RX6 44 7 4 true := ⟨_, rfl, by decide, rfl, rfl, Or.inr ⟨"RuleCrypts", (ac_inN 589 (by decide +kernel))⟩⟩
theorem fl_RX6_51 : ac_fl RX6 51 7 2 true := ⟨_, rfl, by decide, rfl, rfl, Or.inr ⟨"RuleCrypts", (ac_inN 583 (by decide +kernel))⟩⟩
theorem fl_RX6_68 : ac_fl RX6 68 6 2 false := ⟨_, rfl, by decide, rfl, rfl, Or.inl (ac_inT 66 (by decide +kernel))⟩
theorem fl_RX6_72 : ac_fl RX6 72 6 4 false := ⟨_, rfl, by decide, rfl, rfl, Or.inl (ac_inT 68 (by decide +kernel))⟩
theorem fl_RX6_9 : ac_fl RX6 9 6 0 true := ⟨_, rfl, by decide, rfl, rfl, Or.inl (ac_inT 64 (by decide +kernel))⟩
theorem fl_RX6_90 : ac_fl RX6 90 6 1 false := ⟨_, rfl, by decide, rfl, rfl, Or.inl (ac_inT 65 (by decide +kernel))⟩
theorem fl_RX6_97 : ac_fl RX6 97 3 1 false := ⟨_, rfl, by decide, rfl, rfl, Or.inr ⟨"RuleCrypts", (ac_inN 476 (by decide +kernel))⟩⟩
theorem fl_RX7_15 : ac_fl RX7 15 7 0 true := ⟨_, rfl, by decide, rfl, rfl, Or.inl (ac_inT 578 (by decide +kernel))⟩
theorem fl_RX7_18 : ac_fl RX7 18 7 1 true := ⟨_, rfl, by decide, rfl, rfl, Or.inl (ac_inT 580 (by decide +kernel))⟩
theorem fl_RX7_21 : ac_fl RX7 21 7 2 true := ⟨_, rfl, by decide, rfl, rfl, Or.inl (ac_inT 582 (by decide +kernel))⟩
theorem fl_RX7_24 : ac_fl RX7 24 7 3 true := ⟨_, rfl, by decide, rfl, rfl, Or.inl (ac_inT 585 (by decide +kernel))⟩
theorem fl_RX7_28 : ac_fl RX7 28 7 4 true := ⟨_, rfl, by decide, rfl, rfl, Or.inl (ac_inT 588 (by decide +kernel))⟩
theorem fl_RX7_36 : ac_fl RX7 36 2 0 true := ⟨_, rfl, by decide, rfl, rfl, Or.inr ⟨"RuleCrypts", (ac_inN 439 (by decide +kernel))⟩⟩
theorem fl_RX7_9 : ac_fl RX7 9 7 5 false := ⟨_, rfl, by decide, rfl, rfl, Or.inl (ac_inT 590 (by decide +kernel))⟩
theorem fl_RX8_10 : ac_fl RX8 10 8 0 true := ⟨_, rfl, by decide, rfl, rfl, Or.inl (ac_inT 94 (by decide +kernel))⟩
theorem fl_RX8_104 : ac_fl RX8 104 8 1 false := ⟨_, rfl, by decide, rfl, rfl, Or.inl (ac_inT 95 (by decide +kernel))⟩
theorem fl_RX8_109 : ac_fl RX8 109 8 2 false := ⟨_, rfl, by decide, rfl, rfl, Or.inl (ac_inT 96 (by decide +kernel))⟩
theorem fl_RX8_112 : ac_fl RX8 112 8 3 false := ⟨_, rfl, by decide, rfl, rfl, Or.inl (ac_inT 97 (by decide +kernel))⟩
theorem fl_RX8_117 : ac_fl RX8 117 8 5 false := ⟨_, rfl, by decide, rfl, rfl, Or.inl (ac_inT 99 (by decide +kernel))⟩
theorem fl_RX8_127 : ac_fl RX8 127 8 9 false := ⟨_, rfl, by decide, rfl, rfl, Or.inl (ac_inT 103 (by decide +kernel))⟩
theorem fl_RX8_153 : ac_fl RX8 153 7 0 true := ⟨_, rfl, by decide, rfl, rfl, Or.inr ⟨"RuleCrypts", (ac_inN 579 (by decide +kernel))⟩⟩
theorem fl_RX8_16 : ac_fl RX8 16 8 4 true := ⟨_, rfl, by decide, rfl, rfl, Or.inl (ac_inT 98 (by decide +kernel))⟩
theorem fl_RX8_168 : ac_fl RX8 168 7 5 false := ⟨_, rfl, by decide, rfl, rfl, Or.inr ⟨"RuleCrypts", (ac_inN 591 (by decide +kernel))⟩⟩
theorem fl_RX8_184 : ac_fl RX8 184 5 4 true := ⟨_, rfl, by decide, rfl, rfl, Or.inr ⟨"RuleCrypts", (ac_inN 41 (by decide +kernel))⟩⟩
theorem fl_RX8_187 : ac_fl RX8 187 8 7 false := ⟨_, rfl, by decide, rfl, rfl, Or.inl (ac_inT 101 (by decide +kernel))⟩
theorem fl_RX8_196 : ac_fl RX8 196 2 0 true := ⟨_, rfl, by decide, rfl, rfl, Or.inr ⟨"RuleCrypts", (ac_inN 440 (by decide +kernel))⟩⟩
theorem fl_RX8_211 : ac_fl RX8 211 3 3 true := ⟨_, rfl, by decide, rfl, rfl, Or.inr ⟨"RuleCrypts", (ac_inN 481 (by decide +kernel))⟩⟩
theorem fl_RX8_217 : ac_fl RX8 217 3 1 false := ⟨_, rfl, by decide, rfl, rfl, Or.inr ⟨"RuleCrypts", (ac_inN 477 (by decide +kernel))⟩⟩
theorem fl_RX8_22 : ac_fl RX8 22 8 6 true := ⟨_, rfl, by decide, rfl, rfl, Or.inl (ac_inT 100 (by decide +kernel))⟩
theorem fl_RX8_220 : ac_fl RX8 220 3 5 true := ⟨_, rfl, by decide, rfl, rfl, Or.inr ⟨"RuleCrypts", (ac_inN 485 (by decide +kernel))⟩⟩
theorem fl_RX8_226 : ac_fl RX8 226 3 6 true := ⟨_, rfl, by decide, rfl, rfl, Or.inr ⟨"RuleCrypts", (ac_inN 487 (by decide +kernel))⟩⟩
theorem fl_RX8_229 : ac_fl RX8 229 7 3 true := ⟨_, rfl, by decide, rfl, rfl, Or.inr ⟨"RuleCrypts", (ac_inN 587 (by decide +kernel))⟩⟩
theorem fl_RX8_233 : ac_fl RX8 233 6 6 false := ⟨_, rfl, by decide, rfl, rfl, Or.inr ⟨"RuleCrypts", (ac_inN 71 (by decide +kernel))⟩⟩
theorem fl_RX8_236 : ac_fl RX8 236 6 7 false := ⟨_, rfl, by decide, rfl, rfl, Or.inr ⟨"RuleCrypts", (ac_inN 73 (by decide +kernel))⟩⟩
theorem fl_RX8_254 : ac_fl RX8 254 7 1 true := ⟨_, rfl, by decide, rfl, rfl, Or.inr ⟨"RuleCrypts", (ac_inN 581 (by decide +kernel))⟩⟩
theorem fl_RX8_257 : ac_fl RX8 257 7 2 true := ⟨_, rfl, by decide, rfl, rfl, Or.inr ⟨"RuleCrypts", (ac_inN 584 (by decide +kernel))⟩⟩
theorem fl_RX8_28 : ac_fl RX8 28 8 8 true := ⟨_, rfl, by decide, rfl, rfl, Or.inl (ac_inT 102 (by decide +kernel))⟩
theorem fl_RX8_35 : ac_fl RX8 35 8 10 true := ⟨_, rfl, by decide, rfl, rfl, Or.inl (ac_inT 104 (by decide +kernel))⟩
theorem fl_RX8_50 : ac_fl RX8 50 5 1 false := ⟨_, rfl, by decide, rfl, rfl, Or.inr ⟨"RuleCrypts", (ac_inN 37 (by decide +kernel))⟩⟩
theorem fl_RX8_81 : ac_fl RX8 81 4 1 false := ⟨_, rfl, by decide, rfl, rfl, Or.inr ⟨"RuleCrypts", (ac_inN 173 (by decide +kernel))⟩⟩
theorem fl_RX8_95 : ac_fl RX8 95 4 2 false := ⟨_, rfl, by decide, rfl, rfl, Or.inr ⟨"RuleCrypts", (ac_inN 174 (by decide +kernel))⟩⟩
theorem xw_RX8_263_265_267 : ac_xw RX8 263 265 267 "java/lang/IndexOutOfBoundsException" "there is no such pack" := ⟨(ac_inT 263 (by decide +kernel)), (ac_inT 9 (by decide +kernel)), List.mem_of_getElem? (i := 272) (by decide +kernel), by decide +kernel, xwat_263_267, xwot_263_267⟩
theorem xw_RX8_263_268_267 : ac_xw RX8 263 268 267 "java/lang/IndexOutOfBoundsException" "there is no such dungeon" := ⟨(ac_inT 263 (by decide +kernel)), (ac_inT 9 (by decide +kernel)), List.mem_of_getElem? (i := 739) (by decide +kernel), by decide +kernel, xwat_263_267, xwot_263_267⟩
theorem xw_RX8_263_274_267 : ac_xw RX8 263 274 267 "java/lang/IndexOutOfBoundsException" "there is no such floor" := ⟨(ac_inT 263 (by decide +kernel)), (ac_inT 9 (by decide +kernel)), List.mem_of_getElem? (i := 741) (by decide +kernel), by decide +kernel, xwat_263_267, xwot_263_267⟩
theorem xw_RX8_263_276_267 : ac_xw RX8 263 276 267 "java/lang/IndexOutOfBoundsException" "there is no such run" := ⟨(ac_inT 263 (by decide +kernel)), (ac_inT 9 (by decide +kernel)), List.mem_of_getElem? (i := 613) (by decide +kernel), by decide +kernel, xwat_263_267, xwot_263_267⟩
theorem xw_RX8_263_278_267 : ac_xw RX8 263 278 267 "java/lang/IndexOutOfBoundsException" "there is no such rule" := ⟨(ac_inT 263 (by decide +kernel)), (ac_inT 9 (by decide +kernel)), List.mem_of_getElem? (i := 282) (by decide +kernel), by decide +kernel, xwat_263_267, xwot_263_267⟩
theorem xw_RX8_263_283_267 : ac_xw RX8 263 283 267 "java/lang/IndexOutOfBoundsException" "there is no such room" := ⟨(ac_inT 263 (by decide +kernel)), (ac_inT 9 (by decide +kernel)), List.mem_of_getElem? (i := 750) (by decide +kernel), by decide +kernel, xwat_263_267, xwot_263_267⟩
theorem xw_RX8_263_285_267 : ac_xw RX8 263 285 267 "java/lang/IndexOutOfBoundsException" "there is no such player" := ⟨(ac_inT 263 (by decide +kernel)), (ac_inT 9 (by decide +kernel)), List.mem_of_getElem? (i := 379) (by decide +kernel), by decide +kernel, xwat_263_267, xwot_263_267⟩
theorem xw_RX8_43_107_47 : ac_xw RX8 43 107 47 "java/lang/IllegalStateException" "30 days were opened" := ⟨(ac_inT 183 (by decide +kernel)), (ac_inT 8 (by decide +kernel)), List.mem_of_getElem? (i := 365) (by decide +kernel), by decide +kernel, xwat_43_47, xwot_43_47⟩
theorem xw_RX8_43_120_47 : ac_xw RX8 43 120 47 "java/lang/IllegalStateException" "the draft has 60 keys" := ⟨(ac_inT 183 (by decide +kernel)), (ac_inT 8 (by decide +kernel)), List.mem_of_getElem? (i := 371) (by decide +kernel), by decide +kernel, xwat_43_47, xwot_43_47⟩
theorem xw_RX8_43_130_47 : ac_xw RX8 43 130 47 "java/lang/IllegalStateException" "60 runs were handed in" := ⟨(ac_inT 183 (by decide +kernel)), (ac_inT 8 (by decide +kernel)), List.mem_of_getElem? (i := 381) (by decide +kernel), by decide +kernel, xwat_43_47, xwot_43_47⟩
theorem xw_RX8_43_136_47 : ac_xw RX8 43 136 47 "java/lang/IllegalStateException" "no dungeon can be had today" := ⟨(ac_inT 183 (by decide +kernel)), (ac_inT 8 (by decide +kernel)), List.mem_of_getElem? (i := 564) (by decide +kernel), by decide +kernel, xwat_43_47, xwot_43_47⟩
theorem xw_RX8_43_292_47 : ac_xw RX8 43 292 47 "java/lang/IllegalStateException" "the set is not possible" := ⟨(ac_inT 183 (by decide +kernel)), (ac_inT 8 (by decide +kernel)), List.mem_of_getElem? (i := 364) (by decide +kernel), by decide +kernel, xwat_43_47, xwot_43_47⟩
theorem xw_RX8_43_45_47 : ac_xw RX8 43 45 47 "java/lang/IllegalStateException" "there are 10 packs" := ⟨(ac_inT 183 (by decide +kernel)), (ac_inT 8 (by decide +kernel)), List.mem_of_getElem? (i := 224) (by decide +kernel), by decide +kernel, xwat_43_47, xwot_43_47⟩
theorem xw_RX8_43_79_47 : ac_xw RX8 43 79 47 "java/lang/IllegalStateException" "the pack has 4 changes" := ⟨(ac_inT 183 (by decide +kernel)), (ac_inT 8 (by decide +kernel)), List.mem_of_getElem? (i := 322) (by decide +kernel), by decide +kernel, xwat_43_47, xwot_43_47⟩
theorem xw_RX8_43_84_47 : ac_xw RX8 43 84 47 "java/lang/IllegalStateException" "the pack has no change" := ⟨(ac_inT 183 (by decide +kernel)), (ac_inT 8 (by decide +kernel)), List.mem_of_getElem? (i := 327) (by decide +kernel), by decide +kernel, xwat_43_47, xwot_43_47⟩
theorem xw_RX8_68_115_72 : ac_xw RX8 68 115 72 "java/lang/IllegalArgumentException" "there is no such key" := ⟨(ac_inT 287 (by decide +kernel)), (ac_inT 10 (by decide +kernel)), List.mem_of_getElem? (i := 370) (by decide +kernel), by decide +kernel, xwat_68_72, xwot_68_72⟩
theorem xw_RX8_68_125_72 : ac_xw RX8 68 125 72 "java/lang/IllegalArgumentException" "the score is out of range" := ⟨(ac_inT 287 (by decide +kernel)), (ac_inT 10 (by decide +kernel)), List.mem_of_getElem? (i := 380) (by decide +kernel), by decide +kernel, xwat_68_72, xwot_68_72⟩
theorem xw_RX8_68_175_72 : ac_xw RX8 68 175 72 "java/lang/IllegalArgumentException" "the place is below 0" := ⟨(ac_inT 287 (by decide +kernel)), (ac_inT 10 (by decide +kernel)), List.mem_of_getElem? (i := 664) (by decide +kernel), by decide +kernel, xwat_68_72, xwot_68_72⟩
theorem xw_RX8_68_204_72 : ac_xw RX8 68 204 72 "java/lang/IllegalArgumentException" "there is no such direction" := ⟨(ac_inT 287 (by decide +kernel)), (ac_inT 10 (by decide +kernel)), List.mem_of_getElem? (i := 771) (by decide +kernel), by decide +kernel, xwat_68_72, xwot_68_72⟩
theorem xw_RX8_68_249_72 : ac_xw RX8 68 249 72 "java/lang/IllegalArgumentException" "the rank is below 0" := ⟨(ac_inT 287 (by decide +kernel)), (ac_inT 10 (by decide +kernel)), List.mem_of_getElem? (i := 795) (by decide +kernel), by decide +kernel, xwat_68_72, xwot_68_72⟩
theorem xw_RX8_68_290_72 : ac_xw RX8 68 290 72 "java/lang/IllegalArgumentException" "there is no such pack in the set" := ⟨(ac_inT 287 (by decide +kernel)), (ac_inT 10 (by decide +kernel)), List.mem_of_getElem? (i := 340) (by decide +kernel), by decide +kernel, xwat_68_72, xwot_68_72⟩
theorem xw_RX8_68_70_72 : ac_xw RX8 68 70 72 "java/lang/IllegalArgumentException" "the number is out of range" := ⟨(ac_inT 287 (by decide +kernel)), (ac_inT 10 (by decide +kernel)), List.mem_of_getElem? (i := 296) (by decide +kernel), by decide +kernel, xwat_68_72, xwot_68_72⟩
theorem xw_RX8_68_93_72 : ac_xw RX8 68 93 72 "java/lang/IllegalArgumentException" "a pack does not need itself" := ⟨(ac_inT 287 (by decide +kernel)), (ac_inT 10 (by decide +kernel)), List.mem_of_getElem? (i := 344) (by decide +kernel), by decide +kernel, xwat_68_72, xwot_68_72⟩
theorem xw_RX8_68_99_72 : ac_xw RX8 68 99 72 "java/lang/IllegalArgumentException" "the seed is out of range" := ⟨(ac_inT 287 (by decide +kernel)), (ac_inT 10 (by decide +kernel)), List.mem_of_getElem? (i := 350) (by decide +kernel), by decide +kernel, xwat_68_72, xwot_68_72⟩
