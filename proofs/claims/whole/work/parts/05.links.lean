def mX0_init : Mth := (yX0_init, cX0_init, 1, none, RX0)
def mX0_begin : Mth := (yX0_begin, cX0_begin, 2, none, RX0)
def mX0_oneDay : Mth := (yX0_oneDay, cX0_oneDay, 7, none, RX0)
def mX0_left : Mth := (yX0_left, cX0_left, 4, (some .long), RX0)
def mX1_init : Mth := (yX1_init, cX1_init, 1, none, RX1)
def mX1_mayBeTold : Mth := (yX1_mayBeTold, cX1_mayBeTold, 2, (some .boolean), RX1)
def mX1_add : Mth := (yX1_add, cX1_add, 4, (some .boolean), RX1)
def mX1_isTaken : Mth := (yX1_isTaken, cX1_isTaken, 2, (some .boolean), RX1)
def mX1_remove : Mth := (yX1_remove, cX1_remove, 3, none, RX1)
def mX1_change : Mth := (yX1_change, cX1_change, 4, (some .int), RX1)
def mX1_counts : Mth := (yX1_counts, cX1_counts, 2, (some .boolean), RX1)
def mX1_counting : Mth := (yX1_counting, cX1_counting, 3, (some .int), RX1)
def mX1_reckonTurns : Mth := (yX1_reckonTurns, cX1_reckonTurns, 3, none, RX1)
def mX1_tally : Mth := (yX1_tally, cX1_tally, 4, none, RX1)
def mX1_findFirstDays : Mth := (yX1_findFirstDays, cX1_findFirstDays, 3, none, RX1)
def mX2_init : Mth := (yX2_init, cX2_init, 2, none, RX2)
def mX2_search : Mth := (yX2_search, cX2_search, 9, none, RX2)
def mX2_reckonCrops : Mth := (yX2_reckonCrops, cX2_reckonCrops, 6, (some .long), RX2)
def mX2_extend : Mth := (yX2_extend, cX2_extend, 4, none, RX2)
def mX2_note : Mth := (yX2_note, cX2_note, 3, none, RX2)
def mX3_init : Mth := (yX3_init, cX3_init, 1, none, RX3)
def mX3_append : Mth := (yX3_append, cX3_append, 2, (some .int), RX3)
def mX3_empty : Mth := (yX3_empty, cX3_empty, 2, (some .int), RX3)
def mX3_interpret : Mth := (yX3_interpret, cX3_interpret, 1, none, RX3)
def mX3_forget : Mth := (yX3_forget, cX3_forget, 1, none, RX3)
def mX3_takeSigns : Mth := (yX3_takeSigns, cX3_takeSigns, 3, (some .int), RX3)
def mX3_takeParts : Mth := (yX3_takeParts, cX3_takeParts, 5, (some .int), RX3)
def mX3_takePath : Mth := (yX3_takePath, cX3_takePath, 3, (some .int), RX3)
def mX3_takeBridge : Mth := (yX3_takeBridge, cX3_takeBridge, 6, (some .int), RX3)
def mX3_signAt : Mth := (yX3_signAt, cX3_signAt, 2, (some .int), RX3)
def mX3_figureAt : Mth := (yX3_figureAt, cX3_figureAt, 3, (some .int), RX3)
def mX3_thingOf : Mth := (yX3_thingOf, cX3_thingOf, 1, (some .int), RX3)
def mX3_joins : Mth := (yX3_joins, cX3_joins, 4, (some .boolean), RX3)
def mX3_meetsAt : Mth := (yX3_meetsAt, cX3_meetsAt, 4, (some .boolean), RX3)
def mX3_canWork : Mth := (yX3_canWork, cX3_canWork, 5, (some .boolean), RX3)
def mX3_closedPaths : Mth := (yX3_closedPaths, cX3_closedPaths, 3, (some .int), RX3)
def mX4_init : Mth := (yX4_init, cX4_init, 1, none, RX4)
def mX4_renew : Mth := (yX4_renew, cX4_renew, 3, none, RX4)
def mX4_findingAt : Mth := (yX4_findingAt, cX4_findingAt, 3, (some .int), RX4)
def mX4_keep : Mth := (yX4_keep, cX4_keep, 3, none, RX4)
def mX4_has : Mth := (yX4_has, cX4_has, 3, (some .boolean), RX4)
def mX5_init : Mth := (yX5_init, cX5_init, 2, none, RX5)
def mX5_changeWish : Mth := (yX5_changeWish, cX5_changeWish, 6, (some .int), RX5)
def mX5_inOwnRow : Mth := (yX5_inOwnRow, cX5_inOwnRow, 3, (some .int), RX5)
def mX5_joyIn : Mth := (yX5_joyIn, cX5_joyIn, 8, (some .int), RX5)
def mX5_reckonJoys : Mth := (yX5_reckonJoys, cX5_reckonJoys, 5, none, RX5)
def mX5_changeUntilNobodyWould : Mth := (yX5_changeUntilNobodyWould, cX5_changeUntilNobodyWould, 2, (some .int), RX5)
def mX5_changeFirstPair : Mth := (yX5_changeFirstPair, cX5_changeFirstPair, 4, (some .boolean), RX5)
def mX5_wouldChange : Mth := (yX5_wouldChange, cX5_wouldChange, 5, (some .boolean), RX5)
def mX5_findBest : Mth := (yX5_findBest, cX5_findBest, 5, none, RX5)
def mX5_joyWith : Mth := (yX5_joyWith, cX5_joyWith, 4, (some .int), RX5)
def mX5_leastBestRow : Mth := (yX5_leastBestRow, cX5_leastBestRow, 4, (some .int), RX5)
def mX5_bestJoy : Mth := (yX5_bestJoy, cX5_bestJoy, 1, (some .int), RX5)
def mX5_envious : Mth := (yX5_envious, cX5_envious, 5, (some .int), RX5)
def mX6_init : Mth := (yX6_init, cX6_init, 1, none, RX6)
def mX6_begin : Mth := (yX6_begin, cX6_begin, 2, none, RX6)
def mX6_oneDay : Mth := (yX6_oneDay, cX6_oneDay, 5, none, RX6)
def mX6_join : Mth := (yX6_join, cX6_join, 3, none, RX6)
def mX6_isOn : Mth := (yX6_isOn, cX6_isOn, 2, (some .boolean), RX6)
def mX6_stepsTo : Mth := (yX6_stepsTo, cX6_stepsTo, 2, (some .int), RX6)
def mX7_init : Mth := (yX7_init, cX7_init, 2, none, RX7)
def mX7_type : Mth := (yX7_type, cX7_type, 2, (some .int), RX7)
def mX7_wipe : Mth := (yX7_wipe, cX7_wipe, 1, (some .int), RX7)
def mX7_fault : Mth := (yX7_fault, cX7_fault, 1, (some .int), RX7)
def mX7_place : Mth := (yX7_place, cX7_place, 3, (some .int), RX7)
def mX7_bridge : Mth := (yX7_bridge, cX7_bridge, 5, (some .int), RX7)
def mX7_gale : Mth := (yX7_gale, cX7_gale, 4, (some .int), RX7)
def mX7_read : Mth := (yX7_read, cX7_read, 6, (some .int), RX7)
def mX7_takeBack : Mth := (yX7_takeBack, cX7_takeBack, 3, (some .int), RX7)
def mX7_set : Mth := (yX7_set, cX7_set, 4, (some .int), RX7)
def mX7_sun : Mth := (yX7_sun, cX7_sun, 4, (some .int), RX7)
def mX7_turn : Mth := (yX7_turn, cX7_turn, 2, (some .int), RX7)
def mX7_door : Mth := (yX7_door, cX7_door, 5, (some .int), RX7)
def mX7_share : Mth := (yX7_share, cX7_share, 6, (some .long), RX7)
def mX7_shine : Mth := (yX7_shine, cX7_shine, 6, (some .int), RX7)
def mX7_ahead : Mth := (yX7_ahead, cX7_ahead, 10, (some .int), RX7)
def mX7_next : Mth := (yX7_next, cX7_next, 7, (some .int), RX7)
def mX7_likely : Mth := (yX7_likely, cX7_likely, 11, (some .long), RX7)
def mX7_soon : Mth := (yX7_soon, cX7_soon, 4, (some .int), RX7)
def mX7_carried : Mth := (yX7_carried, cX7_carried, 4, (some .int), RX7)
def mX7_meet : Mth := (yX7_meet, cX7_meet, 7, (some .int), RX7)
def mX7_wish : Mth := (yX7_wish, cX7_wish, 4, (some .int), RX7)
def mX7_lives : Mth := (yX7_lives, cX7_lives, 2, (some .int), RX7)
def mX7_joy : Mth := (yX7_joy, cX7_joy, 5, (some .int), RX7)
def mX7_swap : Mth := (yX7_swap, cX7_swap, 3, (some .int), RX7)
def mX7_best : Mth := (yX7_best, cX7_best, 4, (some .int), RX7)
def mX7_envy : Mth := (yX7_envy, cX7_envy, 3, (some .int), RX7)
def mX7_reaped : Mth := (yX7_reaped, cX7_reaped, 4, (some .int), RX7)
def mX7_history : Mth := (yX7_history, cX7_history, 4, (some .int), RX7)
def mX7_waits : Mth := (yX7_waits, cX7_waits, 3, (some .int), RX7)
def mX7_dig : Mth := (yX7_dig, cX7_dig, 7, (some .int), RX7)
def mX7_sheet : Mth := (yX7_sheet, cX7_sheet, 4, (some .int), RX7)
def mX7_lose : Mth := (yX7_lose, cX7_lose, 3, (some .int), RX7)
def mX7_put : Mth := (yX7_put, cX7_put, 6, (some .int), RX7)
def mX7_get : Mth := (yX7_get, cX7_get, 5, (some .int), RX7)
def mX7_copy : Mth := (yX7_copy, cX7_copy, 8, (some .int), RX7)
def mX7_write : Mth := (yX7_write, cX7_write, 6, (some .int), RX7)
def mX7_count : Mth := (yX7_count, cX7_count, 2, (some .int), RX7)
def mX7_digest : Mth := (yX7_digest, cX7_digest, 4, (some .long), RX7)
def mX7_digestPlaces : Mth := (yX7_digestPlaces, cX7_digestPlaces, 6, (some .long), RX7)
def mX7_digestRows : Mth := (yX7_digestRows, cX7_digestRows, 6, (some .long), RX7)
def mX7_digestTenants : Mth := (yX7_digestTenants, cX7_digestTenants, 6, (some .long), RX7)
def mX7_within : Mth := (yX7_within, cX7_within, 2, (some .boolean), RX7)
def mX7_isDay : Mth := (yX7_isDay, cX7_isDay, 1, (some .boolean), RX7)
def mX7_isSpan : Mth := (yX7_isSpan, cX7_isSpan, 2, (some .boolean), RX7)
def mX7_isThing : Mth := (yX7_isThing, cX7_isThing, 1, (some .boolean), RX7)
def mX7_isSheet : Mth := (yX7_isSheet, cX7_isSheet, 1, (some .boolean), RX7)
def mX7_isForm : Mth := (yX7_isForm, cX7_isForm, 1, (some .boolean), RX7)
def mX7_found : Mth := (yX7_found, cX7_found, 2, (some .int), RX7)
def mX7_lowestTerms : Mth := (yX7_lowestTerms, cX7_lowestTerms, 12, (some .long), RX7)
def mX7_daysWith : Mth := (yX7_daysWith, cX7_daysWith, 5, (some .int), RX7)
def mX7_walkTo : Mth := (yX7_walkTo, cX7_walkTo, 5, (some .int), RX7)
def mX7_reckonJoys : Mth := (yX7_reckonJoys, cX7_reckonJoys, 3, none, RX7)
def mX7_longestWait : Mth := (yX7_longestWait, cX7_longestWait, 8, (some .int), RX7)
def mX8_init : Mth := (yX8_init, cX8_init, 2, none, RX8)
def mX8_in : Mth := (yX8_in, cX8_in, 3, (some .boolean), RX8)
def mX8_isIn : Mth := (yX8_isIn, cX8_isIn, 2, (some .boolean), RX8)
def mX8_no : Mth := (yX8_no, cX8_no, 1, (some .long), RX8)
def mX8_lowest : Mth := (yX8_lowest, cX8_lowest, 11, (some .long), RX8)
def mX8_type : Mth := (yX8_type, cX8_type, 2, (some .int), RX8)
def mX8_wipe : Mth := (yX8_wipe, cX8_wipe, 2, (some .int), RX8)
def mX8_byteAt : Mth := (yX8_byteAt, cX8_byteAt, 2, (some .int), RX8)
def mX8_thingOf : Mth := (yX8_thingOf, cX8_thingOf, 1, (some .int), RX8)
def mX8_mayBe : Mth := (yX8_mayBe, cX8_mayBe, 4, (some .boolean), RX8)
def mX8_reads : Mth := (yX8_reads, cX8_reads, 4, (some .int), RX8)
def mX8_faultNow : Mth := (yX8_faultNow, cX8_faultNow, 3, (some .int), RX8)
def mX8_fault : Mth := (yX8_fault, cX8_fault, 1, (some .int), RX8)
def mX8_placeOf : Mth := (yX8_placeOf, cX8_placeOf, 4, (some .int), RX8)
def mX8_isEighth : Mth := (yX8_isEighth, cX8_isEighth, 1, (some .boolean), RX8)
def mX8_place : Mth := (yX8_place, cX8_place, 3, (some .int), RX8)
def mX8_sun : Mth := (yX8_sun, cX8_sun, 4, (some .int), RX8)
def mX8_galeMore : Mth := (yX8_galeMore, cX8_galeMore, 4, (some .int), RX8)
def mX8_gale : Mth := (yX8_gale, cX8_gale, 4, (some .int), RX8)
def mX8_read : Mth := (yX8_read, cX8_read, 4, (some .int), RX8)
def mX8_takeBack : Mth := (yX8_takeBack, cX8_takeBack, 3, (some .int), RX8)
def mX8_set : Mth := (yX8_set, cX8_set, 4, (some .int), RX8)
def mX8_doesCount : Mth := (yX8_doesCount, cX8_doesCount, 2, (some .boolean), RX8)
def mX8_lays : Mth := (yX8_lays, cX8_lays, 4, none, RX8)
def mX8_isDay : Mth := (yX8_isDay, cX8_isDay, 1, (some .boolean), RX8)
def mX8_turnOf : Mth := (yX8_turnOf, cX8_turnOf, 2, (some .int), RX8)
def mX8_turn : Mth := (yX8_turn, cX8_turn, 2, (some .int), RX8)
def mX8_isOver : Mth := (yX8_isOver, cX8_isOver, 7, (some .boolean), RX8)
def mX8_bridge : Mth := (yX8_bridge, cX8_bridge, 4, (some .int), RX8)
def mX8_doorAt : Mth := (yX8_doorAt, cX8_doorAt, 3, (some .int), RX8)
def mX8_doorOf : Mth := (yX8_doorOf, cX8_doorOf, 5, (some .int), RX8)
def mX8_door : Mth := (yX8_door, cX8_door, 4, (some .int), RX8)
def mX8_isThing : Mth := (yX8_isThing, cX8_isThing, 1, (some .boolean), RX8)
def mX8_isSpan : Mth := (yX8_isSpan, cX8_isSpan, 2, (some .boolean), RX8)
def mX8_daysOf : Mth := (yX8_daysOf, cX8_daysOf, 7, (some .int), RX8)
def mX8_share : Mth := (yX8_share, cX8_share, 6, (some .long), RX8)
def mX8_shineOf : Mth := (yX8_shineOf, cX8_shineOf, 6, (some .int), RX8)
def mX8_shine : Mth := (yX8_shine, cX8_shine, 4, (some .int), RX8)
def mX8_aheadOf : Mth := (yX8_aheadOf, cX8_aheadOf, 9, (some .int), RX8)
def mX8_ahead : Mth := (yX8_ahead, cX8_ahead, 5, (some .int), RX8)
def mX8_works : Mth := (yX8_works, cX8_works, 5, (some .boolean), RX8)
def mX8_next : Mth := (yX8_next, cX8_next, 6, (some .int), RX8)
def mX8_likely : Mth := (yX8_likely, cX8_likely, 13, (some .long), RX8)
def mX8_begins : Mth := (yX8_begins, cX8_begins, 4, none, RX8)
def mX8_isStep : Mth := (yX8_isStep, cX8_isStep, 6, (some .boolean), RX8)
def mX8_goes : Mth := (yX8_goes, cX8_goes, 7, none, RX8)
def mX8_soonOf : Mth := (yX8_soonOf, cX8_soonOf, 6, (some .int), RX8)
def mX8_soon : Mth := (yX8_soon, cX8_soon, 4, (some .int), RX8)
def mX8_carried : Mth := (yX8_carried, cX8_carried, 4, (some .int), RX8)
def mX8_meetOf : Mth := (yX8_meetOf, cX8_meetOf, 7, (some .int), RX8)
def mX8_meet : Mth := (yX8_meet, cX8_meet, 5, (some .int), RX8)
def mX8_wish : Mth := (yX8_wish, cX8_wish, 5, (some .int), RX8)
def mX8_lives : Mth := (yX8_lives, cX8_lives, 2, (some .int), RX8)
def mX8_laysJoy : Mth := (yX8_laysJoy, cX8_laysJoy, 7, none, RX8)
def mX8_joy : Mth := (yX8_joy, cX8_joy, 5, (some .int), RX8)
def mX8_swap : Mth := (yX8_swap, cX8_swap, 10, (some .int), RX8)
def mX8_ones : Mth := (yX8_ones, cX8_ones, 3, (some .int), RX8)
def mX8_bestOf : Mth := (yX8_bestOf, cX8_bestOf, 9, (some .int), RX8)
def mX8_best : Mth := (yX8_best, cX8_best, 4, (some .int), RX8)
def mX8_envyOf : Mth := (yX8_envyOf, cX8_envyOf, 7, (some .int), RX8)
def mX8_envy : Mth := (yX8_envy, cX8_envy, 3, (some .int), RX8)
def mX8_reaped : Mth := (yX8_reaped, cX8_reaped, 4, (some .int), RX8)
def mX8_historyOf : Mth := (yX8_historyOf, cX8_historyOf, 12, (some .int), RX8)
def mX8_history : Mth := (yX8_history, cX8_history, 4, (some .int), RX8)
def mX8_waitsOf : Mth := (yX8_waitsOf, cX8_waitsOf, 6, (some .int), RX8)
def mX8_waits : Mth := (yX8_waits, cX8_waits, 3, (some .int), RX8)
def mX8_digOf : Mth := (yX8_digOf, cX8_digOf, 8, (some .int), RX8)
def mX8_dig : Mth := (yX8_dig, cX8_dig, 3, (some .int), RX8)
def mX8_meets : Mth := (yX8_meets, cX8_meets, 2, (some .int), RX8)
def mX8_isSheet : Mth := (yX8_isSheet, cX8_isSheet, 1, (some .boolean), RX8)
def mX8_sheet : Mth := (yX8_sheet, cX8_sheet, 5, (some .int), RX8)
def mX8_lose : Mth := (yX8_lose, cX8_lose, 2, (some .int), RX8)
def mX8_lacks : Mth := (yX8_lacks, cX8_lacks, 4, (some .int), RX8)
def mX8_keep : Mth := (yX8_keep, cX8_keep, 4, none, RX8)
def mX8_put : Mth := (yX8_put, cX8_put, 6, (some .int), RX8)
def mX8_get : Mth := (yX8_get, cX8_get, 5, (some .int), RX8)
def mX8_copy : Mth := (yX8_copy, cX8_copy, 7, (some .int), RX8)
def mX8_write : Mth := (yX8_write, cX8_write, 4, (some .int), RX8)
def mX8_sumOf : Mth := (yX8_sumOf, cX8_sumOf, 5, (some .int), RX8)
def mX8_count : Mth := (yX8_count, cX8_count, 2, (some .int), RX8)
def mX8_digest : Mth := (yX8_digest, cX8_digest, 5, (some .long), RX8)
def mJ6_bitCount_0f7a4 : Mth := (yJ6_bitCount_0f7a4, cJ6_bitCount_0f7a4, 1, (some .int), RJ6)
def mJ9_max_7cf53 : Mth := (yJ9_max_7cf53, cJ9_max_7cf53, 2, (some .int), RJ9)
def mJ9_min_7cf53 : Mth := (yJ9_min_7cf53, cJ9_min_7cf53, 2, (some .int), RJ9)
def mJ7_fill_d0a16 : Mth := (yJ7_fill_d0a16, cJ7_fill_d0a16, 5, none, RJ7)
def mJ7_fill_53178 : Mth := (yJ7_fill_53178, cJ7_fill_53178, 4, none, RJ7)
theorem bt0 : Cond.laysFinal RX0 "TurningVillage$Chance" "weights" "[J" ∈ BT := bt_of (in_t1 (List.mem_of_getElem? (i := 135) rfl)) rfl
theorem bt1 : Cond.lays RX0 "TurningVillage$Chance" "all" "J" ∈ BT := bt_of (in_t1 (List.mem_of_getElem? (i := 137) rfl)) rfl
theorem iB_X0 : ∀ w ∈ u_ws RX0 TX0 2, w ∈ BT := fun w hw => by
  obtain ⟨k, hk, rfl⟩ := List.mem_map.mp hw
  have hk := List.mem_range.mp hk
  match k, hk with
  | 0, _ => exact bt0
  | 1, _ => exact bt1
  | n + 2, h => exact absurd h (by omega)
theorem bt2 : Cond.lays RX1 "TurningVillage$Gales" "number" "I" ∈ BT := bt_of (in_t1 (List.mem_of_getElem? (i := 100) rfl)) rfl
theorem bt3 : Cond.laysFinal RX1 "TurningVillage$Gales" "days" "[I" ∈ BT := bt_of (in_t1 (List.mem_of_getElem? (i := 102) rfl)) rfl
theorem bt4 : Cond.laysFinal RX1 "TurningVillage$Gales" "froms" "[I" ∈ BT := bt_of (in_t1 (List.mem_of_getElem? (i := 104) rfl)) rfl
theorem bt5 : Cond.laysFinal RX1 "TurningVillage$Gales" "told" "[I" ∈ BT := bt_of (in_t1 (List.mem_of_getElem? (i := 106) rfl)) rfl
theorem bt6 : Cond.laysFinal RX1 "TurningVillage$Gales" "taken" "[I" ∈ BT := bt_of (in_t1 (List.mem_of_getElem? (i := 108) rfl)) rfl
theorem bt7 : Cond.lays RX1 "TurningVillage$Gales" "latest" "I" ∈ BT := bt_of (in_t1 (List.mem_of_getElem? (i := 110) rfl)) rfl
theorem bt8 : Cond.lays RX1 "TurningVillage$Gales" "asOf" "I" ∈ BT := bt_of (in_t1 (List.mem_of_getElem? (i := 112) rfl)) rfl
theorem bt9 : Cond.lays RX1 "TurningVillage$Gales" "wing" "I" ∈ BT := bt_of (in_t1 (List.mem_of_getElem? (i := 114) rfl)) rfl
theorem bt10 : Cond.lays RX1 "TurningVillage$Gales" "begin" "I" ∈ BT := bt_of (in_t1 (List.mem_of_getElem? (i := 116) rfl)) rfl
theorem bt11 : Cond.laysFinal RX1 "TurningVillage$Gales" "turns" "[I" ∈ BT := bt_of (in_t1 (List.mem_of_getElem? (i := 118) rfl)) rfl
theorem bt12 : Cond.laysFinal RX1 "TurningVillage$Gales" "daysOfTurn" "[I" ∈ BT := bt_of (in_t1 (List.mem_of_getElem? (i := 120) rfl)) rfl
theorem bt13 : Cond.laysFinal RX1 "TurningVillage$Gales" "firstDays" "[I" ∈ BT := bt_of (in_t1 (List.mem_of_getElem? (i := 122) rfl)) rfl
theorem iB_X1 : ∀ w ∈ u_ws RX1 TX1 12, w ∈ BT := fun w hw => by
  obtain ⟨k, hk, rfl⟩ := List.mem_map.mp hw
  have hk := List.mem_range.mp hk
  match k, hk with
  | 0, _ => exact bt2
  | 1, _ => exact bt3
  | 2, _ => exact bt4
  | 3, _ => exact bt5
  | 4, _ => exact bt6
  | 5, _ => exact bt7
  | 6, _ => exact bt8
  | 7, _ => exact bt9
  | 8, _ => exact bt10
  | 9, _ => exact bt11
  | 10, _ => exact bt12
  | 11, _ => exact bt13
  | n + 12, h => exact absurd h (by omega)
theorem bt14 : Cond.laysFinal RX2 "TurningVillage$Harvest" "known" "[I" ∈ BT := bt_of (in_t1 (List.mem_of_getElem? (i := 198) rfl)) rfl
theorem bt15 : Cond.laysFinal RX2 "TurningVillage$Harvest" "cropOfTurn" "[J" ∈ BT := bt_of (in_t1 (List.mem_of_getElem? (i := 200) rfl)) rfl
theorem bt16 : Cond.laysFinal RX2 "TurningVillage$Harvest" "bits" "[I" ∈ BT := bt_of (in_t1 (List.mem_of_getElem? (i := 202) rfl)) rfl
theorem bt17 : Cond.laysFinal RX2 "TurningVillage$Harvest" "turns" "[I" ∈ BT := bt_of (in_t1 (List.mem_of_getElem? (i := 204) rfl)) rfl
theorem bt18 : Cond.laysFinal RX2 "TurningVillage$Harvest" "crops" "[J" ∈ BT := bt_of (in_t1 (List.mem_of_getElem? (i := 206) rfl)) rfl
theorem bt19 : Cond.lays RX2 "TurningVillage$Harvest" "fitting" "I" ∈ BT := bt_of (in_t1 (List.mem_of_getElem? (i := 208) rfl)) rfl
theorem bt20 : Cond.lays RX2 "TurningVillage$Harvest" "first" "I" ∈ BT := bt_of (in_t1 (List.mem_of_getElem? (i := 210) rfl)) rfl
theorem bt21 : Cond.lays RX2 "TurningVillage$Harvest" "sureWith" "I" ∈ BT := bt_of (in_t1 (List.mem_of_getElem? (i := 212) rfl)) rfl
theorem bt22 : Cond.lays RX2 "TurningVillage$Harvest" "sureWithout" "I" ∈ BT := bt_of (in_t1 (List.mem_of_getElem? (i := 214) rfl)) rfl
theorem iB_X2 : ∀ w ∈ u_ws RX2 TX2 9, w ∈ BT := fun w hw => by
  obtain ⟨k, hk, rfl⟩ := List.mem_map.mp hw
  have hk := List.mem_range.mp hk
  match k, hk with
  | 0, _ => exact bt14
  | 1, _ => exact bt15
  | 2, _ => exact bt16
  | 3, _ => exact bt17
  | 4, _ => exact bt18
  | 5, _ => exact bt19
  | 6, _ => exact bt20
  | 7, _ => exact bt21
  | 8, _ => exact bt22
  | n + 9, h => exact absurd h (by omega)
theorem bt23 : Cond.laysFinal RX3 "TurningVillage$Land" "text" "[I" ∈ BT := bt_of (in_t1 (List.mem_of_getElem? (i := 51) rfl)) rfl
theorem bt24 : Cond.lays RX3 "TurningVillage$Land" "length" "I" ∈ BT := bt_of (in_t1 (List.mem_of_getElem? (i := 53) rfl)) rfl
theorem bt25 : Cond.lays RX3 "TurningVillage$Land" "fault" "I" ∈ BT := bt_of (in_t1 (List.mem_of_getElem? (i := 55) rfl)) rfl
theorem bt26 : Cond.laysFinal RX3 "TurningVillage$Land" "things" "[I" ∈ BT := bt_of (in_t1 (List.mem_of_getElem? (i := 57) rfl)) rfl
theorem bt27 : Cond.laysFinal RX3 "TurningVillage$Land" "closed" "[I" ∈ BT := bt_of (in_t1 (List.mem_of_getElem? (i := 59) rfl)) rfl
theorem bt28 : Cond.laysFinal RX3 "TurningVillage$Land" "suns" "[I" ∈ BT := bt_of (in_t1 (List.mem_of_getElem? (i := 61) rfl)) rfl
theorem bt29 : Cond.lays RX3 "TurningVillage$Land" "bridges" "I" ∈ BT := bt_of (in_t1 (List.mem_of_getElem? (i := 63) rfl)) rfl
theorem bt30 : Cond.laysFinal RX3 "TurningVillage$Land" "oneEnd" "[I" ∈ BT := bt_of (in_t1 (List.mem_of_getElem? (i := 65) rfl)) rfl
theorem bt31 : Cond.laysFinal RX3 "TurningVillage$Land" "otherEnd" "[I" ∈ BT := bt_of (in_t1 (List.mem_of_getElem? (i := 67) rfl)) rfl
theorem bt32 : Cond.laysFinal RX3 "TurningVillage$Land" "modulus" "[I" ∈ BT := bt_of (in_t1 (List.mem_of_getElem? (i := 69) rfl)) rfl
theorem bt33 : Cond.laysFinal RX3 "TurningVillage$Land" "remainder" "[I" ∈ BT := bt_of (in_t1 (List.mem_of_getElem? (i := 71) rfl)) rfl
theorem iB_X3 : ∀ w ∈ u_ws RX3 TX3 11, w ∈ BT := fun w hw => by
  obtain ⟨k, hk, rfl⟩ := List.mem_map.mp hw
  have hk := List.mem_range.mp hk
  match k, hk with
  | 0, _ => exact bt23
  | 1, _ => exact bt24
  | 2, _ => exact bt25
  | 3, _ => exact bt26
  | 4, _ => exact bt27
  | 5, _ => exact bt28
  | 6, _ => exact bt29
  | 7, _ => exact bt30
  | 8, _ => exact bt31
  | 9, _ => exact bt32
  | 10, _ => exact bt33
  | n + 11, h => exact absurd h (by omega)
theorem bt34 : Cond.lays RX4 "TurningVillage$Sheet" "lost" "Z" ∈ BT := bt_of (in_t1 (List.mem_of_getElem? (i := 232) rfl)) rfl
theorem bt35 : Cond.lays RX4 "TurningVillage$Sheet" "form" "I" ∈ BT := bt_of (in_t1 (List.mem_of_getElem? (i := 234) rfl)) rfl
theorem bt36 : Cond.lays RX4 "TurningVillage$Sheet" "size" "I" ∈ BT := bt_of (in_t1 (List.mem_of_getElem? (i := 236) rfl)) rfl
theorem bt37 : Cond.laysFinal RX4 "TurningVillage$Sheet" "items" "[I" ∈ BT := bt_of (in_t1 (List.mem_of_getElem? (i := 238) rfl)) rfl
theorem iB_X4 : ∀ w ∈ u_ws RX4 TX4 4, w ∈ BT := fun w hw => by
  obtain ⟨k, hk, rfl⟩ := List.mem_map.mp hw
  have hk := List.mem_range.mp hk
  match k, hk with
  | 0, _ => exact bt34
  | 1, _ => exact bt35
  | 2, _ => exact bt36
  | 3, _ => exact bt37
  | n + 4, h => exact absurd h (by omega)
theorem bt38 : Cond.laysFinal RX5 "TurningVillage$Tenants" "rows" "[I" ∈ BT := bt_of (in_t1 (List.mem_of_getElem? (i := 167) rfl)) rfl
theorem bt39 : Cond.laysFinal RX5 "TurningVillage$Tenants" "wishes" "[I" ∈ BT := bt_of (in_t1 (List.mem_of_getElem? (i := 169) rfl)) rfl
theorem bt40 : Cond.laysFinal RX5 "TurningVillage$Tenants" "joys" "[I" ∈ BT := bt_of (in_t1 (List.mem_of_getElem? (i := 171) rfl)) rfl
theorem bt41 : Cond.laysFinal RX5 "TurningVillage$Tenants" "mostJoy" "[I" ∈ BT := bt_of (in_t1 (List.mem_of_getElem? (i := 173) rfl)) rfl
theorem bt42 : Cond.laysFinal RX5 "TurningVillage$Tenants" "bestRows" "[I" ∈ BT := bt_of (in_t1 (List.mem_of_getElem? (i := 175) rfl)) rfl
theorem iB_X5 : ∀ w ∈ u_ws RX5 TX5 5, w ∈ BT := fun w hw => by
  obtain ⟨k, hk, rfl⟩ := List.mem_map.mp hw
  have hk := List.mem_range.mp hk
  match k, hk with
  | 0, _ => exact bt38
  | 1, _ => exact bt39
  | 2, _ => exact bt40
  | 3, _ => exact bt41
  | 4, _ => exact bt42
  | n + 5, h => exact absurd h (by omega)
theorem bt43 : Cond.laysFinal RX6 "TurningVillage$Walker" "steps" "[I" ∈ BT := bt_of (in_t1 (List.mem_of_getElem? (i := 149) rfl)) rfl
theorem bt44 : Cond.laysFinal RX6 "TurningVillage$Walker" "before" "[I" ∈ BT := bt_of (in_t1 (List.mem_of_getElem? (i := 151) rfl)) rfl
theorem iB_X6 : ∀ w ∈ u_ws RX6 TX6 2, w ∈ BT := fun w hw => by
  obtain ⟨k, hk, rfl⟩ := List.mem_map.mp hw
  have hk := List.mem_range.mp hk
  match k, hk with
  | 0, _ => exact bt43
  | 1, _ => exact bt44
  | n + 2, h => exact absurd h (by omega)
theorem bt45 : Cond.laysFinal RX7 "TurningVillage" "land" "LTurningVillage$Land;" ∈ BT := bt_of (in_t2 (List.mem_of_getElem? (i := 10) rfl)) rfl
theorem bt46 : Cond.laysFinal RX7 "TurningVillage" "gales" "LTurningVillage$Gales;" ∈ BT := bt_of (in_t2 (List.mem_of_getElem? (i := 12) rfl)) rfl
theorem bt47 : Cond.laysFinal RX7 "TurningVillage" "chance" "LTurningVillage$Chance;" ∈ BT := bt_of (in_t2 (List.mem_of_getElem? (i := 14) rfl)) rfl
theorem bt48 : Cond.laysFinal RX7 "TurningVillage" "walker" "LTurningVillage$Walker;" ∈ BT := bt_of (in_t2 (List.mem_of_getElem? (i := 16) rfl)) rfl
theorem bt49 : Cond.laysFinal RX7 "TurningVillage" "companion" "LTurningVillage$Walker;" ∈ BT := bt_of (in_t2 (List.mem_of_getElem? (i := 18) rfl)) rfl
theorem bt50 : Cond.laysFinal RX7 "TurningVillage" "tenants" "LTurningVillage$Tenants;" ∈ BT := bt_of (in_t2 (List.mem_of_getElem? (i := 20) rfl)) rfl
theorem bt51 : Cond.laysFinal RX7 "TurningVillage" "harvest" "LTurningVillage$Harvest;" ∈ BT := bt_of (in_t2 (List.mem_of_getElem? (i := 22) rfl)) rfl
theorem bt52 : Cond.laysFinal RX7 "TurningVillage" "sheets" "[LTurningVillage$Sheet;" ∈ BT := bt_of (in_t2 (List.mem_of_getElem? (i := 24) rfl)) rfl
theorem bt53 : Cond.lays RX7 "TurningVillage" "finding" "I" ∈ BT := bt_of (in_t2 (List.mem_of_getElem? (i := 26) rfl)) rfl
theorem iB_X7 : ∀ w ∈ u_ws RX7 TX7 9, w ∈ BT := fun w hw => by
  obtain ⟨k, hk, rfl⟩ := List.mem_map.mp hw
  have hk := List.mem_range.mp hk
  match k, hk with
  | 0, _ => exact bt45
  | 1, _ => exact bt46
  | 2, _ => exact bt47
  | 3, _ => exact bt48
  | 4, _ => exact bt49
  | 5, _ => exact bt50
  | 6, _ => exact bt51
  | 7, _ => exact bt52
  | 8, _ => exact bt53
  | n + 9, h => exact absurd h (by omega)
theorem bt54 : Cond.lays RX8 "TurningVillageModel" "typed" "I" ∈ BT := bt_of (in_t4 (List.mem_of_getElem? (i := 51) rfl)) rfl
theorem bt55 : Cond.laysFinal RX8 "TurningVillageModel" "text" "[I" ∈ BT := bt_of (in_t4 (List.mem_of_getElem? (i := 53) rfl)) rfl
theorem bt56 : Cond.laysFinal RX8 "TurningVillageModel" "things" "[I" ∈ BT := bt_of (in_t4 (List.mem_of_getElem? (i := 55) rfl)) rfl
theorem bt57 : Cond.laysFinal RX8 "TurningVillageModel" "closed" "[I" ∈ BT := bt_of (in_t4 (List.mem_of_getElem? (i := 57) rfl)) rfl
theorem bt58 : Cond.lays RX8 "TurningVillageModel" "bridges" "I" ∈ BT := bt_of (in_t4 (List.mem_of_getElem? (i := 59) rfl)) rfl
theorem bt59 : Cond.laysFinal RX8 "TurningVillageModel" "bridge" "[I" ∈ BT := bt_of (in_t4 (List.mem_of_getElem? (i := 61) rfl)) rfl
theorem bt60 : Cond.laysFinal RX8 "TurningVillageModel" "suns" "[I" ∈ BT := bt_of (in_t4 (List.mem_of_getElem? (i := 63) rfl)) rfl
theorem bt61 : Cond.lays RX8 "TurningVillageModel" "gales" "I" ∈ BT := bt_of (in_t4 (List.mem_of_getElem? (i := 65) rfl)) rfl
theorem bt62 : Cond.laysFinal RX8 "TurningVillageModel" "galeDay" "[I" ∈ BT := bt_of (in_t4 (List.mem_of_getElem? (i := 67) rfl)) rfl
theorem bt63 : Cond.laysFinal RX8 "TurningVillageModel" "galeFrom" "[I" ∈ BT := bt_of (in_t4 (List.mem_of_getElem? (i := 69) rfl)) rfl
theorem bt64 : Cond.laysFinal RX8 "TurningVillageModel" "galeTime" "[I" ∈ BT := bt_of (in_t4 (List.mem_of_getElem? (i := 71) rfl)) rfl
theorem bt65 : Cond.laysFinal RX8 "TurningVillageModel" "galeBack" "[I" ∈ BT := bt_of (in_t4 (List.mem_of_getElem? (i := 73) rfl)) rfl
theorem bt66 : Cond.lays RX8 "TurningVillageModel" "lastTime" "I" ∈ BT := bt_of (in_t4 (List.mem_of_getElem? (i := 75) rfl)) rfl
theorem bt67 : Cond.laysFinal RX8 "TurningVillageModel" "setting" "[I" ∈ BT := bt_of (in_t4 (List.mem_of_getElem? (i := 77) rfl)) rfl
theorem bt68 : Cond.laysFinal RX8 "TurningVillageModel" "turns" "[I" ∈ BT := bt_of (in_t4 (List.mem_of_getElem? (i := 79) rfl)) rfl
theorem bt69 : Cond.laysFinal RX8 "TurningVillageModel" "chance" "[J" ∈ BT := bt_of (in_t4 (List.mem_of_getElem? (i := 81) rfl)) rfl
theorem bt70 : Cond.laysFinal RX8 "TurningVillageModel" "steps" "[I" ∈ BT := bt_of (in_t4 (List.mem_of_getElem? (i := 83) rfl)) rfl
theorem bt71 : Cond.laysFinal RX8 "TurningVillageModel" "then" "[I" ∈ BT := bt_of (in_t4 (List.mem_of_getElem? (i := 85) rfl)) rfl
theorem bt72 : Cond.laysFinal RX8 "TurningVillageModel" "wishes" "[I" ∈ BT := bt_of (in_t4 (List.mem_of_getElem? (i := 87) rfl)) rfl
theorem bt73 : Cond.laysFinal RX8 "TurningVillageModel" "lives" "[I" ∈ BT := bt_of (in_t4 (List.mem_of_getElem? (i := 89) rfl)) rfl
theorem bt74 : Cond.laysFinal RX8 "TurningVillageModel" "joys" "[I" ∈ BT := bt_of (in_t4 (List.mem_of_getElem? (i := 91) rfl)) rfl
theorem bt75 : Cond.laysFinal RX8 "TurningVillageModel" "mostBehind" "[I" ∈ BT := bt_of (in_t4 (List.mem_of_getElem? (i := 93) rfl)) rfl
theorem bt76 : Cond.laysFinal RX8 "TurningVillageModel" "reaped" "[I" ∈ BT := bt_of (in_t4 (List.mem_of_getElem? (i := 95) rfl)) rfl
theorem bt77 : Cond.laysFinal RX8 "TurningVillageModel" "fields" "[I" ∈ BT := bt_of (in_t4 (List.mem_of_getElem? (i := 97) rfl)) rfl
theorem bt78 : Cond.laysFinal RX8 "TurningVillageModel" "isThere" "[Z" ∈ BT := bt_of (in_t4 (List.mem_of_getElem? (i := 99) rfl)) rfl
theorem bt79 : Cond.laysFinal RX8 "TurningVillageModel" "forms" "[I" ∈ BT := bt_of (in_t4 (List.mem_of_getElem? (i := 101) rfl)) rfl
theorem bt80 : Cond.laysFinal RX8 "TurningVillageModel" "sizes" "[I" ∈ BT := bt_of (in_t4 (List.mem_of_getElem? (i := 103) rfl)) rfl
theorem bt81 : Cond.laysFinal RX8 "TurningVillageModel" "items" "[I" ∈ BT := bt_of (in_t4 (List.mem_of_getElem? (i := 105) rfl)) rfl
theorem bt82 : Cond.laysFinal RX8 "TurningVillageModel" "moved" "[I" ∈ BT := bt_of (in_t4 (List.mem_of_getElem? (i := 107) rfl)) rfl
theorem bt83 : Cond.lays RX8 "TurningVillageModel" "finding" "I" ∈ BT := bt_of (in_t4 (List.mem_of_getElem? (i := 109) rfl)) rfl
theorem iB_X8 : ∀ w ∈ u_ws RX8 TX8 30, w ∈ BT := fun w hw => by
  obtain ⟨k, hk, rfl⟩ := List.mem_map.mp hw
  have hk := List.mem_range.mp hk
  match k, hk with
  | 0, _ => exact bt54
  | 1, _ => exact bt55
  | 2, _ => exact bt56
  | 3, _ => exact bt57
  | 4, _ => exact bt58
  | 5, _ => exact bt59
  | 6, _ => exact bt60
  | 7, _ => exact bt61
  | 8, _ => exact bt62
  | 9, _ => exact bt63
  | 10, _ => exact bt64
  | 11, _ => exact bt65
  | 12, _ => exact bt66
  | 13, _ => exact bt67
  | 14, _ => exact bt68
  | 15, _ => exact bt69
  | 16, _ => exact bt70
  | 17, _ => exact bt71
  | 18, _ => exact bt72
  | 19, _ => exact bt73
  | 20, _ => exact bt74
  | 21, _ => exact bt75
  | 22, _ => exact bt76
  | 23, _ => exact bt77
  | 24, _ => exact bt78
  | 25, _ => exact bt79
  | 26, _ => exact bt80
  | 27, _ => exact bt81
  | 28, _ => exact bt82
  | 29, _ => exact bt83
  | n + 30, h => exact absurd h (by omega)
theorem bt84 : Cond.fieldLink RX0 9 "TurningVillage$Chance" "weights" "[J" ∈ BT := bt_of (in_t1 (List.mem_of_getElem? (i := 131) rfl)) rfl
theorem fl_X0_9 : FLk RX0 9 0 0 := ⟨RX0, TX0, 2, rfl, by decide, bt84, iB_X0⟩
theorem bt85 : Cond.methodLink RX0 19 yJ7_fill_d0a16 ∈ BT := bt_of (in_t2 (List.mem_of_getElem? (i := 228) rfl)) rfl
theorem bt86 : Cond.static yJ7_fill_d0a16 ∈ BT := bt_of (in_t2 (List.mem_of_getElem? (i := 229) rfl)) rfl
theorem bt87 : Cond.initialized RJ7 ∈ BT := bt_of (in_t1 (List.mem_of_getElem? (i := 10) rfl)) rfl
theorem bt88 : Cond.code yJ7_fill_d0a16 cJ7_fill_d0a16 5 none ∈ BT := bt_of (in_t2 (List.mem_of_getElem? (i := 230) rfl)) rfl
theorem sl_X0_19 (M : Mth) (h : mO M = RX0) : SLk M mJ7_fill_d0a16 19 2 := ⟨by rw [h]; exact bt85, bt86, bt87, bt88, ⟨by decide +kernel, by decide +kernel⟩, by decide +kernel, by decide⟩
theorem bt89 : Cond.fieldLink RX0 15 "TurningVillage$Chance" "all" "J" ∈ BT := bt_of (in_t1 (List.mem_of_getElem? (i := 133) rfl)) rfl
theorem fp_X0_15 : FPk RX0 15 0 1 .long := ⟨RX0, TX0, 2, tyX0, rfl, by decide, bt89, iB_X0, tyX0_ok, nmX0, rfl, by decide +kernel⟩
theorem fl_X0_15 : FLk RX0 15 0 1 := ⟨RX0, TX0, 2, rfl, by decide, bt89, iB_X0⟩
theorem bt90 : Cond.constantLong RX0 25 (16) ∈ BT := bt_of (in_t2 (List.mem_of_getElem? (i := 235) rfl)) rfl
theorem bt91 : Cond.fieldLink RX1 28 "TurningVillage$Gales" "latest" "I" ∈ BT := bt_of (in_t1 (List.mem_of_getElem? (i := 87) rfl)) rfl
theorem fl_X1_28 : FLk RX1 28 1 5 := ⟨RX1, TX1, 12, rfl, by decide, bt91, iB_X1⟩
theorem bt92 : Cond.fieldLink RX1 9 "TurningVillage$Gales" "number" "I" ∈ BT := bt_of (in_t1 (List.mem_of_getElem? (i := 81) rfl)) rfl
theorem fl_X1_9 : FLk RX1 9 1 0 := ⟨RX1, TX1, 12, rfl, by decide, bt92, iB_X1⟩
theorem bt93 : Cond.fieldLink RX1 15 "TurningVillage$Gales" "days" "[I" ∈ BT := bt_of (in_t1 (List.mem_of_getElem? (i := 83) rfl)) rfl
theorem fl_X1_15 : FLk RX1 15 1 1 := ⟨RX1, TX1, 12, rfl, by decide, bt93, iB_X1⟩
theorem bt94 : Cond.fieldLink RX1 19 "TurningVillage$Gales" "froms" "[I" ∈ BT := bt_of (in_t1 (List.mem_of_getElem? (i := 84) rfl)) rfl
theorem fl_X1_19 : FLk RX1 19 1 2 := ⟨RX1, TX1, 12, rfl, by decide, bt94, iB_X1⟩
theorem bt95 : Cond.fieldLink RX1 22 "TurningVillage$Gales" "told" "[I" ∈ BT := bt_of (in_t1 (List.mem_of_getElem? (i := 85) rfl)) rfl
theorem fl_X1_22 : FLk RX1 22 1 3 := ⟨RX1, TX1, 12, rfl, by decide, bt95, iB_X1⟩
theorem bt96 : Cond.fieldLink RX1 25 "TurningVillage$Gales" "taken" "[I" ∈ BT := bt_of (in_t1 (List.mem_of_getElem? (i := 86) rfl)) rfl
theorem fl_X1_25 : FLk RX1 25 1 4 := ⟨RX1, TX1, 12, rfl, by decide, bt96, iB_X1⟩
theorem fp_X1_28 : FPk RX1 28 1 5 .int := ⟨RX1, TX1, 12, tyX1, rfl, by decide, bt91, iB_X1, tyX1_ok, nmX1, rfl, by decide +kernel⟩
theorem fp_X1_9 : FPk RX1 9 1 0 .int := ⟨RX1, TX1, 12, tyX1, rfl, by decide, bt92, iB_X1, tyX1_ok, nmX1, rfl, by decide +kernel⟩
theorem bt97 : Cond.fieldLink RX1 31 "TurningVillage$Gales" "asOf" "I" ∈ BT := bt_of (in_t1 (List.mem_of_getElem? (i := 88) rfl)) rfl
theorem fl_X1_31 : FLk RX1 31 1 6 := ⟨RX1, TX1, 12, rfl, by decide, bt97, iB_X1⟩
theorem fp_X1_31 : FPk RX1 31 1 6 .int := ⟨RX1, TX1, 12, tyX1, rfl, by decide, bt97, iB_X1, tyX1_ok, nmX1, rfl, by decide +kernel⟩
theorem bt98 : Cond.fieldLink RX1 34 "TurningVillage$Gales" "wing" "I" ∈ BT := bt_of (in_t1 (List.mem_of_getElem? (i := 90) rfl)) rfl
theorem fl_X1_34 : FLk RX1 34 1 7 := ⟨RX1, TX1, 12, rfl, by decide, bt98, iB_X1⟩
theorem fp_X1_34 : FPk RX1 34 1 7 .int := ⟨RX1, TX1, 12, tyX1, rfl, by decide, bt98, iB_X1, tyX1_ok, nmX1, rfl, by decide +kernel⟩
theorem bt99 : Cond.fieldLink RX1 37 "TurningVillage$Gales" "begin" "I" ∈ BT := bt_of (in_t1 (List.mem_of_getElem? (i := 92) rfl)) rfl
theorem fl_X1_37 : FLk RX1 37 1 8 := ⟨RX1, TX1, 12, rfl, by decide, bt99, iB_X1⟩
theorem fp_X1_37 : FPk RX1 37 1 8 .int := ⟨RX1, TX1, 12, tyX1, rfl, by decide, bt99, iB_X1, tyX1_ok, nmX1, rfl, by decide +kernel⟩
theorem bt100 : Cond.methodLink RX1 49 yX1_counts ∈ BT := bt_of (in_t2 (List.mem_of_getElem? (i := 127) rfl)) rfl
theorem bt101 : Cond.instanceMethod yX1_counts ∈ BT := bt_of (in_t2 (List.mem_of_getElem? (i := 129) rfl)) rfl
theorem bt102 : Cond.selects RX1 yX1_counts yX1_counts ∈ BT := bt_of (in_s1 (n := 12) (List.mem_of_getElem? (i := 8) rfl)) rfl
theorem bt103 : Cond.initialized RX1 ∈ BT := bt_of (in_t1 (List.mem_of_getElem? (i := 3) rfl)) rfl
theorem bt104 : Cond.code yX1_counts cX1_counts 2 (some .boolean) ∈ BT := bt_of (in_t2 (List.mem_of_getElem? (i := 130) rfl)) rfl
theorem vl_X1_49 (M : Mth) (h : mO M = RX1) : VLk M mX1_counts 49 1 1 := ⟨by rw [h]; exact bt100, bt101, bt102, bt103, bt104, ⟨by decide +kernel, by decide +kernel⟩, by decide +kernel, by decide, TX1, 12, rfl⟩
theorem bt105 : Cond.fieldLink RX1 40 "TurningVillage$Gales" "turns" "[I" ∈ BT := bt_of (in_t1 (List.mem_of_getElem? (i := 94) rfl)) rfl
theorem fl_X1_40 : FLk RX1 40 1 9 := ⟨RX1, TX1, 12, rfl, by decide, bt105, iB_X1⟩
theorem bt106 : Cond.methodLink RX1 53 yJ7_fill_53178 ∈ BT := bt_of (in_t2 (List.mem_of_getElem? (i := 126) rfl)) rfl
theorem bt107 : Cond.static yJ7_fill_53178 ∈ BT := bt_of (in_t2 (List.mem_of_getElem? (i := 49) rfl)) rfl
theorem bt108 : Cond.code yJ7_fill_53178 cJ7_fill_53178 4 none ∈ BT := bt_of (in_t2 (List.mem_of_getElem? (i := 50) rfl)) rfl
theorem sl_X1_53 (M : Mth) (h : mO M = RX1) : SLk M mJ7_fill_53178 53 2 := ⟨by rw [h]; exact bt106, bt107, bt87, bt108, ⟨by decide +kernel, by decide +kernel⟩, by decide +kernel, by decide⟩
theorem bt109 : Cond.fieldLink RX1 43 "TurningVillage$Gales" "daysOfTurn" "[I" ∈ BT := bt_of (in_t1 (List.mem_of_getElem? (i := 96) rfl)) rfl
theorem fl_X1_43 : FLk RX1 43 1 10 := ⟨RX1, TX1, 12, rfl, by decide, bt109, iB_X1⟩
theorem bt110 : Cond.fieldLink RX1 46 "TurningVillage$Gales" "firstDays" "[I" ∈ BT := bt_of (in_t1 (List.mem_of_getElem? (i := 98) rfl)) rfl
theorem fl_X1_46 : FLk RX1 46 1 11 := ⟨RX1, TX1, 12, rfl, by decide, bt110, iB_X1⟩
theorem bt111 : Cond.methodLink RX2 41 yX2_reckonCrops ∈ BT := bt_of (in_t3 (List.mem_of_getElem? (i := 136) rfl)) rfl
theorem bt112 : Cond.instanceMethod yX2_reckonCrops ∈ BT := bt_of (in_t3 (List.mem_of_getElem? (i := 138) rfl)) rfl
theorem bt113 : Cond.selects RX2 yX2_reckonCrops yX2_reckonCrops ∈ BT := bt_of (in_s2 (n := 9) (List.mem_of_getElem? (i := 2) rfl)) rfl
theorem bt114 : Cond.initialized RX2 ∈ BT := bt_of (in_t1 (List.mem_of_getElem? (i := 7) rfl)) rfl
theorem bt115 : Cond.code yX2_reckonCrops cX2_reckonCrops 6 (some .long) ∈ BT := bt_of (in_t3 (List.mem_of_getElem? (i := 139) rfl)) rfl
theorem vl_X2_41 (M : Mth) (h : mO M = RX2) : VLk M mX2_reckonCrops 41 2 1 := ⟨by rw [h]; exact bt111, bt112, bt113, bt114, bt115, ⟨by decide +kernel, by decide +kernel⟩, by decide +kernel, by decide, TX2, 9, rfl⟩
theorem bt116 : Cond.fieldLink RX2 28 "TurningVillage$Harvest" "fitting" "I" ∈ BT := bt_of (in_t1 (List.mem_of_getElem? (i := 190) rfl)) rfl
theorem fp_X2_28 : FPk RX2 28 2 5 .int := ⟨RX2, TX2, 9, tyX2, rfl, by decide, bt116, iB_X2, tyX2_ok, nmX2, rfl, by decide +kernel⟩
theorem bt117 : Cond.fieldLink RX2 32 "TurningVillage$Harvest" "first" "I" ∈ BT := bt_of (in_t1 (List.mem_of_getElem? (i := 192) rfl)) rfl
theorem fp_X2_32 : FPk RX2 32 2 6 .int := ⟨RX2, TX2, 9, tyX2, rfl, by decide, bt117, iB_X2, tyX2_ok, nmX2, rfl, by decide +kernel⟩
theorem bt118 : Cond.fieldLink RX2 35 "TurningVillage$Harvest" "sureWith" "I" ∈ BT := bt_of (in_t1 (List.mem_of_getElem? (i := 194) rfl)) rfl
theorem fp_X2_35 : FPk RX2 35 2 7 .int := ⟨RX2, TX2, 9, tyX2, rfl, by decide, bt118, iB_X2, tyX2_ok, nmX2, rfl, by decide +kernel⟩
theorem fl_X2_35 : FLk RX2 35 2 7 := ⟨RX2, TX2, 9, rfl, by decide, bt118, iB_X2⟩
theorem bt119 : Cond.fieldLink RX2 38 "TurningVillage$Harvest" "sureWithout" "I" ∈ BT := bt_of (in_t1 (List.mem_of_getElem? (i := 196) rfl)) rfl
theorem fp_X2_38 : FPk RX2 38 2 8 .int := ⟨RX2, TX2, 9, tyX2, rfl, by decide, bt119, iB_X2, tyX2_ok, nmX2, rfl, by decide +kernel⟩
theorem bt120 : Cond.fieldLink RX2 22 "TurningVillage$Harvest" "turns" "[I" ∈ BT := bt_of (in_t1 (List.mem_of_getElem? (i := 188) rfl)) rfl
theorem fl_X2_22 : FLk RX2 22 2 3 := ⟨RX2, TX2, 9, rfl, by decide, bt120, iB_X2⟩
theorem bt121 : Cond.methodLink RX2 45 yJ6_bitCount_0f7a4 ∈ BT := bt_of (in_t3 (List.mem_of_getElem? (i := 141) rfl)) rfl
theorem bt122 : Cond.static yJ6_bitCount_0f7a4 ∈ BT := bt_of (in_t3 (List.mem_of_getElem? (i := 96) rfl)) rfl
theorem bt123 : Cond.initialized RJ6 ∈ BT := bt_of (in_t1 (List.mem_of_getElem? (i := 13) rfl)) rfl
theorem bt124 : Cond.code yJ6_bitCount_0f7a4 cJ6_bitCount_0f7a4 1 (some .int) ∈ BT := bt_of (in_t3 (List.mem_of_getElem? (i := 97) rfl)) rfl
theorem sl_X2_45 (M : Mth) (h : mO M = RX2) : SLk M mJ6_bitCount_0f7a4 45 1 := ⟨by rw [h]; exact bt121, bt122, bt123, bt124, ⟨by decide +kernel, by decide +kernel⟩, by decide +kernel, by decide⟩
theorem bt125 : Cond.methodLink RX2 51 yJ9_min_7cf53 ∈ BT := bt_of (in_t3 (List.mem_of_getElem? (i := 142) rfl)) rfl
theorem bt126 : Cond.static yJ9_min_7cf53 ∈ BT := bt_of (in_t2 (List.mem_of_getElem? (i := 206) rfl)) rfl
theorem bt127 : Cond.initialized RJ9 ∈ BT := bt_of (in_t1 (List.mem_of_getElem? (i := 11) rfl)) rfl
theorem bt128 : Cond.code yJ9_min_7cf53 cJ9_min_7cf53 2 (some .int) ∈ BT := bt_of (in_t2 (List.mem_of_getElem? (i := 207) rfl)) rfl
theorem sl_X2_51 (M : Mth) (h : mO M = RX2) : SLk M mJ9_min_7cf53 51 2 := ⟨by rw [h]; exact bt125, bt126, bt127, bt128, ⟨by decide +kernel, by decide +kernel⟩, by decide +kernel, by decide⟩
theorem bt129 : Cond.methodLink RX2 57 yX2_extend ∈ BT := bt_of (in_t3 (List.mem_of_getElem? (i := 143) rfl)) rfl
theorem bt130 : Cond.instanceMethod yX2_extend ∈ BT := bt_of (in_t3 (List.mem_of_getElem? (i := 145) rfl)) rfl
theorem bt131 : Cond.selects RX2 yX2_extend yX2_extend ∈ BT := bt_of (in_s2 (n := 9) (List.mem_of_getElem? (i := 3) rfl)) rfl
theorem bt132 : Cond.code yX2_extend cX2_extend 4 none ∈ BT := bt_of (in_t3 (List.mem_of_getElem? (i := 146) rfl)) rfl
theorem vl_X2_57 (M : Mth) (h : mO M = RX2) : VLk M mX2_extend 57 2 2 := ⟨by rw [h]; exact bt129, bt130, bt131, bt114, bt132, ⟨by decide +kernel, by decide +kernel⟩, by decide +kernel, by decide, TX2, 9, rfl⟩
theorem bt133 : Cond.fieldLink RX2 25 "TurningVillage$Harvest" "crops" "[J" ∈ BT := bt_of (in_t1 (List.mem_of_getElem? (i := 189) rfl)) rfl
theorem fl_X2_25 : FLk RX2 25 2 4 := ⟨RX2, TX2, 9, rfl, by decide, bt133, iB_X2⟩
theorem bt134 : Cond.fieldLink RX2 19 "TurningVillage$Harvest" "bits" "[I" ∈ BT := bt_of (in_t1 (List.mem_of_getElem? (i := 187) rfl)) rfl
theorem fl_X2_19 : FLk RX2 19 2 2 := ⟨RX2, TX2, 9, rfl, by decide, bt134, iB_X2⟩
theorem bt135 : Cond.methodLink RX2 61 yX2_note ∈ BT := bt_of (in_t3 (List.mem_of_getElem? (i := 147) rfl)) rfl
theorem bt136 : Cond.instanceMethod yX2_note ∈ BT := bt_of (in_t3 (List.mem_of_getElem? (i := 149) rfl)) rfl
theorem bt137 : Cond.selects RX2 yX2_note yX2_note ∈ BT := bt_of (in_s2 (n := 9) (List.mem_of_getElem? (i := 4) rfl)) rfl
theorem bt138 : Cond.code yX2_note cX2_note 3 none ∈ BT := bt_of (in_t3 (List.mem_of_getElem? (i := 150) rfl)) rfl
theorem vl_X2_61 (M : Mth) (h : mO M = RX2) : VLk M mX2_note 61 2 2 := ⟨by rw [h]; exact bt135, bt136, bt137, bt114, bt138, ⟨by decide +kernel, by decide +kernel⟩, by decide +kernel, by decide, TX2, 9, rfl⟩
theorem bt139 : Cond.fieldLink RX2 15 "TurningVillage$Harvest" "cropOfTurn" "[J" ∈ BT := bt_of (in_t1 (List.mem_of_getElem? (i := 186) rfl)) rfl
theorem fl_X2_15 : FLk RX2 15 2 1 := ⟨RX2, TX2, 9, rfl, by decide, bt139, iB_X2⟩
theorem bt140 : Cond.methodLink RX2 64 yJ7_fill_d0a16 ∈ BT := bt_of (in_t3 (List.mem_of_getElem? (i := 140) rfl)) rfl
theorem sl_X2_64 (M : Mth) (h : mO M = RX2) : SLk M mJ7_fill_d0a16 64 2 := ⟨by rw [h]; exact bt140, bt86, bt87, bt88, ⟨by decide +kernel, by decide +kernel⟩, by decide +kernel, by decide⟩
theorem bt141 : Cond.fieldLink RX2 9 "TurningVillage$Harvest" "known" "[I" ∈ BT := bt_of (in_t1 (List.mem_of_getElem? (i := 184) rfl)) rfl
theorem fl_X2_9 : FLk RX2 9 2 0 := ⟨RX2, TX2, 9, rfl, by decide, bt141, iB_X2⟩
theorem bt142 : Cond.fieldLink RX2 70 "TurningVillage$Land" "things" "[I" ∈ BT := bt_of (in_t1 (List.mem_of_getElem? (i := 34) rfl)) rfl
theorem fl_X2_70 : FLk RX2 70 3 3 := ⟨RX3, TX3, 11, rfl, by decide, bt142, iB_X3⟩
theorem fl_X2_28 : FLk RX2 28 2 5 := ⟨RX2, TX2, 9, rfl, by decide, bt116, iB_X2⟩
theorem fl_X2_32 : FLk RX2 32 2 6 := ⟨RX2, TX2, 9, rfl, by decide, bt117, iB_X2⟩
theorem fl_X2_38 : FLk RX2 38 2 8 := ⟨RX2, TX2, 9, rfl, by decide, bt119, iB_X2⟩
theorem bt143 : Cond.fieldLink RX3 15 "TurningVillage$Land" "length" "I" ∈ BT := bt_of (in_t1 (List.mem_of_getElem? (i := 29) rfl)) rfl
theorem fl_X3_15 : FLk RX3 15 3 1 := ⟨RX3, TX3, 11, rfl, by decide, bt143, iB_X3⟩
theorem bt144 : Cond.fieldLink RX3 9 "TurningVillage$Land" "text" "[I" ∈ BT := bt_of (in_t1 (List.mem_of_getElem? (i := 28) rfl)) rfl
theorem fl_X3_9 : FLk RX3 9 3 0 := ⟨RX3, TX3, 11, rfl, by decide, bt144, iB_X3⟩
theorem fp_X3_15 : FPk RX3 15 3 1 .int := ⟨RX3, TX3, 11, tyX3, rfl, by decide, bt143, iB_X3, tyX3_ok, nmX3, rfl, by decide +kernel⟩
theorem bt145 : Cond.methodLink RX3 46 yX3_interpret ∈ BT := bt_of (in_t2 (List.mem_of_getElem? (i := 40) rfl)) rfl
theorem bt146 : Cond.instanceMethod yX3_interpret ∈ BT := bt_of (in_t2 (List.mem_of_getElem? (i := 42) rfl)) rfl
theorem bt147 : Cond.selects RX3 yX3_interpret yX3_interpret ∈ BT := bt_of (in_s1 (n := 11) (List.mem_of_getElem? (i := 0) rfl)) rfl
theorem bt148 : Cond.initialized RX3 ∈ BT := bt_of (in_t1 (List.mem_of_getElem? (i := 2) rfl)) rfl
theorem bt149 : Cond.code yX3_interpret cX3_interpret 1 none ∈ BT := bt_of (in_t2 (List.mem_of_getElem? (i := 43) rfl)) rfl
theorem vl_X3_46 (M : Mth) (h : mO M = RX3) : VLk M mX3_interpret 46 3 0 := ⟨by rw [h]; exact bt145, bt146, bt147, bt148, bt149, ⟨by decide +kernel, by decide +kernel⟩, by decide +kernel, by decide, TX3, 11, rfl⟩
theorem bt150 : Cond.methodLink RX3 49 yX3_forget ∈ BT := bt_of (in_t2 (List.mem_of_getElem? (i := 44) rfl)) rfl
theorem bt151 : Cond.instanceMethod yX3_forget ∈ BT := bt_of (in_t2 (List.mem_of_getElem? (i := 46) rfl)) rfl
theorem bt152 : Cond.selects RX3 yX3_forget yX3_forget ∈ BT := bt_of (in_s1 (n := 11) (List.mem_of_getElem? (i := 1) rfl)) rfl
theorem bt153 : Cond.code yX3_forget cX3_forget 1 none ∈ BT := bt_of (in_t2 (List.mem_of_getElem? (i := 47) rfl)) rfl
theorem vl_X3_49 (M : Mth) (h : mO M = RX3) : VLk M mX3_forget 49 3 0 := ⟨by rw [h]; exact bt150, bt151, bt152, bt148, bt153, ⟨by decide +kernel, by decide +kernel⟩, by decide +kernel, by decide, TX3, 11, rfl⟩
theorem bt154 : Cond.methodLink RX3 52 yX3_takeSigns ∈ BT := bt_of (in_t2 (List.mem_of_getElem? (i := 51) rfl)) rfl
theorem bt155 : Cond.instanceMethod yX3_takeSigns ∈ BT := bt_of (in_t2 (List.mem_of_getElem? (i := 53) rfl)) rfl
theorem bt156 : Cond.selects RX3 yX3_takeSigns yX3_takeSigns ∈ BT := bt_of (in_s1 (n := 11) (List.mem_of_getElem? (i := 2) rfl)) rfl
theorem bt157 : Cond.code yX3_takeSigns cX3_takeSigns 3 (some .int) ∈ BT := bt_of (in_t2 (List.mem_of_getElem? (i := 54) rfl)) rfl
theorem vl_X3_52 (M : Mth) (h : mO M = RX3) : VLk M mX3_takeSigns 52 3 0 := ⟨by rw [h]; exact bt154, bt155, bt156, bt148, bt157, ⟨by decide +kernel, by decide +kernel⟩, by decide +kernel, by decide, TX3, 11, rfl⟩
theorem bt158 : Cond.fieldLink RX3 19 "TurningVillage$Land" "fault" "I" ∈ BT := bt_of (in_t1 (List.mem_of_getElem? (i := 31) rfl)) rfl
theorem fp_X3_19 : FPk RX3 19 3 2 .int := ⟨RX3, TX3, 11, tyX3, rfl, by decide, bt158, iB_X3, tyX3_ok, nmX3, rfl, by decide +kernel⟩
theorem fl_X3_19 : FLk RX3 19 3 2 := ⟨RX3, TX3, 11, rfl, by decide, bt158, iB_X3⟩
theorem bt159 : Cond.methodLink RX3 56 yX3_takeParts ∈ BT := bt_of (in_t2 (List.mem_of_getElem? (i := 62) rfl)) rfl
theorem bt160 : Cond.instanceMethod yX3_takeParts ∈ BT := bt_of (in_t2 (List.mem_of_getElem? (i := 64) rfl)) rfl
theorem bt161 : Cond.selects RX3 yX3_takeParts yX3_takeParts ∈ BT := bt_of (in_s1 (n := 11) (List.mem_of_getElem? (i := 4) rfl)) rfl
theorem bt162 : Cond.code yX3_takeParts cX3_takeParts 5 (some .int) ∈ BT := bt_of (in_t2 (List.mem_of_getElem? (i := 65) rfl)) rfl
theorem vl_X3_56 (M : Mth) (h : mO M = RX3) : VLk M mX3_takeParts 56 3 0 := ⟨by rw [h]; exact bt159, bt160, bt161, bt148, bt162, ⟨by decide +kernel, by decide +kernel⟩, by decide +kernel, by decide, TX3, 11, rfl⟩
theorem bt163 : Cond.fieldLink RX3 22 "TurningVillage$Land" "things" "[I" ∈ BT := bt_of (in_t1 (List.mem_of_getElem? (i := 33) rfl)) rfl
theorem fl_X3_22 : FLk RX3 22 3 3 := ⟨RX3, TX3, 11, rfl, by decide, bt163, iB_X3⟩
theorem bt164 : Cond.methodLink RX3 59 yJ7_fill_53178 ∈ BT := bt_of (in_t2 (List.mem_of_getElem? (i := 48) rfl)) rfl
theorem sl_X3_59 (M : Mth) (h : mO M = RX3) : SLk M mJ7_fill_53178 59 2 := ⟨by rw [h]; exact bt164, bt107, bt87, bt108, ⟨by decide +kernel, by decide +kernel⟩, by decide +kernel, by decide⟩
theorem bt165 : Cond.fieldLink RX3 25 "TurningVillage$Land" "closed" "[I" ∈ BT := bt_of (in_t1 (List.mem_of_getElem? (i := 37) rfl)) rfl
theorem fl_X3_25 : FLk RX3 25 3 4 := ⟨RX3, TX3, 11, rfl, by decide, bt165, iB_X3⟩
theorem bt166 : Cond.fieldLink RX3 31 "TurningVillage$Land" "bridges" "I" ∈ BT := bt_of (in_t1 (List.mem_of_getElem? (i := 42) rfl)) rfl
theorem fp_X3_31 : FPk RX3 31 3 6 .int := ⟨RX3, TX3, 11, tyX3, rfl, by decide, bt166, iB_X3, tyX3_ok, nmX3, rfl, by decide +kernel⟩
theorem bt167 : Cond.methodLink RX3 65 yX3_signAt ∈ BT := bt_of (in_t2 (List.mem_of_getElem? (i := 55) rfl)) rfl
theorem bt168 : Cond.instanceMethod yX3_signAt ∈ BT := bt_of (in_t2 (List.mem_of_getElem? (i := 57) rfl)) rfl
theorem bt169 : Cond.selects RX3 yX3_signAt yX3_signAt ∈ BT := bt_of (in_s1 (n := 11) (List.mem_of_getElem? (i := 3) rfl)) rfl
theorem bt170 : Cond.code yX3_signAt cX3_signAt 2 (some .int) ∈ BT := bt_of (in_t2 (List.mem_of_getElem? (i := 58) rfl)) rfl
theorem vl_X3_65 (M : Mth) (h : mO M = RX3) : VLk M mX3_signAt 65 3 1 := ⟨by rw [h]; exact bt167, bt168, bt169, bt148, bt170, ⟨by decide +kernel, by decide +kernel⟩, by decide +kernel, by decide, TX3, 11, rfl⟩
theorem bt171 : Cond.methodLink RX3 69 yX3_thingOf ∈ BT := bt_of (in_t2 (List.mem_of_getElem? (i := 59) rfl)) rfl
theorem bt172 : Cond.static yX3_thingOf ∈ BT := bt_of (in_t2 (List.mem_of_getElem? (i := 60) rfl)) rfl
theorem bt173 : Cond.code yX3_thingOf cX3_thingOf 1 (some .int) ∈ BT := bt_of (in_t2 (List.mem_of_getElem? (i := 61) rfl)) rfl
theorem sl_X3_69 (M : Mth) (h : mO M = RX3) : SLk M mX3_thingOf 69 1 := ⟨by rw [h]; exact bt171, bt172, bt148, bt173, ⟨by decide +kernel, by decide +kernel⟩, by decide +kernel, by decide⟩
theorem bt174 : Cond.methodLink RX3 72 yX3_takePath ∈ BT := bt_of (in_t2 (List.mem_of_getElem? (i := 66) rfl)) rfl
theorem bt175 : Cond.instanceMethod yX3_takePath ∈ BT := bt_of (in_t2 (List.mem_of_getElem? (i := 68) rfl)) rfl
theorem bt176 : Cond.selects RX3 yX3_takePath yX3_takePath ∈ BT := bt_of (in_s1 (n := 11) (List.mem_of_getElem? (i := 5) rfl)) rfl
theorem bt177 : Cond.code yX3_takePath cX3_takePath 3 (some .int) ∈ BT := bt_of (in_t2 (List.mem_of_getElem? (i := 69) rfl)) rfl
theorem vl_X3_72 (M : Mth) (h : mO M = RX3) : VLk M mX3_takePath 72 3 1 := ⟨by rw [h]; exact bt174, bt175, bt176, bt148, bt177, ⟨by decide +kernel, by decide +kernel⟩, by decide +kernel, by decide, TX3, 11, rfl⟩
theorem bt178 : Cond.methodLink RX3 75 yX3_takeBridge ∈ BT := bt_of (in_t2 (List.mem_of_getElem? (i := 75) rfl)) rfl
theorem bt179 : Cond.instanceMethod yX3_takeBridge ∈ BT := bt_of (in_t2 (List.mem_of_getElem? (i := 77) rfl)) rfl
theorem bt180 : Cond.selects RX3 yX3_takeBridge yX3_takeBridge ∈ BT := bt_of (in_s1 (n := 11) (List.mem_of_getElem? (i := 7) rfl)) rfl
theorem bt181 : Cond.code yX3_takeBridge cX3_takeBridge 6 (some .int) ∈ BT := bt_of (in_t2 (List.mem_of_getElem? (i := 78) rfl)) rfl
theorem vl_X3_75 (M : Mth) (h : mO M = RX3) : VLk M mX3_takeBridge 75 3 1 := ⟨by rw [h]; exact bt178, bt179, bt180, bt148, bt181, ⟨by decide +kernel, by decide +kernel⟩, by decide +kernel, by decide, TX3, 11, rfl⟩
theorem bt182 : Cond.methodLink RX3 78 yX3_figureAt ∈ BT := bt_of (in_t2 (List.mem_of_getElem? (i := 70) rfl)) rfl
theorem bt183 : Cond.instanceMethod yX3_figureAt ∈ BT := bt_of (in_t2 (List.mem_of_getElem? (i := 72) rfl)) rfl
theorem bt184 : Cond.selects RX3 yX3_figureAt yX3_figureAt ∈ BT := bt_of (in_s1 (n := 11) (List.mem_of_getElem? (i := 6) rfl)) rfl
theorem bt185 : Cond.code yX3_figureAt cX3_figureAt 3 (some .int) ∈ BT := bt_of (in_t2 (List.mem_of_getElem? (i := 73) rfl)) rfl
theorem vl_X3_78 (M : Mth) (h : mO M = RX3) : VLk M mX3_figureAt 78 3 1 := ⟨by rw [h]; exact bt182, bt183, bt184, bt148, bt185, ⟨by decide +kernel, by decide +kernel⟩, by decide +kernel, by decide, TX3, 11, rfl⟩
theorem bt186 : Cond.static yX7_within ∈ BT := bt_of (in_t2 (List.mem_of_getElem? (i := 34) rfl)) rfl
theorem bt187 : Cond.initialized RX7 ∈ BT := bt_of (in_t1 (List.mem_of_getElem? (i := 1) rfl)) rfl
theorem bt188 : Cond.code yX7_within cX7_within 2 (some .boolean) ∈ BT := bt_of (in_t2 (List.mem_of_getElem? (i := 35) rfl)) rfl
theorem nl_within : Cond.static (mY mX7_within) ∈ BT ∧ Cond.initialized (mY mX7_within).cls ∈ BT ∧ Cond.code (mY mX7_within) (mC mX7_within) (mN mX7_within) (mR mX7_within) ∈ BT := ⟨bt186, bt187, bt188⟩
theorem fl_X3_31 : FLk RX3 31 3 6 := ⟨RX3, TX3, 11, rfl, by decide, bt166, iB_X3⟩
theorem bt189 : Cond.fieldLink RX3 34 "TurningVillage$Land" "oneEnd" "[I" ∈ BT := bt_of (in_t1 (List.mem_of_getElem? (i := 45) rfl)) rfl
theorem fl_X3_34 : FLk RX3 34 3 7 := ⟨RX3, TX3, 11, rfl, by decide, bt189, iB_X3⟩
theorem bt190 : Cond.fieldLink RX3 37 "TurningVillage$Land" "otherEnd" "[I" ∈ BT := bt_of (in_t1 (List.mem_of_getElem? (i := 47) rfl)) rfl
theorem fl_X3_37 : FLk RX3 37 3 8 := ⟨RX3, TX3, 11, rfl, by decide, bt190, iB_X3⟩
theorem bt191 : Cond.fieldLink RX3 40 "TurningVillage$Land" "modulus" "[I" ∈ BT := bt_of (in_t1 (List.mem_of_getElem? (i := 49) rfl)) rfl
theorem fl_X3_40 : FLk RX3 40 3 9 := ⟨RX3, TX3, 11, rfl, by decide, bt191, iB_X3⟩
theorem bt192 : Cond.fieldLink RX3 43 "TurningVillage$Land" "remainder" "[I" ∈ BT := bt_of (in_t1 (List.mem_of_getElem? (i := 50) rfl)) rfl
theorem fl_X3_43 : FLk RX3 43 3 10 := ⟨RX3, TX3, 11, rfl, by decide, bt192, iB_X3⟩
theorem bt193 : Cond.fieldLink RX4 9 "TurningVillage$Sheet" "lost" "Z" ∈ BT := bt_of (in_t1 (List.mem_of_getElem? (i := 224) rfl)) rfl
theorem fp_X4_9 : FPk RX4 9 4 0 .boolean := ⟨RX4, TX4, 4, tyX4, rfl, by decide, bt193, iB_X4, tyX4_ok, nmX4, rfl, by decide +kernel⟩
theorem bt194 : Cond.fieldLink RX4 15 "TurningVillage$Sheet" "form" "I" ∈ BT := bt_of (in_t1 (List.mem_of_getElem? (i := 226) rfl)) rfl
theorem fp_X4_15 : FPk RX4 15 4 1 .int := ⟨RX4, TX4, 4, tyX4, rfl, by decide, bt194, iB_X4, tyX4_ok, nmX4, rfl, by decide +kernel⟩
theorem bt195 : Cond.fieldLink RX4 19 "TurningVillage$Sheet" "size" "I" ∈ BT := bt_of (in_t1 (List.mem_of_getElem? (i := 228) rfl)) rfl
theorem fp_X4_19 : FPk RX4 19 4 2 .int := ⟨RX4, TX4, 4, tyX4, rfl, by decide, bt195, iB_X4, tyX4_ok, nmX4, rfl, by decide +kernel⟩
theorem bt196 : Cond.fieldLink RX4 22 "TurningVillage$Sheet" "items" "[I" ∈ BT := bt_of (in_t1 (List.mem_of_getElem? (i := 230) rfl)) rfl
theorem fl_X4_22 : FLk RX4 22 4 3 := ⟨RX4, TX4, 4, rfl, by decide, bt196, iB_X4⟩
theorem bt197 : Cond.methodLink RX4 26 yJ7_fill_53178 ∈ BT := bt_of (in_t3 (List.mem_of_getElem? (i := 175) rfl)) rfl
theorem sl_X4_26 (M : Mth) (h : mO M = RX4) : SLk M mJ7_fill_53178 26 2 := ⟨by rw [h]; exact bt197, bt107, bt87, bt108, ⟨by decide +kernel, by decide +kernel⟩, by decide +kernel, by decide⟩
theorem fl_X4_9 : FLk RX4 9 4 0 := ⟨RX4, TX4, 4, rfl, by decide, bt193, iB_X4⟩
theorem fl_X4_15 : FLk RX4 15 4 1 := ⟨RX4, TX4, 4, rfl, by decide, bt194, iB_X4⟩
theorem fl_X4_19 : FLk RX4 19 4 2 := ⟨RX4, TX4, 4, rfl, by decide, bt195, iB_X4⟩
theorem bt198 : Cond.fieldLink RX5 15 "TurningVillage$Tenants" "wishes" "[I" ∈ BT := bt_of (in_t1 (List.mem_of_getElem? (i := 162) rfl)) rfl
theorem fl_X5_15 : FLk RX5 15 5 1 := ⟨RX5, TX5, 5, rfl, by decide, bt198, iB_X5⟩
theorem bt199 : Cond.fieldLink RX5 9 "TurningVillage$Tenants" "rows" "[I" ∈ BT := bt_of (in_t1 (List.mem_of_getElem? (i := 160) rfl)) rfl
theorem fl_X5_9 : FLk RX5 9 5 0 := ⟨RX5, TX5, 5, rfl, by decide, bt199, iB_X5⟩
theorem bt200 : Cond.fieldLink RX5 27 "TurningVillage$Land" "things" "[I" ∈ BT := bt_of (in_t1 (List.mem_of_getElem? (i := 35) rfl)) rfl
theorem fl_X5_27 : FLk RX5 27 3 3 := ⟨RX3, TX3, 11, rfl, by decide, bt200, iB_X3⟩
theorem bt201 : Cond.fieldLink RX5 18 "TurningVillage$Tenants" "joys" "[I" ∈ BT := bt_of (in_t1 (List.mem_of_getElem? (i := 163) rfl)) rfl
theorem fl_X5_18 : FLk RX5 18 5 2 := ⟨RX5, TX5, 5, rfl, by decide, bt201, iB_X5⟩
theorem bt202 : Cond.methodLink RX5 32 yX5_joyIn ∈ BT := bt_of (in_t3 (List.mem_of_getElem? (i := 74) rfl)) rfl
theorem bt203 : Cond.instanceMethod yX5_joyIn ∈ BT := bt_of (in_t3 (List.mem_of_getElem? (i := 59) rfl)) rfl
theorem bt204 : Cond.selects RX5 yX5_joyIn yX5_joyIn ∈ BT := bt_of (in_t3 (List.mem_of_getElem? (i := 60) rfl)) rfl
theorem bt205 : Cond.initialized RX5 ∈ BT := bt_of (in_t1 (List.mem_of_getElem? (i := 6) rfl)) rfl
theorem bt206 : Cond.code yX5_joyIn cX5_joyIn 8 (some .int) ∈ BT := bt_of (in_t3 (List.mem_of_getElem? (i := 61) rfl)) rfl
theorem vl_X5_32 (M : Mth) (h : mO M = RX5) : VLk M mX5_joyIn 32 5 4 := ⟨by rw [h]; exact bt202, bt203, bt204, bt205, bt206, ⟨by decide +kernel, by decide +kernel⟩, by decide +kernel, by decide, TX5, 5, rfl⟩
theorem bt207 : Cond.methodLink RX5 36 yX5_changeFirstPair ∈ BT := bt_of (in_t3 (List.mem_of_getElem? (i := 79) rfl)) rfl
theorem bt208 : Cond.instanceMethod yX5_changeFirstPair ∈ BT := bt_of (in_t3 (List.mem_of_getElem? (i := 81) rfl)) rfl
theorem bt209 : Cond.selects RX5 yX5_changeFirstPair yX5_changeFirstPair ∈ BT := bt_of (in_s1 (n := 5) (List.mem_of_getElem? (i := 14) rfl)) rfl
theorem bt210 : Cond.code yX5_changeFirstPair cX5_changeFirstPair 4 (some .boolean) ∈ BT := bt_of (in_t3 (List.mem_of_getElem? (i := 82) rfl)) rfl
theorem vl_X5_36 (M : Mth) (h : mO M = RX5) : VLk M mX5_changeFirstPair 36 5 0 := ⟨by rw [h]; exact bt207, bt208, bt209, bt205, bt210, ⟨by decide +kernel, by decide +kernel⟩, by decide +kernel, by decide, TX5, 5, rfl⟩
theorem bt211 : Cond.methodLink RX5 40 yX5_wouldChange ∈ BT := bt_of (in_t3 (List.mem_of_getElem? (i := 83) rfl)) rfl
theorem bt212 : Cond.instanceMethod yX5_wouldChange ∈ BT := bt_of (in_t3 (List.mem_of_getElem? (i := 85) rfl)) rfl
theorem bt213 : Cond.selects RX5 yX5_wouldChange yX5_wouldChange ∈ BT := bt_of (in_s1 (n := 5) (List.mem_of_getElem? (i := 15) rfl)) rfl
theorem bt214 : Cond.code yX5_wouldChange cX5_wouldChange 5 (some .boolean) ∈ BT := bt_of (in_t3 (List.mem_of_getElem? (i := 86) rfl)) rfl
theorem vl_X5_40 (M : Mth) (h : mO M = RX5) : VLk M mX5_wouldChange 40 5 2 := ⟨by rw [h]; exact bt211, bt212, bt213, bt205, bt214, ⟨by decide +kernel, by decide +kernel⟩, by decide +kernel, by decide, TX5, 5, rfl⟩
theorem bt215 : Cond.fieldLink RX5 21 "TurningVillage$Tenants" "mostJoy" "[I" ∈ BT := bt_of (in_t1 (List.mem_of_getElem? (i := 164) rfl)) rfl
theorem fl_X5_21 : FLk RX5 21 5 3 := ⟨RX5, TX5, 5, rfl, by decide, bt215, iB_X5⟩
theorem bt216 : Cond.methodLink RX5 44 yJ6_bitCount_0f7a4 ∈ BT := bt_of (in_t3 (List.mem_of_getElem? (i := 95) rfl)) rfl
theorem sl_X5_44 (M : Mth) (h : mO M = RX5) : SLk M mJ6_bitCount_0f7a4 44 1 := ⟨by rw [h]; exact bt216, bt122, bt123, bt124, ⟨by decide +kernel, by decide +kernel⟩, by decide +kernel, by decide⟩
theorem bt217 : Cond.methodLink RX5 50 yX5_joyWith ∈ BT := bt_of (in_t3 (List.mem_of_getElem? (i := 101) rfl)) rfl
theorem bt218 : Cond.instanceMethod yX5_joyWith ∈ BT := bt_of (in_t3 (List.mem_of_getElem? (i := 103) rfl)) rfl
theorem bt219 : Cond.selects RX5 yX5_joyWith yX5_joyWith ∈ BT := bt_of (in_s2 (n := 5) (List.mem_of_getElem? (i := 0) rfl)) rfl
theorem bt220 : Cond.code yX5_joyWith cX5_joyWith 4 (some .int) ∈ BT := bt_of (in_t3 (List.mem_of_getElem? (i := 104) rfl)) rfl
theorem vl_X5_50 (M : Mth) (h : mO M = RX5) : VLk M mX5_joyWith 50 5 3 := ⟨by rw [h]; exact bt217, bt218, bt219, bt205, bt220, ⟨by decide +kernel, by decide +kernel⟩, by decide +kernel, by decide, TX5, 5, rfl⟩
theorem bt221 : Cond.methodLink RX5 54 yJ9_max_7cf53 ∈ BT := bt_of (in_t3 (List.mem_of_getElem? (i := 105) rfl)) rfl
theorem bt222 : Cond.static yJ9_max_7cf53 ∈ BT := bt_of (in_t3 (List.mem_of_getElem? (i := 106) rfl)) rfl
theorem bt223 : Cond.code yJ9_max_7cf53 cJ9_max_7cf53 2 (some .int) ∈ BT := bt_of (in_t3 (List.mem_of_getElem? (i := 107) rfl)) rfl
theorem sl_X5_54 (M : Mth) (h : mO M = RX5) : SLk M mJ9_max_7cf53 54 2 := ⟨by rw [h]; exact bt221, bt222, bt127, bt223, ⟨by decide +kernel, by decide +kernel⟩, by decide +kernel, by decide⟩
theorem bt224 : Cond.methodLink RX5 60 yX5_leastBestRow ∈ BT := bt_of (in_t3 (List.mem_of_getElem? (i := 108) rfl)) rfl
theorem bt225 : Cond.instanceMethod yX5_leastBestRow ∈ BT := bt_of (in_t3 (List.mem_of_getElem? (i := 110) rfl)) rfl
theorem bt226 : Cond.selects RX5 yX5_leastBestRow yX5_leastBestRow ∈ BT := bt_of (in_s2 (n := 5) (List.mem_of_getElem? (i := 1) rfl)) rfl
theorem bt227 : Cond.code yX5_leastBestRow cX5_leastBestRow 4 (some .int) ∈ BT := bt_of (in_t3 (List.mem_of_getElem? (i := 111) rfl)) rfl
theorem vl_X5_60 (M : Mth) (h : mO M = RX5) : VLk M mX5_leastBestRow 60 5 2 := ⟨by rw [h]; exact bt224, bt225, bt226, bt205, bt227, ⟨by decide +kernel, by decide +kernel⟩, by decide +kernel, by decide, TX5, 5, rfl⟩
theorem bt228 : Cond.fieldLink RX5 24 "TurningVillage$Tenants" "bestRows" "[I" ∈ BT := bt_of (in_t1 (List.mem_of_getElem? (i := 165) rfl)) rfl
theorem fl_X5_24 : FLk RX5 24 5 4 := ⟨RX5, TX5, 5, rfl, by decide, bt228, iB_X5⟩
theorem bt229 : Cond.fieldLink RX6 11 "TurningVillage$Walker" "steps" "[I" ∈ BT := bt_of (in_t1 (List.mem_of_getElem? (i := 147) rfl)) rfl
theorem fl_X6_11 : FLk RX6 11 6 0 := ⟨RX6, TX6, 2, rfl, by decide, bt229, iB_X6⟩
theorem bt230 : Cond.methodLink RX6 18 yJ7_fill_53178 ∈ BT := bt_of (in_t3 (List.mem_of_getElem? (i := 12) rfl)) rfl
theorem sl_X6_18 (M : Mth) (h : mO M = RX6) : SLk M mJ7_fill_53178 18 2 := ⟨by rw [h]; exact bt230, bt107, bt87, bt108, ⟨by decide +kernel, by decide +kernel⟩, by decide +kernel, by decide⟩
theorem bt231 : Cond.fieldLink RX6 15 "TurningVillage$Walker" "before" "[I" ∈ BT := bt_of (in_t1 (List.mem_of_getElem? (i := 148) rfl)) rfl
theorem fl_X6_15 : FLk RX6 15 6 1 := ⟨RX6, TX6, 2, rfl, by decide, bt231, iB_X6⟩
theorem bt232 : Cond.methodLink RX6 24 arraycopyName ∈ BT := bt_of (in_t3 (List.mem_of_getElem? (i := 17) rfl)) rfl
theorem bt233 : Cond.methodLink RX6 30 yX6_join ∈ BT := bt_of (in_t3 (List.mem_of_getElem? (i := 20) rfl)) rfl
theorem bt234 : Cond.instanceMethod yX6_join ∈ BT := bt_of (in_t3 (List.mem_of_getElem? (i := 22) rfl)) rfl
theorem bt235 : Cond.selects RX6 yX6_join yX6_join ∈ BT := bt_of (in_s1 (n := 2) (List.mem_of_getElem? (i := 12) rfl)) rfl
theorem bt236 : Cond.initialized RX6 ∈ BT := bt_of (in_t1 (List.mem_of_getElem? (i := 5) rfl)) rfl
theorem bt237 : Cond.code yX6_join cX6_join 3 none ∈ BT := bt_of (in_t3 (List.mem_of_getElem? (i := 23) rfl)) rfl
theorem vl_X6_30 (M : Mth) (h : mO M = RX6) : VLk M mX6_join 30 6 2 := ⟨by rw [h]; exact bt233, bt234, bt235, bt236, bt237, ⟨by decide +kernel, by decide +kernel⟩, by decide +kernel, by decide, TX6, 2, rfl⟩
theorem bt238 : Cond.fieldLink RX6 34 "TurningVillage$Land" "closed" "[I" ∈ BT := bt_of (in_t1 (List.mem_of_getElem? (i := 38) rfl)) rfl
theorem fl_X6_34 : FLk RX6 34 3 4 := ⟨RX3, TX3, 11, rfl, by decide, bt238, iB_X3⟩
theorem bt239 : Cond.fieldLink RX6 39 "TurningVillage$Land" "bridges" "I" ∈ BT := bt_of (in_t1 (List.mem_of_getElem? (i := 43) rfl)) rfl
theorem fl_X6_39 : FLk RX6 39 3 6 := ⟨RX3, TX3, 11, rfl, by decide, bt239, iB_X3⟩
theorem bt240 : Cond.methodLink RX6 43 yX3_meetsAt ∈ BT := bt_of (in_t3 (List.mem_of_getElem? (i := 25) rfl)) rfl
theorem bt241 : Cond.instanceMethod yX3_meetsAt ∈ BT := bt_of (in_t2 (List.mem_of_getElem? (i := 107) rfl)) rfl
theorem bt242 : Cond.selects RX3 yX3_meetsAt yX3_meetsAt ∈ BT := bt_of (in_t2 (List.mem_of_getElem? (i := 108) rfl)) rfl
theorem bt243 : Cond.code yX3_meetsAt cX3_meetsAt 4 (some .boolean) ∈ BT := bt_of (in_t2 (List.mem_of_getElem? (i := 109) rfl)) rfl
theorem vl_X6_43 (M : Mth) (h : mO M = RX6) : VLk M mX3_meetsAt 43 3 2 := ⟨by rw [h]; exact bt240, bt241, bt242, bt148, bt243, ⟨by decide +kernel, by decide +kernel⟩, by decide +kernel, by decide, TX3, 11, rfl⟩
theorem bt244 : Cond.fieldLink RX6 47 "TurningVillage$Land" "oneEnd" "[I" ∈ BT := bt_of (in_t1 (List.mem_of_getElem? (i := 46) rfl)) rfl
theorem fl_X6_47 : FLk RX6 47 3 7 := ⟨RX3, TX3, 11, rfl, by decide, bt244, iB_X3⟩
theorem bt245 : Cond.fieldLink RX6 50 "TurningVillage$Land" "otherEnd" "[I" ∈ BT := bt_of (in_t1 (List.mem_of_getElem? (i := 48) rfl)) rfl
theorem fl_X6_50 : FLk RX6 50 3 8 := ⟨RX3, TX3, 11, rfl, by decide, bt245, iB_X3⟩
theorem bt246 : Cond.methodLink RX6 53 yJ9_min_7cf53 ∈ BT := bt_of (in_t3 (List.mem_of_getElem? (i := 24) rfl)) rfl
theorem sl_X6_53 (M : Mth) (h : mO M = RX6) : SLk M mJ9_min_7cf53 53 2 := ⟨by rw [h]; exact bt246, bt126, bt127, bt128, ⟨by decide +kernel, by decide +kernel⟩, by decide +kernel, by decide⟩
theorem bt247 : Cond.methodLink RX7 61 yX7_within ∈ BT := bt_of (in_t2 (List.mem_of_getElem? (i := 33) rfl)) rfl
theorem sl_X7_61 (M : Mth) (h : mO M = RX7) : SLk M mX7_within 61 2 := ⟨by rw [h]; exact bt247, bt186, bt187, bt188, ⟨by decide +kernel, by decide +kernel⟩, by decide +kernel, by decide⟩
theorem bt248 : Cond.fieldLink RX7 10 "TurningVillage" "land" "LTurningVillage$Land;" ∈ BT := bt_of (in_t2 (List.mem_of_getElem? (i := 1) rfl)) rfl
theorem fl_X7_10 : FLk RX7 10 7 0 := ⟨RX7, TX7, 9, rfl, by decide, bt248, iB_X7⟩
theorem bt249 : Cond.methodLink RX7 65 yX3_append ∈ BT := bt_of (in_t2 (List.mem_of_getElem? (i := 36) rfl)) rfl
theorem bt250 : Cond.instanceMethod yX3_append ∈ BT := bt_of (in_t2 (List.mem_of_getElem? (i := 37) rfl)) rfl
theorem bt251 : Cond.selects RX3 yX3_append yX3_append ∈ BT := bt_of (in_t2 (List.mem_of_getElem? (i := 38) rfl)) rfl
theorem bt252 : Cond.code yX3_append cX3_append 2 (some .int) ∈ BT := bt_of (in_t2 (List.mem_of_getElem? (i := 39) rfl)) rfl
theorem vl_X7_65 (M : Mth) (h : mO M = RX7) : VLk M mX3_append 65 3 1 := ⟨by rw [h]; exact bt249, bt250, bt251, bt148, bt252, ⟨by decide +kernel, by decide +kernel⟩, by decide +kernel, by decide, TX3, 11, rfl⟩
theorem bt253 : Cond.methodLink RX7 69 yX3_empty ∈ BT := bt_of (in_t2 (List.mem_of_getElem? (i := 83) rfl)) rfl
theorem bt254 : Cond.instanceMethod yX3_empty ∈ BT := bt_of (in_t2 (List.mem_of_getElem? (i := 84) rfl)) rfl
theorem bt255 : Cond.selects RX3 yX3_empty yX3_empty ∈ BT := bt_of (in_t2 (List.mem_of_getElem? (i := 85) rfl)) rfl
theorem bt256 : Cond.code yX3_empty cX3_empty 2 (some .int) ∈ BT := bt_of (in_t2 (List.mem_of_getElem? (i := 86) rfl)) rfl
theorem vl_X7_69 (M : Mth) (h : mO M = RX7) : VLk M mX3_empty 69 3 0 := ⟨by rw [h]; exact bt253, bt254, bt255, bt148, bt256, ⟨by decide +kernel, by decide +kernel⟩, by decide +kernel, by decide, TX3, 11, rfl⟩
theorem bt257 : Cond.fieldLink RX7 73 "TurningVillage$Land" "fault" "I" ∈ BT := bt_of (in_t1 (List.mem_of_getElem? (i := 32) rfl)) rfl
theorem fl_X7_73 : FLk RX7 73 3 2 := ⟨RX3, TX3, 11, rfl, by decide, bt257, iB_X3⟩
theorem bt258 : Cond.fieldLink RX7 77 "TurningVillage$Land" "things" "[I" ∈ BT := bt_of (in_t1 (List.mem_of_getElem? (i := 36) rfl)) rfl
theorem fl_X7_77 : FLk RX7 77 3 3 := ⟨RX3, TX3, 11, rfl, by decide, bt258, iB_X3⟩
theorem bt259 : Cond.fieldLink RX7 81 "TurningVillage$Land" "closed" "[I" ∈ BT := bt_of (in_t1 (List.mem_of_getElem? (i := 39) rfl)) rfl
theorem fl_X7_81 : FLk RX7 81 3 4 := ⟨RX3, TX3, 11, rfl, by decide, bt259, iB_X3⟩
theorem bt260 : Cond.fieldLink RX7 84 "TurningVillage$Land" "suns" "[I" ∈ BT := bt_of (in_t1 (List.mem_of_getElem? (i := 41) rfl)) rfl
theorem fl_X7_84 : FLk RX7 84 3 5 := ⟨RX3, TX3, 11, rfl, by decide, bt260, iB_X3⟩
theorem bt261 : Cond.methodLink RX7 87 yX7_isDay ∈ BT := bt_of (in_t2 (List.mem_of_getElem? (i := 99) rfl)) rfl
theorem bt262 : Cond.static yX7_isDay ∈ BT := bt_of (in_t2 (List.mem_of_getElem? (i := 100) rfl)) rfl
theorem bt263 : Cond.code yX7_isDay cX7_isDay 1 (some .boolean) ∈ BT := bt_of (in_t2 (List.mem_of_getElem? (i := 101) rfl)) rfl
theorem sl_X7_87 (M : Mth) (h : mO M = RX7) : SLk M mX7_isDay 87 1 := ⟨by rw [h]; exact bt261, bt262, bt187, bt263, ⟨by decide +kernel, by decide +kernel⟩, by decide +kernel, by decide⟩
theorem bt264 : Cond.fieldLink RX7 91 "TurningVillage$Land" "bridges" "I" ∈ BT := bt_of (in_t1 (List.mem_of_getElem? (i := 44) rfl)) rfl
theorem fl_X7_91 : FLk RX7 91 3 6 := ⟨RX3, TX3, 11, rfl, by decide, bt264, iB_X3⟩
theorem bt265 : Cond.methodLink RX7 94 yX3_joins ∈ BT := bt_of (in_t2 (List.mem_of_getElem? (i := 102) rfl)) rfl
theorem bt266 : Cond.instanceMethod yX3_joins ∈ BT := bt_of (in_t2 (List.mem_of_getElem? (i := 103) rfl)) rfl
theorem bt267 : Cond.selects RX3 yX3_joins yX3_joins ∈ BT := bt_of (in_t2 (List.mem_of_getElem? (i := 104) rfl)) rfl
theorem bt268 : Cond.code yX3_joins cX3_joins 4 (some .boolean) ∈ BT := bt_of (in_t2 (List.mem_of_getElem? (i := 105) rfl)) rfl
theorem vl_X7_94 (M : Mth) (h : mO M = RX7) : VLk M mX3_joins 94 3 3 := ⟨by rw [h]; exact bt265, bt266, bt267, bt148, bt268, ⟨by decide +kernel, by decide +kernel⟩, by decide +kernel, by decide, TX3, 11, rfl⟩
theorem bt269 : Cond.fieldLink RX7 19 "TurningVillage" "gales" "LTurningVillage$Gales;" ∈ BT := bt_of (in_t2 (List.mem_of_getElem? (i := 2) rfl)) rfl
theorem fl_X7_19 : FLk RX7 19 7 1 := ⟨RX7, TX7, 9, rfl, by decide, bt269, iB_X7⟩
theorem bt270 : Cond.fieldLink RX7 98 "TurningVillage$Gales" "turns" "[I" ∈ BT := bt_of (in_t1 (List.mem_of_getElem? (i := 95) rfl)) rfl
theorem fl_X7_98 : FLk RX7 98 1 9 := ⟨RX1, TX1, 12, rfl, by decide, bt270, iB_X1⟩
theorem bt271 : Cond.methodLink RX7 101 yX3_meetsAt ∈ BT := bt_of (in_t2 (List.mem_of_getElem? (i := 106) rfl)) rfl
theorem vl_X7_101 (M : Mth) (h : mO M = RX7) : VLk M mX3_meetsAt 101 3 2 := ⟨by rw [h]; exact bt271, bt241, bt242, bt148, bt243, ⟨by decide +kernel, by decide +kernel⟩, by decide +kernel, by decide, TX3, 11, rfl⟩
theorem bt272 : Cond.methodLink RX7 104 yX1_mayBeTold ∈ BT := bt_of (in_t2 (List.mem_of_getElem? (i := 114) rfl)) rfl
theorem bt273 : Cond.instanceMethod yX1_mayBeTold ∈ BT := bt_of (in_t2 (List.mem_of_getElem? (i := 115) rfl)) rfl
theorem bt274 : Cond.selects RX1 yX1_mayBeTold yX1_mayBeTold ∈ BT := bt_of (in_t2 (List.mem_of_getElem? (i := 116) rfl)) rfl
theorem bt275 : Cond.code yX1_mayBeTold cX1_mayBeTold 2 (some .boolean) ∈ BT := bt_of (in_t2 (List.mem_of_getElem? (i := 117) rfl)) rfl
theorem vl_X7_104 (M : Mth) (h : mO M = RX7) : VLk M mX1_mayBeTold 104 1 1 := ⟨by rw [h]; exact bt272, bt273, bt274, bt103, bt275, ⟨by decide +kernel, by decide +kernel⟩, by decide +kernel, by decide, TX1, 12, rfl⟩
theorem bt276 : Cond.methodLink RX7 107 yX1_add ∈ BT := bt_of (in_t2 (List.mem_of_getElem? (i := 118) rfl)) rfl
theorem bt277 : Cond.instanceMethod yX1_add ∈ BT := bt_of (in_t2 (List.mem_of_getElem? (i := 119) rfl)) rfl
theorem bt278 : Cond.selects RX1 yX1_add yX1_add ∈ BT := bt_of (in_t2 (List.mem_of_getElem? (i := 120) rfl)) rfl
theorem bt279 : Cond.code yX1_add cX1_add 4 (some .boolean) ∈ BT := bt_of (in_t2 (List.mem_of_getElem? (i := 121) rfl)) rfl
theorem vl_X7_107 (M : Mth) (h : mO M = RX7) : VLk M mX1_add 107 1 3 := ⟨by rw [h]; exact bt276, bt277, bt278, bt103, bt279, ⟨by decide +kernel, by decide +kernel⟩, by decide +kernel, by decide, TX1, 12, rfl⟩
theorem bt280 : Cond.methodLink RX7 110 yX1_reckonTurns ∈ BT := bt_of (in_t2 (List.mem_of_getElem? (i := 122) rfl)) rfl
theorem bt281 : Cond.instanceMethod yX1_reckonTurns ∈ BT := bt_of (in_t2 (List.mem_of_getElem? (i := 123) rfl)) rfl
theorem bt282 : Cond.selects RX1 yX1_reckonTurns yX1_reckonTurns ∈ BT := bt_of (in_t2 (List.mem_of_getElem? (i := 124) rfl)) rfl
theorem bt283 : Cond.code yX1_reckonTurns cX1_reckonTurns 3 none ∈ BT := bt_of (in_t2 (List.mem_of_getElem? (i := 125) rfl)) rfl
theorem vl_X7_110 (M : Mth) (h : mO M = RX7) : VLk M mX1_reckonTurns 110 1 0 := ⟨by rw [h]; exact bt280, bt281, bt282, bt103, bt283, ⟨by decide +kernel, by decide +kernel⟩, by decide +kernel, by decide, TX1, 12, rfl⟩
theorem bt284 : Cond.fieldLink RX7 113 "TurningVillage$Gales" "number" "I" ∈ BT := bt_of (in_t1 (List.mem_of_getElem? (i := 82) rfl)) rfl
theorem fl_X7_113 : FLk RX7 113 1 0 := ⟨RX1, TX1, 12, rfl, by decide, bt284, iB_X1⟩
theorem bt285 : Cond.methodLink RX7 116 yX7_isSheet ∈ BT := bt_of (in_t2 (List.mem_of_getElem? (i := 135) rfl)) rfl
theorem bt286 : Cond.static yX7_isSheet ∈ BT := bt_of (in_t2 (List.mem_of_getElem? (i := 136) rfl)) rfl
theorem bt287 : Cond.code yX7_isSheet cX7_isSheet 1 (some .boolean) ∈ BT := bt_of (in_t2 (List.mem_of_getElem? (i := 137) rfl)) rfl
theorem sl_X7_116 (M : Mth) (h : mO M = RX7) : SLk M mX7_isSheet 116 1 := ⟨by rw [h]; exact bt285, bt286, bt187, bt287, ⟨by decide +kernel, by decide +kernel⟩, by decide +kernel, by decide⟩
theorem bt288 : Cond.fieldLink RX7 56 "TurningVillage" "sheets" "[LTurningVillage$Sheet;" ∈ BT := bt_of (in_t2 (List.mem_of_getElem? (i := 8) rfl)) rfl
theorem fl_X7_56 : FLk RX7 56 7 7 := ⟨RX7, TX7, 9, rfl, by decide, bt288, iB_X7⟩
theorem bt289 : Cond.fieldLink RX7 119 "TurningVillage$Sheet" "lost" "Z" ∈ BT := bt_of (in_t1 (List.mem_of_getElem? (i := 225) rfl)) rfl
theorem fl_X7_119 : FLk RX7 119 4 0 := ⟨RX4, TX4, 4, rfl, by decide, bt289, iB_X4⟩
theorem bt290 : Cond.methodLink RX7 123 yX7_found ∈ BT := bt_of (in_t2 (List.mem_of_getElem? (i := 138) rfl)) rfl
theorem bt291 : Cond.instanceMethod yX7_found ∈ BT := bt_of (in_t2 (List.mem_of_getElem? (i := 140) rfl)) rfl
theorem bt292 : Cond.selects RX7 yX7_found yX7_found ∈ BT := bt_of (in_s1 (n := 9) (List.mem_of_getElem? (i := 9) rfl)) rfl
theorem bt293 : Cond.code yX7_found cX7_found 2 (some .int) ∈ BT := bt_of (in_t2 (List.mem_of_getElem? (i := 141) rfl)) rfl
theorem vl_X7_123 (M : Mth) (h : mO M = RX7) : VLk M mX7_found 123 7 1 := ⟨by rw [h]; exact bt290, bt291, bt292, bt187, bt293, ⟨by decide +kernel, by decide +kernel⟩, by decide +kernel, by decide, TX7, 9, rfl⟩
theorem bt294 : Cond.fieldLink RX7 126 "TurningVillage$Sheet" "size" "I" ∈ BT := bt_of (in_t1 (List.mem_of_getElem? (i := 229) rfl)) rfl
theorem fl_X7_126 : FLk RX7 126 4 2 := ⟨RX4, TX4, 4, rfl, by decide, bt294, iB_X4⟩
theorem bt295 : Cond.fieldLink RX7 129 "TurningVillage$Sheet" "items" "[I" ∈ BT := bt_of (in_t1 (List.mem_of_getElem? (i := 231) rfl)) rfl
theorem fl_X7_129 : FLk RX7 129 4 3 := ⟨RX4, TX4, 4, rfl, by decide, bt295, iB_X4⟩
theorem bt296 : Cond.methodLink RX7 132 yX7_gale ∈ BT := bt_of (in_t2 (List.mem_of_getElem? (i := 142) rfl)) rfl
theorem bt297 : Cond.instanceMethod yX7_gale ∈ BT := bt_of (in_t2 (List.mem_of_getElem? (i := 111) rfl)) rfl
theorem bt298 : Cond.selects RX7 yX7_gale yX7_gale ∈ BT := bt_of (in_t2 (List.mem_of_getElem? (i := 112) rfl)) rfl
theorem bt299 : Cond.code yX7_gale cX7_gale 4 (some .int) ∈ BT := bt_of (in_t2 (List.mem_of_getElem? (i := 113) rfl)) rfl
theorem vl_X7_132 (M : Mth) (h : mO M = RX7) : VLk M mX7_gale 132 7 3 := ⟨by rw [h]; exact bt296, bt297, bt298, bt187, bt299, ⟨by decide +kernel, by decide +kernel⟩, by decide +kernel, by decide, TX7, 9, rfl⟩
theorem bt300 : Cond.methodLink RX7 136 yX1_isTaken ∈ BT := bt_of (in_t2 (List.mem_of_getElem? (i := 147) rfl)) rfl
theorem bt301 : Cond.instanceMethod yX1_isTaken ∈ BT := bt_of (in_t2 (List.mem_of_getElem? (i := 148) rfl)) rfl
theorem bt302 : Cond.selects RX1 yX1_isTaken yX1_isTaken ∈ BT := bt_of (in_t2 (List.mem_of_getElem? (i := 149) rfl)) rfl
theorem bt303 : Cond.code yX1_isTaken cX1_isTaken 2 (some .boolean) ∈ BT := bt_of (in_t2 (List.mem_of_getElem? (i := 150) rfl)) rfl
theorem vl_X7_136 (M : Mth) (h : mO M = RX7) : VLk M mX1_isTaken 136 1 1 := ⟨by rw [h]; exact bt300, bt301, bt302, bt103, bt303, ⟨by decide +kernel, by decide +kernel⟩, by decide +kernel, by decide, TX1, 12, rfl⟩
theorem bt304 : Cond.methodLink RX7 139 yX1_remove ∈ BT := bt_of (in_t2 (List.mem_of_getElem? (i := 151) rfl)) rfl
theorem bt305 : Cond.instanceMethod yX1_remove ∈ BT := bt_of (in_t2 (List.mem_of_getElem? (i := 152) rfl)) rfl
theorem bt306 : Cond.selects RX1 yX1_remove yX1_remove ∈ BT := bt_of (in_t2 (List.mem_of_getElem? (i := 153) rfl)) rfl
theorem bt307 : Cond.code yX1_remove cX1_remove 3 none ∈ BT := bt_of (in_t2 (List.mem_of_getElem? (i := 154) rfl)) rfl
theorem vl_X7_139 (M : Mth) (h : mO M = RX7) : VLk M mX1_remove 139 1 2 := ⟨by rw [h]; exact bt304, bt305, bt306, bt103, bt307, ⟨by decide +kernel, by decide +kernel⟩, by decide +kernel, by decide, TX1, 12, rfl⟩
theorem bt308 : Cond.methodLink RX7 143 yX1_change ∈ BT := bt_of (in_t2 (List.mem_of_getElem? (i := 159) rfl)) rfl
theorem bt309 : Cond.instanceMethod yX1_change ∈ BT := bt_of (in_t2 (List.mem_of_getElem? (i := 160) rfl)) rfl
theorem bt310 : Cond.selects RX1 yX1_change yX1_change ∈ BT := bt_of (in_t2 (List.mem_of_getElem? (i := 161) rfl)) rfl
theorem bt311 : Cond.code yX1_change cX1_change 4 (some .int) ∈ BT := bt_of (in_t2 (List.mem_of_getElem? (i := 162) rfl)) rfl
theorem vl_X7_143 (M : Mth) (h : mO M = RX7) : VLk M mX1_change 143 1 2 := ⟨by rw [h]; exact bt308, bt309, bt310, bt103, bt311, ⟨by decide +kernel, by decide +kernel⟩, by decide +kernel, by decide, TX1, 12, rfl⟩
theorem bt312 : Cond.methodLink RX7 147 yX7_isThing ∈ BT := bt_of (in_t2 (List.mem_of_getElem? (i := 179) rfl)) rfl
theorem bt313 : Cond.static yX7_isThing ∈ BT := bt_of (in_t2 (List.mem_of_getElem? (i := 180) rfl)) rfl
theorem bt314 : Cond.code yX7_isThing cX7_isThing 1 (some .boolean) ∈ BT := bt_of (in_t2 (List.mem_of_getElem? (i := 181) rfl)) rfl
theorem sl_X7_147 (M : Mth) (h : mO M = RX7) : SLk M mX7_isThing 147 1 := ⟨by rw [h]; exact bt312, bt313, bt187, bt314, ⟨by decide +kernel, by decide +kernel⟩, by decide +kernel, by decide⟩
theorem bt315 : Cond.methodLink RX7 150 yX7_isSpan ∈ BT := bt_of (in_t2 (List.mem_of_getElem? (i := 182) rfl)) rfl
theorem bt316 : Cond.static yX7_isSpan ∈ BT := bt_of (in_t2 (List.mem_of_getElem? (i := 183) rfl)) rfl
theorem bt317 : Cond.code yX7_isSpan cX7_isSpan 2 (some .boolean) ∈ BT := bt_of (in_t2 (List.mem_of_getElem? (i := 184) rfl)) rfl
theorem sl_X7_150 (M : Mth) (h : mO M = RX7) : SLk M mX7_isSpan 150 2 := ⟨by rw [h]; exact bt315, bt316, bt187, bt317, ⟨by decide +kernel, by decide +kernel⟩, by decide +kernel, by decide⟩
theorem bt318 : Cond.constantLong RX7 153 (-9223372036854775806) ∈ BT := bt_of (in_t2 (List.mem_of_getElem? (i := 185) rfl)) rfl
theorem bt319 : Cond.methodLink RX7 155 yX1_tally ∈ BT := bt_of (in_t2 (List.mem_of_getElem? (i := 186) rfl)) rfl
theorem bt320 : Cond.instanceMethod yX1_tally ∈ BT := bt_of (in_t2 (List.mem_of_getElem? (i := 187) rfl)) rfl
theorem bt321 : Cond.selects RX1 yX1_tally yX1_tally ∈ BT := bt_of (in_t2 (List.mem_of_getElem? (i := 188) rfl)) rfl
theorem bt322 : Cond.code yX1_tally cX1_tally 4 none ∈ BT := bt_of (in_t2 (List.mem_of_getElem? (i := 189) rfl)) rfl
theorem vl_X7_155 (M : Mth) (h : mO M = RX7) : VLk M mX1_tally 155 1 2 := ⟨by rw [h]; exact bt319, bt320, bt321, bt103, bt322, ⟨by decide +kernel, by decide +kernel⟩, by decide +kernel, by decide, TX1, 12, rfl⟩
theorem bt323 : Cond.methodLink RX7 158 yX7_daysWith ∈ BT := bt_of (in_t2 (List.mem_of_getElem? (i := 190) rfl)) rfl
theorem bt324 : Cond.instanceMethod yX7_daysWith ∈ BT := bt_of (in_t2 (List.mem_of_getElem? (i := 192) rfl)) rfl
theorem bt325 : Cond.selects RX7 yX7_daysWith yX7_daysWith ∈ BT := bt_of (in_s1 (n := 9) (List.mem_of_getElem? (i := 10) rfl)) rfl
theorem bt326 : Cond.code yX7_daysWith cX7_daysWith 5 (some .int) ∈ BT := bt_of (in_t2 (List.mem_of_getElem? (i := 193) rfl)) rfl
theorem vl_X7_158 (M : Mth) (h : mO M = RX7) : VLk M mX7_daysWith 158 7 2 := ⟨by rw [h]; exact bt323, bt324, bt325, bt187, bt326, ⟨by decide +kernel, by decide +kernel⟩, by decide +kernel, by decide, TX7, 9, rfl⟩
theorem bt327 : Cond.methodLink RX7 161 yX7_lowestTerms ∈ BT := bt_of (in_t2 (List.mem_of_getElem? (i := 194) rfl)) rfl
theorem bt328 : Cond.static yX7_lowestTerms ∈ BT := bt_of (in_t2 (List.mem_of_getElem? (i := 195) rfl)) rfl
theorem bt329 : Cond.code yX7_lowestTerms cX7_lowestTerms 12 (some .long) ∈ BT := bt_of (in_t2 (List.mem_of_getElem? (i := 196) rfl)) rfl
theorem sl_X7_161 (M : Mth) (h : mO M = RX7) : SLk M mX7_lowestTerms 161 3 := ⟨by rw [h]; exact bt327, bt328, bt187, bt329, ⟨by decide +kernel, by decide +kernel⟩, by decide +kernel, by decide⟩
theorem bt330 : Cond.fieldLink RX7 165 "TurningVillage$Gales" "daysOfTurn" "[I" ∈ BT := bt_of (in_t1 (List.mem_of_getElem? (i := 97) rfl)) rfl
theorem fl_X7_165 : FLk RX7 165 1 10 := ⟨RX1, TX1, 12, rfl, by decide, bt330, iB_X1⟩
theorem bt331 : Cond.methodLink RX7 168 yJ9_min_7cf53 ∈ BT := bt_of (in_t2 (List.mem_of_getElem? (i := 205) rfl)) rfl
theorem sl_X7_168 (M : Mth) (h : mO M = RX7) : SLk M mJ9_min_7cf53 168 2 := ⟨by rw [h]; exact bt331, bt126, bt127, bt128, ⟨by decide +kernel, by decide +kernel⟩, by decide +kernel, by decide⟩
theorem bt332 : Cond.methodLink RX7 173 yX1_findFirstDays ∈ BT := bt_of (in_t2 (List.mem_of_getElem? (i := 212) rfl)) rfl
theorem bt333 : Cond.instanceMethod yX1_findFirstDays ∈ BT := bt_of (in_t2 (List.mem_of_getElem? (i := 213) rfl)) rfl
theorem bt334 : Cond.selects RX1 yX1_findFirstDays yX1_findFirstDays ∈ BT := bt_of (in_t2 (List.mem_of_getElem? (i := 214) rfl)) rfl
theorem bt335 : Cond.code yX1_findFirstDays cX1_findFirstDays 3 none ∈ BT := bt_of (in_t2 (List.mem_of_getElem? (i := 215) rfl)) rfl
theorem vl_X7_173 (M : Mth) (h : mO M = RX7) : VLk M mX1_findFirstDays 173 1 1 := ⟨by rw [h]; exact bt332, bt333, bt334, bt103, bt335, ⟨by decide +kernel, by decide +kernel⟩, by decide +kernel, by decide, TX1, 12, rfl⟩
theorem bt336 : Cond.methodLink RX7 177 yX3_canWork ∈ BT := bt_of (in_t2 (List.mem_of_getElem? (i := 216) rfl)) rfl
theorem bt337 : Cond.instanceMethod yX3_canWork ∈ BT := bt_of (in_t2 (List.mem_of_getElem? (i := 217) rfl)) rfl
theorem bt338 : Cond.selects RX3 yX3_canWork yX3_canWork ∈ BT := bt_of (in_t2 (List.mem_of_getElem? (i := 218) rfl)) rfl
theorem bt339 : Cond.code yX3_canWork cX3_canWork 5 (some .boolean) ∈ BT := bt_of (in_t2 (List.mem_of_getElem? (i := 219) rfl)) rfl
theorem vl_X7_177 (M : Mth) (h : mO M = RX7) : VLk M mX3_canWork 177 3 4 := ⟨by rw [h]; exact bt336, bt337, bt338, bt148, bt339, ⟨by decide +kernel, by decide +kernel⟩, by decide +kernel, by decide, TX3, 11, rfl⟩
theorem bt340 : Cond.fieldLink RX7 181 "TurningVillage$Gales" "firstDays" "[I" ∈ BT := bt_of (in_t1 (List.mem_of_getElem? (i := 99) rfl)) rfl
theorem fl_X7_181 : FLk RX7 181 1 11 := ⟨RX1, TX1, 12, rfl, by decide, bt340, iB_X1⟩
theorem bt341 : Cond.fieldLink RX7 26 "TurningVillage" "chance" "LTurningVillage$Chance;" ∈ BT := bt_of (in_t2 (List.mem_of_getElem? (i := 3) rfl)) rfl
theorem fl_X7_26 : FLk RX7 26 7 2 := ⟨RX7, TX7, 9, rfl, by decide, bt341, iB_X7⟩
theorem bt342 : Cond.methodLink RX7 184 yX0_begin ∈ BT := bt_of (in_t2 (List.mem_of_getElem? (i := 224) rfl)) rfl
theorem bt343 : Cond.instanceMethod yX0_begin ∈ BT := bt_of (in_t2 (List.mem_of_getElem? (i := 225) rfl)) rfl
theorem bt344 : Cond.selects RX0 yX0_begin yX0_begin ∈ BT := bt_of (in_t2 (List.mem_of_getElem? (i := 226) rfl)) rfl
theorem bt345 : Cond.initialized RX0 ∈ BT := bt_of (in_t1 (List.mem_of_getElem? (i := 4) rfl)) rfl
theorem bt346 : Cond.code yX0_begin cX0_begin 2 none ∈ BT := bt_of (in_t2 (List.mem_of_getElem? (i := 227) rfl)) rfl
theorem vl_X7_184 (M : Mth) (h : mO M = RX7) : VLk M mX0_begin 184 0 1 := ⟨by rw [h]; exact bt342, bt343, bt344, bt345, bt346, ⟨by decide +kernel, by decide +kernel⟩, by decide +kernel, by decide, TX0, 2, rfl⟩
theorem bt347 : Cond.methodLink RX7 187 yX0_oneDay ∈ BT := bt_of (in_t2 (List.mem_of_getElem? (i := 231) rfl)) rfl
theorem bt348 : Cond.instanceMethod yX0_oneDay ∈ BT := bt_of (in_t2 (List.mem_of_getElem? (i := 232) rfl)) rfl
theorem bt349 : Cond.selects RX0 yX0_oneDay yX0_oneDay ∈ BT := bt_of (in_t2 (List.mem_of_getElem? (i := 233) rfl)) rfl
theorem bt350 : Cond.code yX0_oneDay cX0_oneDay 7 none ∈ BT := bt_of (in_t2 (List.mem_of_getElem? (i := 234) rfl)) rfl
theorem vl_X7_187 (M : Mth) (h : mO M = RX7) : VLk M mX0_oneDay 187 0 1 := ⟨by rw [h]; exact bt347, bt348, bt349, bt345, bt350, ⟨by decide +kernel, by decide +kernel⟩, by decide +kernel, by decide, TX0, 2, rfl⟩
theorem bt351 : Cond.fieldLink RX7 190 "TurningVillage$Chance" "weights" "[J" ∈ BT := bt_of (in_t1 (List.mem_of_getElem? (i := 132) rfl)) rfl
theorem fl_X7_190 : FLk RX7 190 0 0 := ⟨RX0, TX0, 2, rfl, by decide, bt351, iB_X0⟩
theorem bt352 : Cond.fieldLink RX7 194 "TurningVillage$Chance" "all" "J" ∈ BT := bt_of (in_t1 (List.mem_of_getElem? (i := 134) rfl)) rfl
theorem fl_X7_194 : FLk RX7 194 0 1 := ⟨RX0, TX0, 2, rfl, by decide, bt352, iB_X0⟩
theorem bt353 : Cond.methodLink RX7 198 yX0_left ∈ BT := bt_of (in_t2 (List.mem_of_getElem? (i := 236) rfl)) rfl
theorem bt354 : Cond.instanceMethod yX0_left ∈ BT := bt_of (in_t2 (List.mem_of_getElem? (i := 237) rfl)) rfl
theorem bt355 : Cond.selects RX0 yX0_left yX0_left ∈ BT := bt_of (in_t2 (List.mem_of_getElem? (i := 238) rfl)) rfl
theorem bt356 : Cond.code yX0_left cX0_left 4 (some .long) ∈ BT := bt_of (in_t2 (List.mem_of_getElem? (i := 239) rfl)) rfl
theorem vl_X7_198 (M : Mth) (h : mO M = RX7) : VLk M mX0_left 198 0 0 := ⟨by rw [h]; exact bt353, bt354, bt355, bt345, bt356, ⟨by decide +kernel, by decide +kernel⟩, by decide +kernel, by decide, TX0, 2, rfl⟩
theorem bt357 : Cond.methodLink RX7 202 yX7_walkTo ∈ BT := bt_of (in_t3 (List.mem_of_getElem? (i := 4) rfl)) rfl
theorem bt358 : Cond.instanceMethod yX7_walkTo ∈ BT := bt_of (in_t3 (List.mem_of_getElem? (i := 6) rfl)) rfl
theorem bt359 : Cond.selects RX7 yX7_walkTo yX7_walkTo ∈ BT := bt_of (in_s1 (n := 9) (List.mem_of_getElem? (i := 11) rfl)) rfl
theorem bt360 : Cond.code yX7_walkTo cX7_walkTo 5 (some .int) ∈ BT := bt_of (in_t3 (List.mem_of_getElem? (i := 7) rfl)) rfl
theorem vl_X7_202 (M : Mth) (h : mO M = RX7) : VLk M mX7_walkTo 202 7 3 := ⟨by rw [h]; exact bt357, bt358, bt359, bt187, bt360, ⟨by decide +kernel, by decide +kernel⟩, by decide +kernel, by decide, TX7, 9, rfl⟩
theorem bt361 : Cond.fieldLink RX7 33 "TurningVillage" "walker" "LTurningVillage$Walker;" ∈ BT := bt_of (in_t2 (List.mem_of_getElem? (i := 4) rfl)) rfl
theorem fl_X7_33 : FLk RX7 33 7 3 := ⟨RX7, TX7, 9, rfl, by decide, bt361, iB_X7⟩
theorem bt362 : Cond.methodLink RX7 205 yX6_stepsTo ∈ BT := bt_of (in_t3 (List.mem_of_getElem? (i := 34) rfl)) rfl
theorem bt363 : Cond.instanceMethod yX6_stepsTo ∈ BT := bt_of (in_t3 (List.mem_of_getElem? (i := 35) rfl)) rfl
theorem bt364 : Cond.selects RX6 yX6_stepsTo yX6_stepsTo ∈ BT := bt_of (in_t3 (List.mem_of_getElem? (i := 36) rfl)) rfl
theorem bt365 : Cond.code yX6_stepsTo cX6_stepsTo 2 (some .int) ∈ BT := bt_of (in_t3 (List.mem_of_getElem? (i := 37) rfl)) rfl
theorem vl_X7_205 (M : Mth) (h : mO M = RX7) : VLk M mX6_stepsTo 205 6 1 := ⟨by rw [h]; exact bt362, bt363, bt364, bt236, bt365, ⟨by decide +kernel, by decide +kernel⟩, by decide +kernel, by decide, TX6, 2, rfl⟩
theorem bt366 : Cond.methodLink RX7 208 yX6_begin ∈ BT := bt_of (in_t3 (List.mem_of_getElem? (i := 8) rfl)) rfl
theorem bt367 : Cond.instanceMethod yX6_begin ∈ BT := bt_of (in_t3 (List.mem_of_getElem? (i := 9) rfl)) rfl
theorem bt368 : Cond.selects RX6 yX6_begin yX6_begin ∈ BT := bt_of (in_t3 (List.mem_of_getElem? (i := 10) rfl)) rfl
theorem bt369 : Cond.code yX6_begin cX6_begin 2 none ∈ BT := bt_of (in_t3 (List.mem_of_getElem? (i := 11) rfl)) rfl
theorem vl_X7_208 (M : Mth) (h : mO M = RX7) : VLk M mX6_begin 208 6 1 := ⟨by rw [h]; exact bt366, bt367, bt368, bt236, bt369, ⟨by decide +kernel, by decide +kernel⟩, by decide +kernel, by decide, TX6, 2, rfl⟩
theorem bt370 : Cond.fieldLink RX7 37 "TurningVillage" "companion" "LTurningVillage$Walker;" ∈ BT := bt_of (in_t2 (List.mem_of_getElem? (i := 5) rfl)) rfl
theorem fl_X7_37 : FLk RX7 37 7 4 := ⟨RX7, TX7, 9, rfl, by decide, bt370, iB_X7⟩
theorem bt371 : Cond.methodLink RX7 209 yX6_oneDay ∈ BT := bt_of (in_t3 (List.mem_of_getElem? (i := 13) rfl)) rfl
theorem bt372 : Cond.instanceMethod yX6_oneDay ∈ BT := bt_of (in_t3 (List.mem_of_getElem? (i := 14) rfl)) rfl
theorem bt373 : Cond.selects RX6 yX6_oneDay yX6_oneDay ∈ BT := bt_of (in_t3 (List.mem_of_getElem? (i := 15) rfl)) rfl
theorem bt374 : Cond.code yX6_oneDay cX6_oneDay 5 none ∈ BT := bt_of (in_t3 (List.mem_of_getElem? (i := 16) rfl)) rfl
theorem vl_X7_209 (M : Mth) (h : mO M = RX7) : VLk M mX6_oneDay 209 6 2 := ⟨by rw [h]; exact bt371, bt372, bt373, bt236, bt374, ⟨by decide +kernel, by decide +kernel⟩, by decide +kernel, by decide, TX6, 2, rfl⟩
theorem bt375 : Cond.methodLink RX7 212 yX6_isOn ∈ BT := bt_of (in_t3 (List.mem_of_getElem? (i := 26) rfl)) rfl
theorem bt376 : Cond.instanceMethod yX6_isOn ∈ BT := bt_of (in_t3 (List.mem_of_getElem? (i := 27) rfl)) rfl
theorem bt377 : Cond.selects RX6 yX6_isOn yX6_isOn ∈ BT := bt_of (in_t3 (List.mem_of_getElem? (i := 28) rfl)) rfl
theorem bt378 : Cond.code yX6_isOn cX6_isOn 2 (some .boolean) ∈ BT := bt_of (in_t3 (List.mem_of_getElem? (i := 29) rfl)) rfl
theorem vl_X7_212 (M : Mth) (h : mO M = RX7) : VLk M mX6_isOn 212 6 1 := ⟨by rw [h]; exact bt375, bt376, bt377, bt236, bt378, ⟨by decide +kernel, by decide +kernel⟩, by decide +kernel, by decide, TX6, 2, rfl⟩
theorem bt379 : Cond.fieldLink RX7 43 "TurningVillage" "tenants" "LTurningVillage$Tenants;" ∈ BT := bt_of (in_t2 (List.mem_of_getElem? (i := 6) rfl)) rfl
theorem fl_X7_43 : FLk RX7 43 7 5 := ⟨RX7, TX7, 9, rfl, by decide, bt379, iB_X7⟩
theorem bt380 : Cond.methodLink RX7 215 yX5_changeWish ∈ BT := bt_of (in_t3 (List.mem_of_getElem? (i := 46) rfl)) rfl
theorem bt381 : Cond.instanceMethod yX5_changeWish ∈ BT := bt_of (in_t3 (List.mem_of_getElem? (i := 47) rfl)) rfl
theorem bt382 : Cond.selects RX5 yX5_changeWish yX5_changeWish ∈ BT := bt_of (in_t3 (List.mem_of_getElem? (i := 48) rfl)) rfl
theorem bt383 : Cond.code yX5_changeWish cX5_changeWish 6 (some .int) ∈ BT := bt_of (in_t3 (List.mem_of_getElem? (i := 49) rfl)) rfl
theorem vl_X7_215 (M : Mth) (h : mO M = RX7) : VLk M mX5_changeWish 215 5 3 := ⟨by rw [h]; exact bt380, bt381, bt382, bt205, bt383, ⟨by decide +kernel, by decide +kernel⟩, by decide +kernel, by decide, TX5, 5, rfl⟩
theorem bt384 : Cond.fieldLink RX7 218 "TurningVillage$Tenants" "rows" "[I" ∈ BT := bt_of (in_t1 (List.mem_of_getElem? (i := 161) rfl)) rfl
theorem fl_X7_218 : FLk RX7 218 5 0 := ⟨RX5, TX5, 5, rfl, by decide, bt384, iB_X5⟩
theorem bt385 : Cond.methodLink RX7 221 yX5_joyIn ∈ BT := bt_of (in_t3 (List.mem_of_getElem? (i := 58) rfl)) rfl
theorem vl_X7_221 (M : Mth) (h : mO M = RX7) : VLk M mX5_joyIn 221 5 4 := ⟨by rw [h]; exact bt385, bt203, bt204, bt205, bt206, ⟨by decide +kernel, by decide +kernel⟩, by decide +kernel, by decide, TX5, 5, rfl⟩
theorem bt386 : Cond.methodLink RX7 225 yX7_reckonJoys ∈ BT := bt_of (in_t3 (List.mem_of_getElem? (i := 66) rfl)) rfl
theorem bt387 : Cond.instanceMethod yX7_reckonJoys ∈ BT := bt_of (in_t3 (List.mem_of_getElem? (i := 68) rfl)) rfl
theorem bt388 : Cond.selects RX7 yX7_reckonJoys yX7_reckonJoys ∈ BT := bt_of (in_s1 (n := 9) (List.mem_of_getElem? (i := 13) rfl)) rfl
theorem bt389 : Cond.code yX7_reckonJoys cX7_reckonJoys 3 none ∈ BT := bt_of (in_t3 (List.mem_of_getElem? (i := 69) rfl)) rfl
theorem vl_X7_225 (M : Mth) (h : mO M = RX7) : VLk M mX7_reckonJoys 225 7 2 := ⟨by rw [h]; exact bt386, bt387, bt388, bt187, bt389, ⟨by decide +kernel, by decide +kernel⟩, by decide +kernel, by decide, TX7, 9, rfl⟩
theorem bt390 : Cond.methodLink RX7 228 yX5_changeUntilNobodyWould ∈ BT := bt_of (in_t3 (List.mem_of_getElem? (i := 75) rfl)) rfl
theorem bt391 : Cond.instanceMethod yX5_changeUntilNobodyWould ∈ BT := bt_of (in_t3 (List.mem_of_getElem? (i := 76) rfl)) rfl
theorem bt392 : Cond.selects RX5 yX5_changeUntilNobodyWould yX5_changeUntilNobodyWould ∈ BT := bt_of (in_t3 (List.mem_of_getElem? (i := 77) rfl)) rfl
theorem bt393 : Cond.code yX5_changeUntilNobodyWould cX5_changeUntilNobodyWould 2 (some .int) ∈ BT := bt_of (in_t3 (List.mem_of_getElem? (i := 78) rfl)) rfl
theorem vl_X7_228 (M : Mth) (h : mO M = RX7) : VLk M mX5_changeUntilNobodyWould 228 5 0 := ⟨by rw [h]; exact bt390, bt391, bt392, bt205, bt393, ⟨by decide +kernel, by decide +kernel⟩, by decide +kernel, by decide, TX5, 5, rfl⟩
theorem bt394 : Cond.methodLink RX7 231 yX5_findBest ∈ BT := bt_of (in_t3 (List.mem_of_getElem? (i := 91) rfl)) rfl
theorem bt395 : Cond.instanceMethod yX5_findBest ∈ BT := bt_of (in_t3 (List.mem_of_getElem? (i := 92) rfl)) rfl
theorem bt396 : Cond.selects RX5 yX5_findBest yX5_findBest ∈ BT := bt_of (in_t3 (List.mem_of_getElem? (i := 93) rfl)) rfl
theorem bt397 : Cond.code yX5_findBest cX5_findBest 5 none ∈ BT := bt_of (in_t3 (List.mem_of_getElem? (i := 94) rfl)) rfl
theorem vl_X7_231 (M : Mth) (h : mO M = RX7) : VLk M mX5_findBest 231 5 0 := ⟨by rw [h]; exact bt394, bt395, bt396, bt205, bt397, ⟨by decide +kernel, by decide +kernel⟩, by decide +kernel, by decide, TX5, 5, rfl⟩
theorem bt398 : Cond.methodLink RX7 234 yX5_bestJoy ∈ BT := bt_of (in_t3 (List.mem_of_getElem? (i := 112) rfl)) rfl
theorem bt399 : Cond.instanceMethod yX5_bestJoy ∈ BT := bt_of (in_t3 (List.mem_of_getElem? (i := 113) rfl)) rfl
theorem bt400 : Cond.selects RX5 yX5_bestJoy yX5_bestJoy ∈ BT := bt_of (in_t3 (List.mem_of_getElem? (i := 114) rfl)) rfl
theorem bt401 : Cond.code yX5_bestJoy cX5_bestJoy 1 (some .int) ∈ BT := bt_of (in_t3 (List.mem_of_getElem? (i := 115) rfl)) rfl
theorem vl_X7_234 (M : Mth) (h : mO M = RX7) : VLk M mX5_bestJoy 234 5 0 := ⟨by rw [h]; exact bt398, bt399, bt400, bt205, bt401, ⟨by decide +kernel, by decide +kernel⟩, by decide +kernel, by decide, TX5, 5, rfl⟩
theorem bt402 : Cond.fieldLink RX7 237 "TurningVillage$Tenants" "bestRows" "[I" ∈ BT := bt_of (in_t1 (List.mem_of_getElem? (i := 166) rfl)) rfl
theorem fl_X7_237 : FLk RX7 237 5 4 := ⟨RX5, TX5, 5, rfl, by decide, bt402, iB_X5⟩
theorem bt403 : Cond.methodLink RX7 240 yX5_envious ∈ BT := bt_of (in_t3 (List.mem_of_getElem? (i := 120) rfl)) rfl
theorem bt404 : Cond.instanceMethod yX5_envious ∈ BT := bt_of (in_t3 (List.mem_of_getElem? (i := 121) rfl)) rfl
theorem bt405 : Cond.selects RX5 yX5_envious yX5_envious ∈ BT := bt_of (in_t3 (List.mem_of_getElem? (i := 122) rfl)) rfl
theorem bt406 : Cond.code yX5_envious cX5_envious 5 (some .int) ∈ BT := bt_of (in_t3 (List.mem_of_getElem? (i := 123) rfl)) rfl
theorem vl_X7_240 (M : Mth) (h : mO M = RX7) : VLk M mX5_envious 240 5 0 := ⟨by rw [h]; exact bt403, bt404, bt405, bt205, bt406, ⟨by decide +kernel, by decide +kernel⟩, by decide +kernel, by decide, TX5, 5, rfl⟩
theorem bt407 : Cond.fieldLink RX7 50 "TurningVillage" "harvest" "LTurningVillage$Harvest;" ∈ BT := bt_of (in_t2 (List.mem_of_getElem? (i := 7) rfl)) rfl
theorem fl_X7_50 : FLk RX7 50 7 6 := ⟨RX7, TX7, 9, rfl, by decide, bt407, iB_X7⟩
theorem bt408 : Cond.fieldLink RX7 243 "TurningVillage$Harvest" "known" "[I" ∈ BT := bt_of (in_t1 (List.mem_of_getElem? (i := 185) rfl)) rfl
theorem fl_X7_243 : FLk RX7 243 2 0 := ⟨RX2, TX2, 9, rfl, by decide, bt408, iB_X2⟩
theorem bt409 : Cond.fieldLink RX7 246 "TurningVillage$Gales" "begin" "I" ∈ BT := bt_of (in_t1 (List.mem_of_getElem? (i := 93) rfl)) rfl
theorem fl_X7_246 : FLk RX7 246 1 8 := ⟨RX1, TX1, 12, rfl, by decide, bt409, iB_X1⟩
theorem bt410 : Cond.methodLink RX7 248 yX2_search ∈ BT := bt_of (in_t3 (List.mem_of_getElem? (i := 132) rfl)) rfl
theorem bt411 : Cond.instanceMethod yX2_search ∈ BT := bt_of (in_t3 (List.mem_of_getElem? (i := 133) rfl)) rfl
theorem bt412 : Cond.selects RX2 yX2_search yX2_search ∈ BT := bt_of (in_t3 (List.mem_of_getElem? (i := 134) rfl)) rfl
theorem bt413 : Cond.code yX2_search cX2_search 9 none ∈ BT := bt_of (in_t3 (List.mem_of_getElem? (i := 135) rfl)) rfl
theorem vl_X7_248 (M : Mth) (h : mO M = RX7) : VLk M mX2_search 248 2 3 := ⟨by rw [h]; exact bt410, bt411, bt412, bt114, bt413, ⟨by decide +kernel, by decide +kernel⟩, by decide +kernel, by decide, TX2, 9, rfl⟩
theorem bt414 : Cond.fieldLink RX7 252 "TurningVillage$Harvest" "fitting" "I" ∈ BT := bt_of (in_t1 (List.mem_of_getElem? (i := 191) rfl)) rfl
theorem fl_X7_252 : FLk RX7 252 2 5 := ⟨RX2, TX2, 9, rfl, by decide, bt414, iB_X2⟩
theorem bt415 : Cond.fieldLink RX7 255 "TurningVillage$Harvest" "first" "I" ∈ BT := bt_of (in_t1 (List.mem_of_getElem? (i := 193) rfl)) rfl
theorem fl_X7_255 : FLk RX7 255 2 6 := ⟨RX2, TX2, 9, rfl, by decide, bt415, iB_X2⟩
theorem bt416 : Cond.fieldLink RX7 258 "TurningVillage$Harvest" "sureWith" "I" ∈ BT := bt_of (in_t1 (List.mem_of_getElem? (i := 195) rfl)) rfl
theorem fl_X7_258 : FLk RX7 258 2 7 := ⟨RX2, TX2, 9, rfl, by decide, bt416, iB_X2⟩
theorem bt417 : Cond.fieldLink RX7 261 "TurningVillage$Harvest" "sureWithout" "I" ∈ BT := bt_of (in_t1 (List.mem_of_getElem? (i := 197) rfl)) rfl
theorem fl_X7_261 : FLk RX7 261 2 8 := ⟨RX2, TX2, 9, rfl, by decide, bt417, iB_X2⟩
theorem bt418 : Cond.methodLink RX7 264 yX7_longestWait ∈ BT := bt_of (in_t3 (List.mem_of_getElem? (i := 155) rfl)) rfl
theorem bt419 : Cond.instanceMethod yX7_longestWait ∈ BT := bt_of (in_t3 (List.mem_of_getElem? (i := 157) rfl)) rfl
theorem bt420 : Cond.selects RX7 yX7_longestWait yX7_longestWait ∈ BT := bt_of (in_s2 (n := 9) (List.mem_of_getElem? (i := 5) rfl)) rfl
theorem bt421 : Cond.code yX7_longestWait cX7_longestWait 8 (some .int) ∈ BT := bt_of (in_t3 (List.mem_of_getElem? (i := 158) rfl)) rfl
theorem vl_X7_264 (M : Mth) (h : mO M = RX7) : VLk M mX7_longestWait 264 7 2 := ⟨by rw [h]; exact bt418, bt419, bt420, bt187, bt421, ⟨by decide +kernel, by decide +kernel⟩, by decide +kernel, by decide, TX7, 9, rfl⟩
theorem bt422 : Cond.methodLink RX7 267 yX7_isForm ∈ BT := bt_of (in_t3 (List.mem_of_getElem? (i := 168) rfl)) rfl
theorem bt423 : Cond.static yX7_isForm ∈ BT := bt_of (in_t3 (List.mem_of_getElem? (i := 169) rfl)) rfl
theorem bt424 : Cond.code yX7_isForm cX7_isForm 1 (some .boolean) ∈ BT := bt_of (in_t3 (List.mem_of_getElem? (i := 170) rfl)) rfl
theorem sl_X7_267 (M : Mth) (h : mO M = RX7) : SLk M mX7_isForm 267 1 := ⟨by rw [h]; exact bt422, bt423, bt187, bt424, ⟨by decide +kernel, by decide +kernel⟩, by decide +kernel, by decide⟩
theorem bt425 : Cond.methodLink RX7 270 yX4_renew ∈ BT := bt_of (in_t3 (List.mem_of_getElem? (i := 171) rfl)) rfl
theorem bt426 : Cond.instanceMethod yX4_renew ∈ BT := bt_of (in_t3 (List.mem_of_getElem? (i := 172) rfl)) rfl
theorem bt427 : Cond.selects RX4 yX4_renew yX4_renew ∈ BT := bt_of (in_t3 (List.mem_of_getElem? (i := 173) rfl)) rfl
theorem bt428 : Cond.initialized RX4 ∈ BT := bt_of (in_t1 (List.mem_of_getElem? (i := 8) rfl)) rfl
theorem bt429 : Cond.code yX4_renew cX4_renew 3 none ∈ BT := bt_of (in_t3 (List.mem_of_getElem? (i := 174) rfl)) rfl
theorem vl_X7_270 (M : Mth) (h : mO M = RX7) : VLk M mX4_renew 270 4 2 := ⟨by rw [h]; exact bt425, bt426, bt427, bt428, bt429, ⟨by decide +kernel, by decide +kernel⟩, by decide +kernel, by decide, TX4, 4, rfl⟩
theorem fp_X7_119 : FPk RX7 119 4 0 .boolean := ⟨RX4, TX4, 4, tyX4, rfl, by decide, bt289, iB_X4, tyX4_ok, nmX4, rfl, by decide +kernel⟩
theorem bt430 : Cond.methodLink RX7 273 yX4_findingAt ∈ BT := bt_of (in_t3 (List.mem_of_getElem? (i := 184) rfl)) rfl
theorem bt431 : Cond.instanceMethod yX4_findingAt ∈ BT := bt_of (in_t3 (List.mem_of_getElem? (i := 185) rfl)) rfl
theorem bt432 : Cond.selects RX4 yX4_findingAt yX4_findingAt ∈ BT := bt_of (in_t3 (List.mem_of_getElem? (i := 186) rfl)) rfl
theorem bt433 : Cond.code yX4_findingAt cX4_findingAt 3 (some .int) ∈ BT := bt_of (in_t3 (List.mem_of_getElem? (i := 187) rfl)) rfl
theorem vl_X7_273 (M : Mth) (h : mO M = RX7) : VLk M mX4_findingAt 273 4 2 := ⟨by rw [h]; exact bt430, bt431, bt432, bt428, bt433, ⟨by decide +kernel, by decide +kernel⟩, by decide +kernel, by decide, TX4, 4, rfl⟩
theorem bt434 : Cond.methodLink RX7 276 yX4_keep ∈ BT := bt_of (in_t3 (List.mem_of_getElem? (i := 188) rfl)) rfl
theorem bt435 : Cond.instanceMethod yX4_keep ∈ BT := bt_of (in_t3 (List.mem_of_getElem? (i := 189) rfl)) rfl
theorem bt436 : Cond.selects RX4 yX4_keep yX4_keep ∈ BT := bt_of (in_t3 (List.mem_of_getElem? (i := 190) rfl)) rfl
theorem bt437 : Cond.code yX4_keep cX4_keep 3 none ∈ BT := bt_of (in_t3 (List.mem_of_getElem? (i := 191) rfl)) rfl
theorem vl_X7_276 (M : Mth) (h : mO M = RX7) : VLk M mX4_keep 276 4 2 := ⟨by rw [h]; exact bt434, bt435, bt436, bt428, bt437, ⟨by decide +kernel, by decide +kernel⟩, by decide +kernel, by decide, TX4, 4, rfl⟩
theorem bt438 : Cond.constant RX7 279 (-2147483648) ∈ BT := bt_of (in_t3 (List.mem_of_getElem? (i := 196) rfl)) rfl
theorem bt439 : Cond.fieldLink RX7 280 "TurningVillage" "finding" "I" ∈ BT := bt_of (in_t2 (List.mem_of_getElem? (i := 9) rfl)) rfl
theorem fp_X7_280 : FPk RX7 280 7 8 .int := ⟨RX7, TX7, 9, tyX7, rfl, by decide, bt439, iB_X7, tyX7_ok, nmX7, rfl, by decide +kernel⟩
theorem bt440 : Cond.fieldLink RX7 283 "TurningVillage$Sheet" "form" "I" ∈ BT := bt_of (in_t1 (List.mem_of_getElem? (i := 227) rfl)) rfl
theorem fl_X7_283 : FLk RX7 283 4 1 := ⟨RX4, TX4, 4, rfl, by decide, bt440, iB_X4⟩
theorem bt441 : Cond.methodLink RX7 286 yX4_has ∈ BT := bt_of (in_t3 (List.mem_of_getElem? (i := 201) rfl)) rfl
theorem bt442 : Cond.instanceMethod yX4_has ∈ BT := bt_of (in_t3 (List.mem_of_getElem? (i := 202) rfl)) rfl
theorem bt443 : Cond.selects RX4 yX4_has yX4_has ∈ BT := bt_of (in_t3 (List.mem_of_getElem? (i := 203) rfl)) rfl
theorem bt444 : Cond.code yX4_has cX4_has 3 (some .boolean) ∈ BT := bt_of (in_t3 (List.mem_of_getElem? (i := 204) rfl)) rfl
theorem vl_X7_286 (M : Mth) (h : mO M = RX7) : VLk M mX4_has 286 4 2 := ⟨by rw [h]; exact bt441, bt442, bt443, bt428, bt444, ⟨by decide +kernel, by decide +kernel⟩, by decide +kernel, by decide, TX4, 4, rfl⟩
theorem bt445 : Cond.methodLink RX7 289 arraycopyName ∈ BT := bt_of (in_t3 (List.mem_of_getElem? (i := 205) rfl)) rfl
theorem bt446 : Cond.methodLink RX7 295 yX1_counting ∈ BT := bt_of (in_t3 (List.mem_of_getElem? (i := 214) rfl)) rfl
theorem bt447 : Cond.instanceMethod yX1_counting ∈ BT := bt_of (in_t3 (List.mem_of_getElem? (i := 215) rfl)) rfl
theorem bt448 : Cond.selects RX1 yX1_counting yX1_counting ∈ BT := bt_of (in_t3 (List.mem_of_getElem? (i := 216) rfl)) rfl
theorem bt449 : Cond.code yX1_counting cX1_counting 3 (some .int) ∈ BT := bt_of (in_t3 (List.mem_of_getElem? (i := 217) rfl)) rfl
theorem vl_X7_295 (M : Mth) (h : mO M = RX7) : VLk M mX1_counting 295 1 0 := ⟨by rw [h]; exact bt446, bt447, bt448, bt103, bt449, ⟨by decide +kernel, by decide +kernel⟩, by decide +kernel, by decide, TX1, 12, rfl⟩
theorem bt450 : Cond.fieldLink RX7 298 "TurningVillage$Land" "length" "I" ∈ BT := bt_of (in_t1 (List.mem_of_getElem? (i := 30) rfl)) rfl
theorem fl_X7_298 : FLk RX7 298 3 1 := ⟨RX3, TX3, 11, rfl, by decide, bt450, iB_X3⟩
theorem bt451 : Cond.methodLink RX7 301 yX3_closedPaths ∈ BT := bt_of (in_t3 (List.mem_of_getElem? (i := 218) rfl)) rfl
theorem bt452 : Cond.instanceMethod yX3_closedPaths ∈ BT := bt_of (in_t3 (List.mem_of_getElem? (i := 219) rfl)) rfl
theorem bt453 : Cond.selects RX3 yX3_closedPaths yX3_closedPaths ∈ BT := bt_of (in_t3 (List.mem_of_getElem? (i := 220) rfl)) rfl
theorem bt454 : Cond.code yX3_closedPaths cX3_closedPaths 3 (some .int) ∈ BT := bt_of (in_t3 (List.mem_of_getElem? (i := 221) rfl)) rfl
theorem vl_X7_301 (M : Mth) (h : mO M = RX7) : VLk M mX3_closedPaths 301 3 0 := ⟨by rw [h]; exact bt451, bt452, bt453, bt148, bt454, ⟨by decide +kernel, by decide +kernel⟩, by decide +kernel, by decide, TX3, 11, rfl⟩
theorem bt455 : Cond.fieldLink RX7 304 "TurningVillage$Gales" "asOf" "I" ∈ BT := bt_of (in_t1 (List.mem_of_getElem? (i := 89) rfl)) rfl
theorem fl_X7_304 : FLk RX7 304 1 6 := ⟨RX1, TX1, 12, rfl, by decide, bt455, iB_X1⟩
theorem bt456 : Cond.fieldLink RX7 307 "TurningVillage$Gales" "wing" "I" ∈ BT := bt_of (in_t1 (List.mem_of_getElem? (i := 91) rfl)) rfl
theorem fl_X7_307 : FLk RX7 307 1 7 := ⟨RX1, TX1, 12, rfl, by decide, bt456, iB_X1⟩
theorem bt457 : Cond.methodLink RX7 310 yX5_inOwnRow ∈ BT := bt_of (in_t3 (List.mem_of_getElem? (i := 222) rfl)) rfl
theorem bt458 : Cond.instanceMethod yX5_inOwnRow ∈ BT := bt_of (in_t3 (List.mem_of_getElem? (i := 223) rfl)) rfl
theorem bt459 : Cond.selects RX5 yX5_inOwnRow yX5_inOwnRow ∈ BT := bt_of (in_t3 (List.mem_of_getElem? (i := 224) rfl)) rfl
theorem bt460 : Cond.code yX5_inOwnRow cX5_inOwnRow 3 (some .int) ∈ BT := bt_of (in_t3 (List.mem_of_getElem? (i := 225) rfl)) rfl
theorem vl_X7_310 (M : Mth) (h : mO M = RX7) : VLk M mX5_inOwnRow 310 5 0 := ⟨by rw [h]; exact bt457, bt458, bt459, bt205, bt460, ⟨by decide +kernel, by decide +kernel⟩, by decide +kernel, by decide, TX5, 5, rfl⟩
theorem fl_X7_280 : FLk RX7 280 7 8 := ⟨RX7, TX7, 9, rfl, by decide, bt439, iB_X7⟩
theorem bt461 : Cond.constantLong RX7 313 (17) ∈ BT := bt_of (in_t3 (List.mem_of_getElem? (i := 230) rfl)) rfl
theorem bt462 : Cond.constantLong RX7 315 (31) ∈ BT := bt_of (in_t3 (List.mem_of_getElem? (i := 231) rfl)) rfl
theorem bt463 : Cond.methodLink RX7 317 yX7_count ∈ BT := bt_of (in_t3 (List.mem_of_getElem? (i := 232) rfl)) rfl
theorem bt464 : Cond.instanceMethod yX7_count ∈ BT := bt_of (in_t3 (List.mem_of_getElem? (i := 211) rfl)) rfl
theorem bt465 : Cond.selects RX7 yX7_count yX7_count ∈ BT := bt_of (in_t3 (List.mem_of_getElem? (i := 212) rfl)) rfl
theorem bt466 : Cond.code yX7_count cX7_count 2 (some .int) ∈ BT := bt_of (in_t3 (List.mem_of_getElem? (i := 213) rfl)) rfl
theorem vl_X7_317 (M : Mth) (h : mO M = RX7) : VLk M mX7_count 317 7 1 := ⟨by rw [h]; exact bt463, bt464, bt465, bt187, bt466, ⟨by decide +kernel, by decide +kernel⟩, by decide +kernel, by decide, TX7, 9, rfl⟩
theorem bt467 : Cond.methodLink RX7 320 yX7_digestPlaces ∈ BT := bt_of (in_t3 (List.mem_of_getElem? (i := 233) rfl)) rfl
theorem bt468 : Cond.instanceMethod yX7_digestPlaces ∈ BT := bt_of (in_t3 (List.mem_of_getElem? (i := 235) rfl)) rfl
theorem bt469 : Cond.selects RX7 yX7_digestPlaces yX7_digestPlaces ∈ BT := bt_of (in_s2 (n := 9) (List.mem_of_getElem? (i := 6) rfl)) rfl
theorem bt470 : Cond.code yX7_digestPlaces cX7_digestPlaces 6 (some .long) ∈ BT := bt_of (in_t3 (List.mem_of_getElem? (i := 236) rfl)) rfl
theorem vl_X7_320 (M : Mth) (h : mO M = RX7) : VLk M mX7_digestPlaces 320 7 1 := ⟨by rw [h]; exact bt467, bt468, bt469, bt187, bt470, ⟨by decide +kernel, by decide +kernel⟩, by decide +kernel, by decide, TX7, 9, rfl⟩
theorem bt471 : Cond.methodLink RX7 324 yX7_digestRows ∈ BT := bt_of (in_t3 (List.mem_of_getElem? (i := 238) rfl)) rfl
theorem bt472 : Cond.instanceMethod yX7_digestRows ∈ BT := bt_of (in_t4 (List.mem_of_getElem? (i := 0) rfl)) rfl
theorem bt473 : Cond.selects RX7 yX7_digestRows yX7_digestRows ∈ BT := bt_of (in_s2 (n := 9) (List.mem_of_getElem? (i := 7) rfl)) rfl
theorem bt474 : Cond.code yX7_digestRows cX7_digestRows 6 (some .long) ∈ BT := bt_of (in_t4 (List.mem_of_getElem? (i := 1) rfl)) rfl
theorem vl_X7_324 (M : Mth) (h : mO M = RX7) : VLk M mX7_digestRows 324 7 1 := ⟨by rw [h]; exact bt471, bt472, bt473, bt187, bt474, ⟨by decide +kernel, by decide +kernel⟩, by decide +kernel, by decide, TX7, 9, rfl⟩
theorem bt475 : Cond.methodLink RX7 327 yX7_ahead ∈ BT := bt_of (in_t4 (List.mem_of_getElem? (i := 7) rfl)) rfl
theorem bt476 : Cond.instanceMethod yX7_ahead ∈ BT := bt_of (in_t2 (List.mem_of_getElem? (i := 202) rfl)) rfl
theorem bt477 : Cond.selects RX7 yX7_ahead yX7_ahead ∈ BT := bt_of (in_t2 (List.mem_of_getElem? (i := 203) rfl)) rfl
theorem bt478 : Cond.code yX7_ahead cX7_ahead 10 (some .int) ∈ BT := bt_of (in_t2 (List.mem_of_getElem? (i := 204) rfl)) rfl
theorem vl_X7_327 (M : Mth) (h : mO M = RX7) : VLk M mX7_ahead 327 7 4 := ⟨by rw [h]; exact bt475, bt476, bt477, bt187, bt478, ⟨by decide +kernel, by decide +kernel⟩, by decide +kernel, by decide, TX7, 9, rfl⟩
theorem bt479 : Cond.methodLink RX7 331 yX7_digestTenants ∈ BT := bt_of (in_t4 (List.mem_of_getElem? (i := 8) rfl)) rfl
theorem bt480 : Cond.instanceMethod yX7_digestTenants ∈ BT := bt_of (in_t4 (List.mem_of_getElem? (i := 10) rfl)) rfl
theorem bt481 : Cond.selects RX7 yX7_digestTenants yX7_digestTenants ∈ BT := bt_of (in_s2 (n := 9) (List.mem_of_getElem? (i := 8) rfl)) rfl
theorem bt482 : Cond.code yX7_digestTenants cX7_digestTenants 6 (some .long) ∈ BT := bt_of (in_t4 (List.mem_of_getElem? (i := 11) rfl)) rfl
theorem vl_X7_331 (M : Mth) (h : mO M = RX7) : VLk M mX7_digestTenants 331 7 1 := ⟨by rw [h]; exact bt479, bt480, bt481, bt187, bt482, ⟨by decide +kernel, by decide +kernel⟩, by decide +kernel, by decide, TX7, 9, rfl⟩
theorem bt483 : Cond.methodLink RX7 334 yX7_history ∈ BT := bt_of (in_t4 (List.mem_of_getElem? (i := 12) rfl)) rfl
theorem bt484 : Cond.instanceMethod yX7_history ∈ BT := bt_of (in_t3 (List.mem_of_getElem? (i := 129) rfl)) rfl
theorem bt485 : Cond.selects RX7 yX7_history yX7_history ∈ BT := bt_of (in_t3 (List.mem_of_getElem? (i := 130) rfl)) rfl
theorem bt486 : Cond.code yX7_history cX7_history 4 (some .int) ∈ BT := bt_of (in_t3 (List.mem_of_getElem? (i := 131) rfl)) rfl
theorem vl_X7_334 (M : Mth) (h : mO M = RX7) : VLk M mX7_history 334 7 3 := ⟨by rw [h]; exact bt483, bt484, bt485, bt187, bt486, ⟨by decide +kernel, by decide +kernel⟩, by decide +kernel, by decide, TX7, 9, rfl⟩
theorem bt487 : Cond.methodLink RX7 337 yX7_dig ∈ BT := bt_of (in_t4 (List.mem_of_getElem? (i := 13) rfl)) rfl
theorem bt488 : Cond.instanceMethod yX7_dig ∈ BT := bt_of (in_t3 (List.mem_of_getElem? (i := 161) rfl)) rfl
theorem bt489 : Cond.selects RX7 yX7_dig yX7_dig ∈ BT := bt_of (in_t3 (List.mem_of_getElem? (i := 162) rfl)) rfl
theorem bt490 : Cond.code yX7_dig cX7_dig 7 (some .int) ∈ BT := bt_of (in_t3 (List.mem_of_getElem? (i := 163) rfl)) rfl
theorem vl_X7_337 (M : Mth) (h : mO M = RX7) : VLk M mX7_dig 337 7 2 := ⟨by rw [h]; exact bt487, bt488, bt489, bt187, bt490, ⟨by decide +kernel, by decide +kernel⟩, by decide +kernel, by decide, TX7, 9, rfl⟩
theorem bt491 : Cond.methodLink RX7 340 yX7_meet ∈ BT := bt_of (in_t4 (List.mem_of_getElem? (i := 14) rfl)) rfl
theorem bt492 : Cond.instanceMethod yX7_meet ∈ BT := bt_of (in_t3 (List.mem_of_getElem? (i := 39) rfl)) rfl
theorem bt493 : Cond.selects RX7 yX7_meet yX7_meet ∈ BT := bt_of (in_t3 (List.mem_of_getElem? (i := 40) rfl)) rfl
theorem bt494 : Cond.code yX7_meet cX7_meet 7 (some .int) ∈ BT := bt_of (in_t3 (List.mem_of_getElem? (i := 41) rfl)) rfl
theorem vl_X7_340 (M : Mth) (h : mO M = RX7) : VLk M mX7_meet 340 7 4 := ⟨by rw [h]; exact bt491, bt492, bt493, bt187, bt494, ⟨by decide +kernel, by decide +kernel⟩, by decide +kernel, by decide, TX7, 9, rfl⟩
theorem bt495 : Cond.methodLink RX7 343 yX7_place ∈ BT := bt_of (in_t3 (List.mem_of_getElem? (i := 237) rfl)) rfl
theorem bt496 : Cond.instanceMethod yX7_place ∈ BT := bt_of (in_t2 (List.mem_of_getElem? (i := 92) rfl)) rfl
theorem bt497 : Cond.selects RX7 yX7_place yX7_place ∈ BT := bt_of (in_t2 (List.mem_of_getElem? (i := 93) rfl)) rfl
theorem bt498 : Cond.code yX7_place cX7_place 3 (some .int) ∈ BT := bt_of (in_t2 (List.mem_of_getElem? (i := 94) rfl)) rfl
theorem vl_X7_343 (M : Mth) (h : mO M = RX7) : VLk M mX7_place 343 7 2 := ⟨by rw [h]; exact bt495, bt496, bt497, bt187, bt498, ⟨by decide +kernel, by decide +kernel⟩, by decide +kernel, by decide, TX7, 9, rfl⟩
theorem bt499 : Cond.methodLink RX7 346 yX7_door ∈ BT := bt_of (in_t4 (List.mem_of_getElem? (i := 2) rfl)) rfl
theorem bt500 : Cond.instanceMethod yX7_door ∈ BT := bt_of (in_t2 (List.mem_of_getElem? (i := 172) rfl)) rfl
theorem bt501 : Cond.selects RX7 yX7_door yX7_door ∈ BT := bt_of (in_t2 (List.mem_of_getElem? (i := 173) rfl)) rfl
theorem bt502 : Cond.code yX7_door cX7_door 5 (some .int) ∈ BT := bt_of (in_t2 (List.mem_of_getElem? (i := 174) rfl)) rfl
theorem vl_X7_346 (M : Mth) (h : mO M = RX7) : VLk M mX7_door 346 7 3 := ⟨by rw [h]; exact bt499, bt500, bt501, bt187, bt502, ⟨by decide +kernel, by decide +kernel⟩, by decide +kernel, by decide, TX7, 9, rfl⟩
theorem bt503 : Cond.methodLink RX7 349 yX7_shine ∈ BT := bt_of (in_t4 (List.mem_of_getElem? (i := 3) rfl)) rfl
theorem bt504 : Cond.instanceMethod yX7_shine ∈ BT := bt_of (in_t2 (List.mem_of_getElem? (i := 198) rfl)) rfl
theorem bt505 : Cond.selects RX7 yX7_shine yX7_shine ∈ BT := bt_of (in_t2 (List.mem_of_getElem? (i := 199) rfl)) rfl
theorem bt506 : Cond.code yX7_shine cX7_shine 6 (some .int) ∈ BT := bt_of (in_t2 (List.mem_of_getElem? (i := 200) rfl)) rfl
theorem vl_X7_349 (M : Mth) (h : mO M = RX7) : VLk M mX7_shine 349 7 3 := ⟨by rw [h]; exact bt503, bt504, bt505, bt187, bt506, ⟨by decide +kernel, by decide +kernel⟩, by decide +kernel, by decide, TX7, 9, rfl⟩
theorem bt507 : Cond.methodLink RX7 352 yX7_soon ∈ BT := bt_of (in_t4 (List.mem_of_getElem? (i := 4) rfl)) rfl
theorem bt508 : Cond.instanceMethod yX7_soon ∈ BT := bt_of (in_t3 (List.mem_of_getElem? (i := 1) rfl)) rfl
theorem bt509 : Cond.selects RX7 yX7_soon yX7_soon ∈ BT := bt_of (in_t3 (List.mem_of_getElem? (i := 2) rfl)) rfl
theorem bt510 : Cond.code yX7_soon cX7_soon 4 (some .int) ∈ BT := bt_of (in_t3 (List.mem_of_getElem? (i := 3) rfl)) rfl
theorem vl_X7_352 (M : Mth) (h : mO M = RX7) : VLk M mX7_soon 352 7 3 := ⟨by rw [h]; exact bt507, bt508, bt509, bt187, bt510, ⟨by decide +kernel, by decide +kernel⟩, by decide +kernel, by decide, TX7, 9, rfl⟩
theorem bt511 : Cond.methodLink RX7 355 yX7_carried ∈ BT := bt_of (in_t4 (List.mem_of_getElem? (i := 5) rfl)) rfl
theorem bt512 : Cond.instanceMethod yX7_carried ∈ BT := bt_of (in_t3 (List.mem_of_getElem? (i := 31) rfl)) rfl
theorem bt513 : Cond.selects RX7 yX7_carried yX7_carried ∈ BT := bt_of (in_t3 (List.mem_of_getElem? (i := 32) rfl)) rfl
theorem bt514 : Cond.code yX7_carried cX7_carried 4 (some .int) ∈ BT := bt_of (in_t3 (List.mem_of_getElem? (i := 33) rfl)) rfl
theorem vl_X7_355 (M : Mth) (h : mO M = RX7) : VLk M mX7_carried 355 7 3 := ⟨by rw [h]; exact bt511, bt512, bt513, bt187, bt514, ⟨by decide +kernel, by decide +kernel⟩, by decide +kernel, by decide, TX7, 9, rfl⟩
theorem bt515 : Cond.methodLink RX7 358 yX7_waits ∈ BT := bt_of (in_t4 (List.mem_of_getElem? (i := 6) rfl)) rfl
theorem bt516 : Cond.instanceMethod yX7_waits ∈ BT := bt_of (in_t3 (List.mem_of_getElem? (i := 152) rfl)) rfl
theorem bt517 : Cond.selects RX7 yX7_waits yX7_waits ∈ BT := bt_of (in_t3 (List.mem_of_getElem? (i := 153) rfl)) rfl
theorem bt518 : Cond.code yX7_waits cX7_waits 3 (some .int) ∈ BT := bt_of (in_t3 (List.mem_of_getElem? (i := 154) rfl)) rfl
theorem vl_X7_358 (M : Mth) (h : mO M = RX7) : VLk M mX7_waits 358 7 2 := ⟨by rw [h]; exact bt515, bt516, bt517, bt187, bt518, ⟨by decide +kernel, by decide +kernel⟩, by decide +kernel, by decide, TX7, 9, rfl⟩
theorem bt519 : Cond.methodLink RX7 361 yX5_reckonJoys ∈ BT := bt_of (in_t3 (List.mem_of_getElem? (i := 70) rfl)) rfl
theorem bt520 : Cond.instanceMethod yX5_reckonJoys ∈ BT := bt_of (in_t3 (List.mem_of_getElem? (i := 71) rfl)) rfl
theorem bt521 : Cond.selects RX5 yX5_reckonJoys yX5_reckonJoys ∈ BT := bt_of (in_t3 (List.mem_of_getElem? (i := 72) rfl)) rfl
theorem bt522 : Cond.code yX5_reckonJoys cX5_reckonJoys 5 none ∈ BT := bt_of (in_t3 (List.mem_of_getElem? (i := 73) rfl)) rfl
theorem vl_X7_361 (M : Mth) (h : mO M = RX7) : VLk M mX5_reckonJoys 361 5 2 := ⟨by rw [h]; exact bt519, bt520, bt521, bt205, bt522, ⟨by decide +kernel, by decide +kernel⟩, by decide +kernel, by decide, TX5, 5, rfl⟩
theorem bt523 : Cond.methodLink RX7 364 yJ9_max_7cf53 ∈ BT := bt_of (in_t3 (List.mem_of_getElem? (i := 159) rfl)) rfl
theorem sl_X7_364 (M : Mth) (h : mO M = RX7) : SLk M mJ9_max_7cf53 364 2 := ⟨by rw [h]; exact bt523, bt222, bt127, bt223, ⟨by decide +kernel, by decide +kernel⟩, by decide +kernel, by decide⟩
theorem bt524 : Cond.constantLong RX8 87 (-9223372036854775808) ∈ BT := bt_of (in_t5 (List.mem_of_getElem? (i := 1) rfl)) rfl
theorem bt525 : Cond.methodLink RX8 89 yX8_in ∈ BT := bt_of (in_t4 (List.mem_of_getElem? (i := 117) rfl)) rfl
theorem bt526 : Cond.static yX8_in ∈ BT := bt_of (in_t4 (List.mem_of_getElem? (i := 118) rfl)) rfl
theorem bt527 : Cond.initialized RX8 ∈ BT := bt_of (in_t1 (List.mem_of_getElem? (i := 9) rfl)) rfl
theorem bt528 : Cond.code yX8_in cX8_in 3 (some .boolean) ∈ BT := bt_of (in_t4 (List.mem_of_getElem? (i := 119) rfl)) rfl
theorem sl_X8_89 (M : Mth) (h : mO M = RX8) : SLk M mX8_in 89 3 := ⟨by rw [h]; exact bt525, bt526, bt527, bt528, ⟨by decide +kernel, by decide +kernel⟩, by decide +kernel, by decide⟩
theorem bt529 : Cond.fieldLink RX8 93 "TurningVillageModel" "typed" "I" ∈ BT := bt_of (in_t4 (List.mem_of_getElem? (i := 21) rfl)) rfl
theorem fl_X8_93 : FLk RX8 93 8 0 := ⟨RX8, TX8, 30, rfl, by decide, bt529, iB_X8⟩
theorem bt530 : Cond.fieldLink RX8 7 "TurningVillageModel" "text" "[I" ∈ BT := bt_of (in_t4 (List.mem_of_getElem? (i := 22) rfl)) rfl
theorem fl_X8_7 : FLk RX8 7 8 1 := ⟨RX8, TX8, 30, rfl, by decide, bt530, iB_X8⟩
theorem fp_X8_93 : FPk RX8 93 8 0 .int := ⟨RX8, TX8, 30, tyX8, rfl, by decide, bt529, iB_X8, tyX8_ok, nmX8, rfl, by decide +kernel⟩
theorem bt531 : Cond.fieldLink RX8 97 "TurningVillageModel" "bridges" "I" ∈ BT := bt_of (in_t4 (List.mem_of_getElem? (i := 25) rfl)) rfl
theorem fl_X8_97 : FLk RX8 97 8 4 := ⟨RX8, TX8, 30, rfl, by decide, bt531, iB_X8⟩
theorem bt532 : Cond.fieldLink RX8 19 "TurningVillageModel" "bridge" "[I" ∈ BT := bt_of (in_t4 (List.mem_of_getElem? (i := 26) rfl)) rfl
theorem fl_X8_19 : FLk RX8 19 8 5 := ⟨RX8, TX8, 30, rfl, by decide, bt532, iB_X8⟩
theorem fp_X8_97 : FPk RX8 97 8 4 .int := ⟨RX8, TX8, 30, tyX8, rfl, by decide, bt531, iB_X8, tyX8_ok, nmX8, rfl, by decide +kernel⟩
theorem bt533 : Cond.fieldLink RX8 16 "TurningVillageModel" "closed" "[I" ∈ BT := bt_of (in_t4 (List.mem_of_getElem? (i := 24) rfl)) rfl
theorem fl_X8_16 : FLk RX8 16 8 3 := ⟨RX8, TX8, 30, rfl, by decide, bt533, iB_X8⟩
theorem bt534 : Cond.fieldLink RX8 13 "TurningVillageModel" "things" "[I" ∈ BT := bt_of (in_t4 (List.mem_of_getElem? (i := 23) rfl)) rfl
theorem fl_X8_13 : FLk RX8 13 8 2 := ⟨RX8, TX8, 30, rfl, by decide, bt534, iB_X8⟩
theorem bt535 : Cond.methodLink RX8 100 yX8_byteAt ∈ BT := bt_of (in_t4 (List.mem_of_getElem? (i := 136) rfl)) rfl
theorem bt536 : Cond.instanceMethod yX8_byteAt ∈ BT := bt_of (in_t4 (List.mem_of_getElem? (i := 138) rfl)) rfl
theorem bt537 : Cond.selects RX8 yX8_byteAt yX8_byteAt ∈ BT := bt_of (in_s2 (n := 30) (List.mem_of_getElem? (i := 11) rfl)) rfl
theorem bt538 : Cond.code yX8_byteAt cX8_byteAt 2 (some .int) ∈ BT := bt_of (in_t4 (List.mem_of_getElem? (i := 139) rfl)) rfl
theorem vl_X8_100 (M : Mth) (h : mO M = RX8) : VLk M mX8_byteAt 100 8 1 := ⟨by rw [h]; exact bt535, bt536, bt537, bt527, bt538, ⟨by decide +kernel, by decide +kernel⟩, by decide +kernel, by decide, TX8, 30, rfl⟩
theorem bt539 : Cond.methodLink RX8 104 yX8_thingOf ∈ BT := bt_of (in_t4 (List.mem_of_getElem? (i := 140) rfl)) rfl
theorem bt540 : Cond.static yX8_thingOf ∈ BT := bt_of (in_t4 (List.mem_of_getElem? (i := 141) rfl)) rfl
theorem bt541 : Cond.code yX8_thingOf cX8_thingOf 1 (some .int) ∈ BT := bt_of (in_t4 (List.mem_of_getElem? (i := 142) rfl)) rfl
theorem sl_X8_104 (M : Mth) (h : mO M = RX8) : SLk M mX8_thingOf 104 1 := ⟨by rw [h]; exact bt539, bt540, bt527, bt541, ⟨by decide +kernel, by decide +kernel⟩, by decide +kernel, by decide⟩
theorem bt542 : Cond.methodLink RX8 107 yX8_mayBe ∈ BT := bt_of (in_t4 (List.mem_of_getElem? (i := 143) rfl)) rfl
theorem bt543 : Cond.instanceMethod yX8_mayBe ∈ BT := bt_of (in_t4 (List.mem_of_getElem? (i := 145) rfl)) rfl
theorem bt544 : Cond.selects RX8 yX8_mayBe yX8_mayBe ∈ BT := bt_of (in_s2 (n := 30) (List.mem_of_getElem? (i := 12) rfl)) rfl
theorem bt545 : Cond.code yX8_mayBe cX8_mayBe 4 (some .boolean) ∈ BT := bt_of (in_t4 (List.mem_of_getElem? (i := 146) rfl)) rfl
theorem vl_X8_107 (M : Mth) (h : mO M = RX8) : VLk M mX8_mayBe 107 8 2 := ⟨by rw [h]; exact bt542, bt543, bt544, bt527, bt545, ⟨by decide +kernel, by decide +kernel⟩, by decide +kernel, by decide, TX8, 30, rfl⟩
theorem bt546 : Cond.methodLink RX8 111 yX8_reads ∈ BT := bt_of (in_t4 (List.mem_of_getElem? (i := 132) rfl)) rfl
theorem bt547 : Cond.instanceMethod yX8_reads ∈ BT := bt_of (in_t4 (List.mem_of_getElem? (i := 134) rfl)) rfl
theorem bt548 : Cond.selects RX8 yX8_reads yX8_reads ∈ BT := bt_of (in_s2 (n := 30) (List.mem_of_getElem? (i := 10) rfl)) rfl
theorem bt549 : Cond.code yX8_reads cX8_reads 4 (some .int) ∈ BT := bt_of (in_t4 (List.mem_of_getElem? (i := 135) rfl)) rfl
theorem vl_X8_111 (M : Mth) (h : mO M = RX8) : VLk M mX8_reads 111 8 0 := ⟨by rw [h]; exact bt546, bt547, bt548, bt527, bt549, ⟨by decide +kernel, by decide +kernel⟩, by decide +kernel, by decide, TX8, 30, rfl⟩
theorem bt550 : Cond.methodLink RX8 115 yX8_faultNow ∈ BT := bt_of (in_t4 (List.mem_of_getElem? (i := 128) rfl)) rfl
theorem bt551 : Cond.instanceMethod yX8_faultNow ∈ BT := bt_of (in_t4 (List.mem_of_getElem? (i := 130) rfl)) rfl
theorem bt552 : Cond.selects RX8 yX8_faultNow yX8_faultNow ∈ BT := bt_of (in_s2 (n := 30) (List.mem_of_getElem? (i := 9) rfl)) rfl
theorem bt553 : Cond.code yX8_faultNow cX8_faultNow 3 (some .int) ∈ BT := bt_of (in_t4 (List.mem_of_getElem? (i := 131) rfl)) rfl
theorem vl_X8_115 (M : Mth) (h : mO M = RX8) : VLk M mX8_faultNow 115 8 0 := ⟨by rw [h]; exact bt550, bt551, bt552, bt527, bt553, ⟨by decide +kernel, by decide +kernel⟩, by decide +kernel, by decide, TX8, 30, rfl⟩
theorem bt554 : Cond.fieldLink RX8 22 "TurningVillageModel" "suns" "[I" ∈ BT := bt_of (in_t4 (List.mem_of_getElem? (i := 27) rfl)) rfl
theorem fl_X8_22 : FLk RX8 22 8 6 := ⟨RX8, TX8, 30, rfl, by decide, bt554, iB_X8⟩
theorem bt555 : Cond.methodLink RX8 118 yX8_isEighth ∈ BT := bt_of (in_t4 (List.mem_of_getElem? (i := 151) rfl)) rfl
theorem bt556 : Cond.static yX8_isEighth ∈ BT := bt_of (in_t4 (List.mem_of_getElem? (i := 152) rfl)) rfl
theorem bt557 : Cond.code yX8_isEighth cX8_isEighth 1 (some .boolean) ∈ BT := bt_of (in_t4 (List.mem_of_getElem? (i := 153) rfl)) rfl
theorem sl_X8_118 (M : Mth) (h : mO M = RX8) : SLk M mX8_isEighth 118 1 := ⟨by rw [h]; exact bt555, bt556, bt527, bt557, ⟨by decide +kernel, by decide +kernel⟩, by decide +kernel, by decide⟩
theorem bt558 : Cond.methodLink RX8 122 yX8_placeOf ∈ BT := bt_of (in_t4 (List.mem_of_getElem? (i := 154) rfl)) rfl
theorem bt559 : Cond.instanceMethod yX8_placeOf ∈ BT := bt_of (in_t4 (List.mem_of_getElem? (i := 156) rfl)) rfl
theorem bt560 : Cond.selects RX8 yX8_placeOf yX8_placeOf ∈ BT := bt_of (in_s2 (n := 30) (List.mem_of_getElem? (i := 13) rfl)) rfl
theorem bt561 : Cond.code yX8_placeOf cX8_placeOf 4 (some .int) ∈ BT := bt_of (in_t4 (List.mem_of_getElem? (i := 157) rfl)) rfl
theorem vl_X8_122 (M : Mth) (h : mO M = RX8) : VLk M mX8_placeOf 122 8 2 := ⟨by rw [h]; exact bt558, bt559, bt560, bt527, bt561, ⟨by decide +kernel, by decide +kernel⟩, by decide +kernel, by decide, TX8, 30, rfl⟩
theorem bt562 : Cond.fieldLink RX8 126 "TurningVillageModel" "lastTime" "I" ∈ BT := bt_of (in_t4 (List.mem_of_getElem? (i := 33) rfl)) rfl
theorem fl_X8_126 : FLk RX8 126 8 12 := ⟨RX8, TX8, 30, rfl, by decide, bt562, iB_X8⟩
theorem bt563 : Cond.fieldLink RX8 129 "TurningVillageModel" "gales" "I" ∈ BT := bt_of (in_t4 (List.mem_of_getElem? (i := 28) rfl)) rfl
theorem fl_X8_129 : FLk RX8 129 8 7 := ⟨RX8, TX8, 30, rfl, by decide, bt563, iB_X8⟩
theorem bt564 : Cond.fieldLink RX8 25 "TurningVillageModel" "galeDay" "[I" ∈ BT := bt_of (in_t4 (List.mem_of_getElem? (i := 29) rfl)) rfl
theorem fl_X8_25 : FLk RX8 25 8 8 := ⟨RX8, TX8, 30, rfl, by decide, bt564, iB_X8⟩
theorem bt565 : Cond.fieldLink RX8 28 "TurningVillageModel" "galeFrom" "[I" ∈ BT := bt_of (in_t4 (List.mem_of_getElem? (i := 30) rfl)) rfl
theorem fl_X8_28 : FLk RX8 28 8 9 := ⟨RX8, TX8, 30, rfl, by decide, bt565, iB_X8⟩
theorem bt566 : Cond.fieldLink RX8 31 "TurningVillageModel" "galeTime" "[I" ∈ BT := bt_of (in_t4 (List.mem_of_getElem? (i := 31) rfl)) rfl
theorem fl_X8_31 : FLk RX8 31 8 10 := ⟨RX8, TX8, 30, rfl, by decide, bt566, iB_X8⟩
theorem bt567 : Cond.fieldLink RX8 34 "TurningVillageModel" "galeBack" "[I" ∈ BT := bt_of (in_t4 (List.mem_of_getElem? (i := 32) rfl)) rfl
theorem fl_X8_34 : FLk RX8 34 8 11 := ⟨RX8, TX8, 30, rfl, by decide, bt567, iB_X8⟩
theorem fp_X8_126 : FPk RX8 126 8 12 .int := ⟨RX8, TX8, 30, tyX8, rfl, by decide, bt562, iB_X8, tyX8_ok, nmX8, rfl, by decide +kernel⟩
theorem fp_X8_129 : FPk RX8 129 8 7 .int := ⟨RX8, TX8, 30, tyX8, rfl, by decide, bt563, iB_X8, tyX8_ok, nmX8, rfl, by decide +kernel⟩
theorem bt568 : Cond.methodLink RX8 132 yX8_galeMore ∈ BT := bt_of (in_t4 (List.mem_of_getElem? (i := 166) rfl)) rfl
theorem bt569 : Cond.instanceMethod yX8_galeMore ∈ BT := bt_of (in_t4 (List.mem_of_getElem? (i := 168) rfl)) rfl
theorem bt570 : Cond.selects RX8 yX8_galeMore yX8_galeMore ∈ BT := bt_of (in_s2 (n := 30) (List.mem_of_getElem? (i := 14) rfl)) rfl
theorem bt571 : Cond.code yX8_galeMore cX8_galeMore 4 (some .int) ∈ BT := bt_of (in_t4 (List.mem_of_getElem? (i := 169) rfl)) rfl
theorem vl_X8_132 (M : Mth) (h : mO M = RX8) : VLk M mX8_galeMore 132 8 3 := ⟨by rw [h]; exact bt568, bt569, bt570, bt527, bt571, ⟨by decide +kernel, by decide +kernel⟩, by decide +kernel, by decide, TX8, 30, rfl⟩
theorem bt572 : Cond.methodLink RX8 136 yX8_isSheet ∈ BT := bt_of (in_t4 (List.mem_of_getElem? (i := 174) rfl)) rfl
theorem bt573 : Cond.static yX8_isSheet ∈ BT := bt_of (in_t4 (List.mem_of_getElem? (i := 175) rfl)) rfl
theorem bt574 : Cond.code yX8_isSheet cX8_isSheet 1 (some .boolean) ∈ BT := bt_of (in_t4 (List.mem_of_getElem? (i := 176) rfl)) rfl
theorem sl_X8_136 (M : Mth) (h : mO M = RX8) : SLk M mX8_isSheet 136 1 := ⟨by rw [h]; exact bt572, bt573, bt527, bt574, ⟨by decide +kernel, by decide +kernel⟩, by decide +kernel, by decide⟩
theorem bt575 : Cond.fieldLink RX8 71 "TurningVillageModel" "isThere" "[Z" ∈ BT := bt_of (in_t4 (List.mem_of_getElem? (i := 45) rfl)) rfl
theorem fl_X8_71 : FLk RX8 71 8 24 := ⟨RX8, TX8, 30, rfl, by decide, bt575, iB_X8⟩
theorem bt576 : Cond.methodLink RX8 139 yX8_meets ∈ BT := bt_of (in_t4 (List.mem_of_getElem? (i := 177) rfl)) rfl
theorem bt577 : Cond.instanceMethod yX8_meets ∈ BT := bt_of (in_t4 (List.mem_of_getElem? (i := 179) rfl)) rfl
theorem bt578 : Cond.selects RX8 yX8_meets yX8_meets ∈ BT := bt_of (in_s2 (n := 30) (List.mem_of_getElem? (i := 15) rfl)) rfl
theorem bt579 : Cond.code yX8_meets cX8_meets 2 (some .int) ∈ BT := bt_of (in_t4 (List.mem_of_getElem? (i := 180) rfl)) rfl
theorem vl_X8_139 (M : Mth) (h : mO M = RX8) : VLk M mX8_meets 139 8 1 := ⟨by rw [h]; exact bt576, bt577, bt578, bt527, bt579, ⟨by decide +kernel, by decide +kernel⟩, by decide +kernel, by decide, TX8, 30, rfl⟩
theorem bt580 : Cond.fieldLink RX8 78 "TurningVillageModel" "sizes" "[I" ∈ BT := bt_of (in_t4 (List.mem_of_getElem? (i := 47) rfl)) rfl
theorem fl_X8_78 : FLk RX8 78 8 26 := ⟨RX8, TX8, 30, rfl, by decide, bt580, iB_X8⟩
theorem bt581 : Cond.fieldLink RX8 81 "TurningVillageModel" "items" "[I" ∈ BT := bt_of (in_t4 (List.mem_of_getElem? (i := 48) rfl)) rfl
theorem fl_X8_81 : FLk RX8 81 8 27 := ⟨RX8, TX8, 30, rfl, by decide, bt581, iB_X8⟩
theorem bt582 : Cond.fieldLink RX8 37 "TurningVillageModel" "setting" "[I" ∈ BT := bt_of (in_t4 (List.mem_of_getElem? (i := 34) rfl)) rfl
theorem fl_X8_37 : FLk RX8 37 8 13 := ⟨RX8, TX8, 30, rfl, by decide, bt582, iB_X8⟩
theorem bt583 : Cond.fieldLink RX8 40 "TurningVillageModel" "turns" "[I" ∈ BT := bt_of (in_t4 (List.mem_of_getElem? (i := 35) rfl)) rfl
theorem fl_X8_40 : FLk RX8 40 8 14 := ⟨RX8, TX8, 30, rfl, by decide, bt583, iB_X8⟩
theorem bt584 : Cond.methodLink RX8 142 yX8_doesCount ∈ BT := bt_of (in_t4 (List.mem_of_getElem? (i := 204) rfl)) rfl
theorem bt585 : Cond.instanceMethod yX8_doesCount ∈ BT := bt_of (in_t4 (List.mem_of_getElem? (i := 206) rfl)) rfl
theorem bt586 : Cond.selects RX8 yX8_doesCount yX8_doesCount ∈ BT := bt_of (in_s3 (n := 30) (List.mem_of_getElem? (i := 2) rfl)) rfl
theorem bt587 : Cond.code yX8_doesCount cX8_doesCount 2 (some .boolean) ∈ BT := bt_of (in_t4 (List.mem_of_getElem? (i := 207) rfl)) rfl
theorem vl_X8_142 (M : Mth) (h : mO M = RX8) : VLk M mX8_doesCount 142 8 1 := ⟨by rw [h]; exact bt584, bt585, bt586, bt527, bt587, ⟨by decide +kernel, by decide +kernel⟩, by decide +kernel, by decide, TX8, 30, rfl⟩
theorem bt588 : Cond.methodLink RX8 145 yX8_lays ∈ BT := bt_of (in_t4 (List.mem_of_getElem? (i := 200) rfl)) rfl
theorem bt589 : Cond.instanceMethod yX8_lays ∈ BT := bt_of (in_t4 (List.mem_of_getElem? (i := 202) rfl)) rfl
theorem bt590 : Cond.selects RX8 yX8_lays yX8_lays ∈ BT := bt_of (in_s3 (n := 30) (List.mem_of_getElem? (i := 1) rfl)) rfl
theorem bt591 : Cond.code yX8_lays cX8_lays 4 none ∈ BT := bt_of (in_t4 (List.mem_of_getElem? (i := 203) rfl)) rfl
theorem vl_X8_145 (M : Mth) (h : mO M = RX8) : VLk M mX8_lays 145 8 0 := ⟨by rw [h]; exact bt588, bt589, bt590, bt527, bt591, ⟨by decide +kernel, by decide +kernel⟩, by decide +kernel, by decide, TX8, 30, rfl⟩
theorem bt592 : Cond.methodLink RX8 148 yX8_isDay ∈ BT := bt_of (in_t4 (List.mem_of_getElem? (i := 193) rfl)) rfl
theorem bt593 : Cond.static yX8_isDay ∈ BT := bt_of (in_t4 (List.mem_of_getElem? (i := 194) rfl)) rfl
theorem bt594 : Cond.code yX8_isDay cX8_isDay 1 (some .boolean) ∈ BT := bt_of (in_t4 (List.mem_of_getElem? (i := 195) rfl)) rfl
theorem sl_X8_148 (M : Mth) (h : mO M = RX8) : SLk M mX8_isDay 148 1 := ⟨by rw [h]; exact bt592, bt593, bt527, bt594, ⟨by decide +kernel, by decide +kernel⟩, by decide +kernel, by decide⟩
theorem bt595 : Cond.methodLink RX8 151 yX8_turnOf ∈ BT := bt_of (in_t4 (List.mem_of_getElem? (i := 196) rfl)) rfl
theorem bt596 : Cond.instanceMethod yX8_turnOf ∈ BT := bt_of (in_t4 (List.mem_of_getElem? (i := 198) rfl)) rfl
theorem bt597 : Cond.selects RX8 yX8_turnOf yX8_turnOf ∈ BT := bt_of (in_s3 (n := 30) (List.mem_of_getElem? (i := 0) rfl)) rfl
theorem bt598 : Cond.code yX8_turnOf cX8_turnOf 2 (some .int) ∈ BT := bt_of (in_t4 (List.mem_of_getElem? (i := 199) rfl)) rfl
theorem vl_X8_151 (M : Mth) (h : mO M = RX8) : VLk M mX8_turnOf 151 8 1 := ⟨by rw [h]; exact bt595, bt596, bt597, bt527, bt598, ⟨by decide +kernel, by decide +kernel⟩, by decide +kernel, by decide, TX8, 30, rfl⟩
theorem bt599 : Cond.methodLink RX8 154 yX8_isOver ∈ BT := bt_of (in_t4 (List.mem_of_getElem? (i := 212) rfl)) rfl
theorem bt600 : Cond.instanceMethod yX8_isOver ∈ BT := bt_of (in_t4 (List.mem_of_getElem? (i := 214) rfl)) rfl
theorem bt601 : Cond.selects RX8 yX8_isOver yX8_isOver ∈ BT := bt_of (in_s3 (n := 30) (List.mem_of_getElem? (i := 3) rfl)) rfl
theorem bt602 : Cond.code yX8_isOver cX8_isOver 7 (some .boolean) ∈ BT := bt_of (in_t4 (List.mem_of_getElem? (i := 215) rfl)) rfl
theorem vl_X8_154 (M : Mth) (h : mO M = RX8) : VLk M mX8_isOver 154 8 3 := ⟨by rw [h]; exact bt599, bt600, bt601, bt527, bt602, ⟨by decide +kernel, by decide +kernel⟩, by decide +kernel, by decide, TX8, 30, rfl⟩
theorem bt603 : Cond.methodLink RX8 157 yX8_doorAt ∈ BT := bt_of (in_t4 (List.mem_of_getElem? (i := 224) rfl)) rfl
theorem bt604 : Cond.instanceMethod yX8_doorAt ∈ BT := bt_of (in_t4 (List.mem_of_getElem? (i := 226) rfl)) rfl
theorem bt605 : Cond.selects RX8 yX8_doorAt yX8_doorAt ∈ BT := bt_of (in_s3 (n := 30) (List.mem_of_getElem? (i := 5) rfl)) rfl
theorem bt606 : Cond.code yX8_doorAt cX8_doorAt 3 (some .int) ∈ BT := bt_of (in_t4 (List.mem_of_getElem? (i := 227) rfl)) rfl
theorem vl_X8_157 (M : Mth) (h : mO M = RX8) : VLk M mX8_doorAt 157 8 2 := ⟨by rw [h]; exact bt603, bt604, bt605, bt527, bt606, ⟨by decide +kernel, by decide +kernel⟩, by decide +kernel, by decide, TX8, 30, rfl⟩
theorem bt607 : Cond.methodLink RX8 160 yX8_doorOf ∈ BT := bt_of (in_t4 (List.mem_of_getElem? (i := 220) rfl)) rfl
theorem bt608 : Cond.instanceMethod yX8_doorOf ∈ BT := bt_of (in_t4 (List.mem_of_getElem? (i := 222) rfl)) rfl
theorem bt609 : Cond.selects RX8 yX8_doorOf yX8_doorOf ∈ BT := bt_of (in_s3 (n := 30) (List.mem_of_getElem? (i := 4) rfl)) rfl
theorem bt610 : Cond.code yX8_doorOf cX8_doorOf 5 (some .int) ∈ BT := bt_of (in_t4 (List.mem_of_getElem? (i := 223) rfl)) rfl
theorem vl_X8_160 (M : Mth) (h : mO M = RX8) : VLk M mX8_doorOf 160 8 3 := ⟨by rw [h]; exact bt607, bt608, bt609, bt527, bt610, ⟨by decide +kernel, by decide +kernel⟩, by decide +kernel, by decide, TX8, 30, rfl⟩
theorem bt611 : Cond.methodLink RX8 163 yX8_isThing ∈ BT := bt_of (in_t4 (List.mem_of_getElem? (i := 232) rfl)) rfl
theorem bt612 : Cond.static yX8_isThing ∈ BT := bt_of (in_t4 (List.mem_of_getElem? (i := 233) rfl)) rfl
theorem bt613 : Cond.code yX8_isThing cX8_isThing 1 (some .boolean) ∈ BT := bt_of (in_t4 (List.mem_of_getElem? (i := 234) rfl)) rfl
theorem sl_X8_163 (M : Mth) (h : mO M = RX8) : SLk M mX8_isThing 163 1 := ⟨by rw [h]; exact bt611, bt612, bt527, bt613, ⟨by decide +kernel, by decide +kernel⟩, by decide +kernel, by decide⟩
theorem bt614 : Cond.methodLink RX8 166 yX8_isSpan ∈ BT := bt_of (in_t4 (List.mem_of_getElem? (i := 235) rfl)) rfl
theorem bt615 : Cond.static yX8_isSpan ∈ BT := bt_of (in_t4 (List.mem_of_getElem? (i := 236) rfl)) rfl
theorem bt616 : Cond.code yX8_isSpan cX8_isSpan 2 (some .boolean) ∈ BT := bt_of (in_t4 (List.mem_of_getElem? (i := 237) rfl)) rfl
theorem sl_X8_166 (M : Mth) (h : mO M = RX8) : SLk M mX8_isSpan 166 2 := ⟨by rw [h]; exact bt614, bt615, bt527, bt616, ⟨by decide +kernel, by decide +kernel⟩, by decide +kernel, by decide⟩
theorem bt617 : Cond.methodLink RX8 169 yX8_no ∈ BT := bt_of (in_t4 (List.mem_of_getElem? (i := 238) rfl)) rfl
theorem bt618 : Cond.static yX8_no ∈ BT := bt_of (in_t4 (List.mem_of_getElem? (i := 239) rfl)) rfl
theorem bt619 : Cond.code yX8_no cX8_no 1 (some .long) ∈ BT := bt_of (in_t5 (List.mem_of_getElem? (i := 0) rfl)) rfl
theorem sl_X8_169 (M : Mth) (h : mO M = RX8) : SLk M mX8_no 169 1 := ⟨by rw [h]; exact bt617, bt618, bt527, bt619, ⟨by decide +kernel, by decide +kernel⟩, by decide +kernel, by decide⟩
theorem bt620 : Cond.methodLink RX8 173 yX8_daysOf ∈ BT := bt_of (in_t5 (List.mem_of_getElem? (i := 2) rfl)) rfl
theorem bt621 : Cond.instanceMethod yX8_daysOf ∈ BT := bt_of (in_t5 (List.mem_of_getElem? (i := 4) rfl)) rfl
theorem bt622 : Cond.selects RX8 yX8_daysOf yX8_daysOf ∈ BT := bt_of (in_s3 (n := 30) (List.mem_of_getElem? (i := 6) rfl)) rfl
theorem bt623 : Cond.code yX8_daysOf cX8_daysOf 7 (some .int) ∈ BT := bt_of (in_t5 (List.mem_of_getElem? (i := 5) rfl)) rfl
theorem vl_X8_173 (M : Mth) (h : mO M = RX8) : VLk M mX8_daysOf 173 8 4 := ⟨by rw [h]; exact bt620, bt621, bt622, bt527, bt623, ⟨by decide +kernel, by decide +kernel⟩, by decide +kernel, by decide, TX8, 30, rfl⟩
theorem bt624 : Cond.methodLink RX8 177 yX8_lowest ∈ BT := bt_of (in_t5 (List.mem_of_getElem? (i := 6) rfl)) rfl
theorem bt625 : Cond.static yX8_lowest ∈ BT := bt_of (in_t5 (List.mem_of_getElem? (i := 7) rfl)) rfl
theorem bt626 : Cond.code yX8_lowest cX8_lowest 11 (some .long) ∈ BT := bt_of (in_t5 (List.mem_of_getElem? (i := 8) rfl)) rfl
theorem sl_X8_177 (M : Mth) (h : mO M = RX8) : SLk M mX8_lowest 177 3 := ⟨by rw [h]; exact bt624, bt625, bt527, bt626, ⟨by decide +kernel, by decide +kernel⟩, by decide +kernel, by decide⟩
theorem bt627 : Cond.methodLink RX8 181 yX8_shineOf ∈ BT := bt_of (in_t5 (List.mem_of_getElem? (i := 13) rfl)) rfl
theorem bt628 : Cond.instanceMethod yX8_shineOf ∈ BT := bt_of (in_t5 (List.mem_of_getElem? (i := 15) rfl)) rfl
theorem bt629 : Cond.selects RX8 yX8_shineOf yX8_shineOf ∈ BT := bt_of (in_s3 (n := 30) (List.mem_of_getElem? (i := 7) rfl)) rfl
theorem bt630 : Cond.code yX8_shineOf cX8_shineOf 6 (some .int) ∈ BT := bt_of (in_t5 (List.mem_of_getElem? (i := 16) rfl)) rfl
theorem vl_X8_181 (M : Mth) (h : mO M = RX8) : VLk M mX8_shineOf 181 8 3 := ⟨by rw [h]; exact bt627, bt628, bt629, bt527, bt630, ⟨by decide +kernel, by decide +kernel⟩, by decide +kernel, by decide, TX8, 30, rfl⟩
theorem bt631 : Cond.methodLink RX8 184 yX8_aheadOf ∈ BT := bt_of (in_t5 (List.mem_of_getElem? (i := 21) rfl)) rfl
theorem bt632 : Cond.instanceMethod yX8_aheadOf ∈ BT := bt_of (in_t5 (List.mem_of_getElem? (i := 23) rfl)) rfl
theorem bt633 : Cond.selects RX8 yX8_aheadOf yX8_aheadOf ∈ BT := bt_of (in_s3 (n := 30) (List.mem_of_getElem? (i := 8) rfl)) rfl
theorem bt634 : Cond.code yX8_aheadOf cX8_aheadOf 9 (some .int) ∈ BT := bt_of (in_t5 (List.mem_of_getElem? (i := 24) rfl)) rfl
theorem vl_X8_184 (M : Mth) (h : mO M = RX8) : VLk M mX8_aheadOf 184 8 4 := ⟨by rw [h]; exact bt631, bt632, bt633, bt527, bt634, ⟨by decide +kernel, by decide +kernel⟩, by decide +kernel, by decide, TX8, 30, rfl⟩
theorem bt635 : Cond.methodLink RX8 187 yX8_works ∈ BT := bt_of (in_t5 (List.mem_of_getElem? (i := 29) rfl)) rfl
theorem bt636 : Cond.instanceMethod yX8_works ∈ BT := bt_of (in_t5 (List.mem_of_getElem? (i := 31) rfl)) rfl
theorem bt637 : Cond.selects RX8 yX8_works yX8_works ∈ BT := bt_of (in_s3 (n := 30) (List.mem_of_getElem? (i := 9) rfl)) rfl
theorem bt638 : Cond.code yX8_works cX8_works 5 (some .boolean) ∈ BT := bt_of (in_t5 (List.mem_of_getElem? (i := 32) rfl)) rfl
theorem vl_X8_187 (M : Mth) (h : mO M = RX8) : VLk M mX8_works 187 8 4 := ⟨by rw [h]; exact bt635, bt636, bt637, bt527, bt638, ⟨by decide +kernel, by decide +kernel⟩, by decide +kernel, by decide, TX8, 30, rfl⟩
theorem bt639 : Cond.fieldLink RX8 43 "TurningVillageModel" "chance" "[J" ∈ BT := bt_of (in_t4 (List.mem_of_getElem? (i := 36) rfl)) rfl
theorem fl_X8_43 : FLk RX8 43 8 15 := ⟨RX8, TX8, 30, rfl, by decide, bt639, iB_X8⟩
theorem bt640 : Cond.constantLong RX8 191 (16) ∈ BT := bt_of (in_t5 (List.mem_of_getElem? (i := 37) rfl)) rfl
theorem bt641 : Cond.fieldLink RX8 47 "TurningVillageModel" "steps" "[I" ∈ BT := bt_of (in_t4 (List.mem_of_getElem? (i := 37) rfl)) rfl
theorem fl_X8_47 : FLk RX8 47 8 16 := ⟨RX8, TX8, 30, rfl, by decide, bt641, iB_X8⟩
theorem bt642 : Cond.constant RX8 193 (100000) ∈ BT := bt_of (in_t5 (List.mem_of_getElem? (i := 50) rfl)) rfl
theorem bt643 : Cond.methodLink RX8 194 yX8_isStep ∈ BT := bt_of (in_t5 (List.mem_of_getElem? (i := 55) rfl)) rfl
theorem bt644 : Cond.instanceMethod yX8_isStep ∈ BT := bt_of (in_t5 (List.mem_of_getElem? (i := 57) rfl)) rfl
theorem bt645 : Cond.selects RX8 yX8_isStep yX8_isStep ∈ BT := bt_of (in_s3 (n := 30) (List.mem_of_getElem? (i := 13) rfl)) rfl
theorem bt646 : Cond.code yX8_isStep cX8_isStep 6 (some .boolean) ∈ BT := bt_of (in_t5 (List.mem_of_getElem? (i := 58) rfl)) rfl
theorem vl_X8_194 (M : Mth) (h : mO M = RX8) : VLk M mX8_isStep 194 8 3 := ⟨by rw [h]; exact bt643, bt644, bt645, bt527, bt646, ⟨by decide +kernel, by decide +kernel⟩, by decide +kernel, by decide, TX8, 30, rfl⟩
theorem bt647 : Cond.fieldLink RX8 50 "TurningVillageModel" "then" "[I" ∈ BT := bt_of (in_t4 (List.mem_of_getElem? (i := 38) rfl)) rfl
theorem fl_X8_50 : FLk RX8 50 8 17 := ⟨RX8, TX8, 30, rfl, by decide, bt647, iB_X8⟩
theorem bt648 : Cond.methodLink RX8 197 yX8_begins ∈ BT := bt_of (in_t5 (List.mem_of_getElem? (i := 46) rfl)) rfl
theorem bt649 : Cond.instanceMethod yX8_begins ∈ BT := bt_of (in_t5 (List.mem_of_getElem? (i := 48) rfl)) rfl
theorem bt650 : Cond.selects RX8 yX8_begins yX8_begins ∈ BT := bt_of (in_s3 (n := 30) (List.mem_of_getElem? (i := 11) rfl)) rfl
theorem bt651 : Cond.code yX8_begins cX8_begins 4 none ∈ BT := bt_of (in_t5 (List.mem_of_getElem? (i := 49) rfl)) rfl
theorem vl_X8_197 (M : Mth) (h : mO M = RX8) : VLk M mX8_begins 197 8 2 := ⟨by rw [h]; exact bt648, bt649, bt650, bt527, bt651, ⟨by decide +kernel, by decide +kernel⟩, by decide +kernel, by decide, TX8, 30, rfl⟩
theorem bt652 : Cond.methodLink RX8 201 yX8_goes ∈ BT := bt_of (in_t5 (List.mem_of_getElem? (i := 51) rfl)) rfl
theorem bt653 : Cond.instanceMethod yX8_goes ∈ BT := bt_of (in_t5 (List.mem_of_getElem? (i := 53) rfl)) rfl
theorem bt654 : Cond.selects RX8 yX8_goes yX8_goes ∈ BT := bt_of (in_s3 (n := 30) (List.mem_of_getElem? (i := 12) rfl)) rfl
theorem bt655 : Cond.code yX8_goes cX8_goes 7 none ∈ BT := bt_of (in_t5 (List.mem_of_getElem? (i := 54) rfl)) rfl
theorem vl_X8_201 (M : Mth) (h : mO M = RX8) : VLk M mX8_goes 201 8 2 := ⟨by rw [h]; exact bt652, bt653, bt654, bt527, bt655, ⟨by decide +kernel, by decide +kernel⟩, by decide +kernel, by decide, TX8, 30, rfl⟩
theorem bt656 : Cond.methodLink RX8 204 yX8_soonOf ∈ BT := bt_of (in_t5 (List.mem_of_getElem? (i := 42) rfl)) rfl
theorem bt657 : Cond.instanceMethod yX8_soonOf ∈ BT := bt_of (in_t5 (List.mem_of_getElem? (i := 44) rfl)) rfl
theorem bt658 : Cond.selects RX8 yX8_soonOf yX8_soonOf ∈ BT := bt_of (in_s3 (n := 30) (List.mem_of_getElem? (i := 10) rfl)) rfl
theorem bt659 : Cond.code yX8_soonOf cX8_soonOf 6 (some .int) ∈ BT := bt_of (in_t5 (List.mem_of_getElem? (i := 45) rfl)) rfl
theorem vl_X8_204 (M : Mth) (h : mO M = RX8) : VLk M mX8_soonOf 204 8 4 := ⟨by rw [h]; exact bt656, bt657, bt658, bt527, bt659, ⟨by decide +kernel, by decide +kernel⟩, by decide +kernel, by decide, TX8, 30, rfl⟩
theorem bt660 : Cond.methodLink RX8 207 yX8_meetOf ∈ BT := bt_of (in_t5 (List.mem_of_getElem? (i := 67) rfl)) rfl
theorem bt661 : Cond.instanceMethod yX8_meetOf ∈ BT := bt_of (in_t5 (List.mem_of_getElem? (i := 69) rfl)) rfl
theorem bt662 : Cond.selects RX8 yX8_meetOf yX8_meetOf ∈ BT := bt_of (in_s3 (n := 30) (List.mem_of_getElem? (i := 14) rfl)) rfl
theorem bt663 : Cond.code yX8_meetOf cX8_meetOf 7 (some .int) ∈ BT := bt_of (in_t5 (List.mem_of_getElem? (i := 70) rfl)) rfl
theorem vl_X8_207 (M : Mth) (h : mO M = RX8) : VLk M mX8_meetOf 207 8 4 := ⟨by rw [h]; exact bt660, bt661, bt662, bt527, bt663, ⟨by decide +kernel, by decide +kernel⟩, by decide +kernel, by decide, TX8, 30, rfl⟩
theorem bt664 : Cond.fieldLink RX8 53 "TurningVillageModel" "wishes" "[I" ∈ BT := bt_of (in_t4 (List.mem_of_getElem? (i := 39) rfl)) rfl
theorem fl_X8_53 : FLk RX8 53 8 18 := ⟨RX8, TX8, 30, rfl, by decide, bt664, iB_X8⟩
theorem bt665 : Cond.fieldLink RX8 56 "TurningVillageModel" "lives" "[I" ∈ BT := bt_of (in_t4 (List.mem_of_getElem? (i := 40) rfl)) rfl
theorem fl_X8_56 : FLk RX8 56 8 19 := ⟨RX8, TX8, 30, rfl, by decide, bt665, iB_X8⟩
theorem bt666 : Cond.fieldLink RX8 59 "TurningVillageModel" "joys" "[I" ∈ BT := bt_of (in_t4 (List.mem_of_getElem? (i := 41) rfl)) rfl
theorem fl_X8_59 : FLk RX8 59 8 20 := ⟨RX8, TX8, 30, rfl, by decide, bt666, iB_X8⟩
theorem bt667 : Cond.methodLink RX8 210 yX8_laysJoy ∈ BT := bt_of (in_t5 (List.mem_of_getElem? (i := 83) rfl)) rfl
theorem bt668 : Cond.instanceMethod yX8_laysJoy ∈ BT := bt_of (in_t5 (List.mem_of_getElem? (i := 85) rfl)) rfl
theorem bt669 : Cond.selects RX8 yX8_laysJoy yX8_laysJoy ∈ BT := bt_of (in_s3 (n := 30) (List.mem_of_getElem? (i := 15) rfl)) rfl
theorem bt670 : Cond.code yX8_laysJoy cX8_laysJoy 7 none ∈ BT := bt_of (in_t5 (List.mem_of_getElem? (i := 86) rfl)) rfl
theorem vl_X8_210 (M : Mth) (h : mO M = RX8) : VLk M mX8_laysJoy 210 8 2 := ⟨by rw [h]; exact bt667, bt668, bt669, bt527, bt670, ⟨by decide +kernel, by decide +kernel⟩, by decide +kernel, by decide, TX8, 30, rfl⟩
theorem bt671 : Cond.methodLink RX8 213 yX8_ones ∈ BT := bt_of (in_t5 (List.mem_of_getElem? (i := 99) rfl)) rfl
theorem bt672 : Cond.static yX8_ones ∈ BT := bt_of (in_t5 (List.mem_of_getElem? (i := 100) rfl)) rfl
theorem bt673 : Cond.code yX8_ones cX8_ones 3 (some .int) ∈ BT := bt_of (in_t5 (List.mem_of_getElem? (i := 101) rfl)) rfl
theorem sl_X8_213 (M : Mth) (h : mO M = RX8) : SLk M mX8_ones 213 1 := ⟨by rw [h]; exact bt671, bt672, bt527, bt673, ⟨by decide +kernel, by decide +kernel⟩, by decide +kernel, by decide⟩
theorem bt674 : Cond.methodLink RX8 216 yX8_isIn ∈ BT := bt_of (in_t5 (List.mem_of_getElem? (i := 102) rfl)) rfl
theorem bt675 : Cond.static yX8_isIn ∈ BT := bt_of (in_t5 (List.mem_of_getElem? (i := 103) rfl)) rfl
theorem bt676 : Cond.code yX8_isIn cX8_isIn 2 (some .boolean) ∈ BT := bt_of (in_t5 (List.mem_of_getElem? (i := 104) rfl)) rfl
theorem sl_X8_216 (M : Mth) (h : mO M = RX8) : SLk M mX8_isIn 216 2 := ⟨by rw [h]; exact bt674, bt675, bt527, bt676, ⟨by decide +kernel, by decide +kernel⟩, by decide +kernel, by decide⟩
theorem bt677 : Cond.fieldLink RX8 62 "TurningVillageModel" "mostBehind" "[I" ∈ BT := bt_of (in_t4 (List.mem_of_getElem? (i := 42) rfl)) rfl
theorem fl_X8_62 : FLk RX8 62 8 21 := ⟨RX8, TX8, 30, rfl, by decide, bt677, iB_X8⟩
theorem bt678 : Cond.methodLink RX8 219 yX8_bestOf ∈ BT := bt_of (in_t5 (List.mem_of_getElem? (i := 95) rfl)) rfl
theorem bt679 : Cond.instanceMethod yX8_bestOf ∈ BT := bt_of (in_t5 (List.mem_of_getElem? (i := 97) rfl)) rfl
theorem bt680 : Cond.selects RX8 yX8_bestOf yX8_bestOf ∈ BT := bt_of (in_s4 (n := 30) (List.mem_of_getElem? (i := 0) rfl)) rfl
theorem bt681 : Cond.code yX8_bestOf cX8_bestOf 9 (some .int) ∈ BT := bt_of (in_t5 (List.mem_of_getElem? (i := 98) rfl)) rfl
theorem vl_X8_219 (M : Mth) (h : mO M = RX8) : VLk M mX8_bestOf 219 8 3 := ⟨by rw [h]; exact bt678, bt679, bt680, bt527, bt681, ⟨by decide +kernel, by decide +kernel⟩, by decide +kernel, by decide, TX8, 30, rfl⟩
theorem bt682 : Cond.methodLink RX8 222 yX8_envyOf ∈ BT := bt_of (in_t5 (List.mem_of_getElem? (i := 109) rfl)) rfl
theorem bt683 : Cond.instanceMethod yX8_envyOf ∈ BT := bt_of (in_t5 (List.mem_of_getElem? (i := 111) rfl)) rfl
theorem bt684 : Cond.selects RX8 yX8_envyOf yX8_envyOf ∈ BT := bt_of (in_s4 (n := 30) (List.mem_of_getElem? (i := 1) rfl)) rfl
theorem bt685 : Cond.code yX8_envyOf cX8_envyOf 7 (some .int) ∈ BT := bt_of (in_t5 (List.mem_of_getElem? (i := 112) rfl)) rfl
theorem vl_X8_222 (M : Mth) (h : mO M = RX8) : VLk M mX8_envyOf 222 8 2 := ⟨by rw [h]; exact bt682, bt683, bt684, bt527, bt685, ⟨by decide +kernel, by decide +kernel⟩, by decide +kernel, by decide, TX8, 30, rfl⟩
theorem bt686 : Cond.fieldLink RX8 65 "TurningVillageModel" "reaped" "[I" ∈ BT := bt_of (in_t4 (List.mem_of_getElem? (i := 43) rfl)) rfl
theorem fl_X8_65 : FLk RX8 65 8 22 := ⟨RX8, TX8, 30, rfl, by decide, bt686, iB_X8⟩
theorem bt687 : Cond.fieldLink RX8 68 "TurningVillageModel" "fields" "[I" ∈ BT := bt_of (in_t4 (List.mem_of_getElem? (i := 44) rfl)) rfl
theorem fl_X8_68 : FLk RX8 68 8 23 := ⟨RX8, TX8, 30, rfl, by decide, bt687, iB_X8⟩
theorem bt688 : Cond.methodLink RX8 225 yX8_historyOf ∈ BT := bt_of (in_t5 (List.mem_of_getElem? (i := 121) rfl)) rfl
theorem bt689 : Cond.instanceMethod yX8_historyOf ∈ BT := bt_of (in_t5 (List.mem_of_getElem? (i := 123) rfl)) rfl
theorem bt690 : Cond.selects RX8 yX8_historyOf yX8_historyOf ∈ BT := bt_of (in_s4 (n := 30) (List.mem_of_getElem? (i := 2) rfl)) rfl
theorem bt691 : Cond.code yX8_historyOf cX8_historyOf 12 (some .int) ∈ BT := bt_of (in_t5 (List.mem_of_getElem? (i := 124) rfl)) rfl
theorem vl_X8_225 (M : Mth) (h : mO M = RX8) : VLk M mX8_historyOf 225 8 3 := ⟨by rw [h]; exact bt688, bt689, bt690, bt527, bt691, ⟨by decide +kernel, by decide +kernel⟩, by decide +kernel, by decide, TX8, 30, rfl⟩
theorem bt692 : Cond.methodLink RX8 228 yX8_waitsOf ∈ BT := bt_of (in_t5 (List.mem_of_getElem? (i := 129) rfl)) rfl
theorem bt693 : Cond.instanceMethod yX8_waitsOf ∈ BT := bt_of (in_t5 (List.mem_of_getElem? (i := 131) rfl)) rfl
theorem bt694 : Cond.selects RX8 yX8_waitsOf yX8_waitsOf ∈ BT := bt_of (in_s4 (n := 30) (List.mem_of_getElem? (i := 3) rfl)) rfl
theorem bt695 : Cond.code yX8_waitsOf cX8_waitsOf 6 (some .int) ∈ BT := bt_of (in_t5 (List.mem_of_getElem? (i := 132) rfl)) rfl
theorem vl_X8_228 (M : Mth) (h : mO M = RX8) : VLk M mX8_waitsOf 228 8 2 := ⟨by rw [h]; exact bt692, bt693, bt694, bt527, bt695, ⟨by decide +kernel, by decide +kernel⟩, by decide +kernel, by decide, TX8, 30, rfl⟩
theorem bt696 : Cond.methodLink RX8 231 yX8_digOf ∈ BT := bt_of (in_t5 (List.mem_of_getElem? (i := 137) rfl)) rfl
theorem bt697 : Cond.instanceMethod yX8_digOf ∈ BT := bt_of (in_t5 (List.mem_of_getElem? (i := 139) rfl)) rfl
theorem bt698 : Cond.selects RX8 yX8_digOf yX8_digOf ∈ BT := bt_of (in_s4 (n := 30) (List.mem_of_getElem? (i := 4) rfl)) rfl
theorem bt699 : Cond.code yX8_digOf cX8_digOf 8 (some .int) ∈ BT := bt_of (in_t5 (List.mem_of_getElem? (i := 140) rfl)) rfl
theorem vl_X8_231 (M : Mth) (h : mO M = RX8) : VLk M mX8_digOf 231 8 2 := ⟨by rw [h]; exact bt696, bt697, bt698, bt527, bt699, ⟨by decide +kernel, by decide +kernel⟩, by decide +kernel, by decide, TX8, 30, rfl⟩
theorem bt700 : Cond.fieldLink RX8 234 "TurningVillageModel" "finding" "I" ∈ BT := bt_of (in_t4 (List.mem_of_getElem? (i := 50) rfl)) rfl
theorem fp_X8_234 : FPk RX8 234 8 29 .int := ⟨RX8, TX8, 30, tyX8, rfl, by decide, bt700, iB_X8, tyX8_ok, nmX8, rfl, by decide +kernel⟩
theorem bt701 : Cond.fieldLink RX8 75 "TurningVillageModel" "forms" "[I" ∈ BT := bt_of (in_t4 (List.mem_of_getElem? (i := 46) rfl)) rfl
theorem fl_X8_75 : FLk RX8 75 8 25 := ⟨RX8, TX8, 30, rfl, by decide, bt701, iB_X8⟩
theorem bt702 : Cond.methodLink RX8 237 yX8_lacks ∈ BT := bt_of (in_t5 (List.mem_of_getElem? (i := 153) rfl)) rfl
theorem bt703 : Cond.instanceMethod yX8_lacks ∈ BT := bt_of (in_t5 (List.mem_of_getElem? (i := 155) rfl)) rfl
theorem bt704 : Cond.selects RX8 yX8_lacks yX8_lacks ∈ BT := bt_of (in_s4 (n := 30) (List.mem_of_getElem? (i := 5) rfl)) rfl
theorem bt705 : Cond.code yX8_lacks cX8_lacks 4 (some .int) ∈ BT := bt_of (in_t5 (List.mem_of_getElem? (i := 156) rfl)) rfl
theorem vl_X8_237 (M : Mth) (h : mO M = RX8) : VLk M mX8_lacks 237 8 3 := ⟨by rw [h]; exact bt702, bt703, bt704, bt527, bt705, ⟨by decide +kernel, by decide +kernel⟩, by decide +kernel, by decide, TX8, 30, rfl⟩
theorem bt706 : Cond.methodLink RX8 240 yX8_keep ∈ BT := bt_of (in_t5 (List.mem_of_getElem? (i := 157) rfl)) rfl
theorem bt707 : Cond.instanceMethod yX8_keep ∈ BT := bt_of (in_t5 (List.mem_of_getElem? (i := 159) rfl)) rfl
theorem bt708 : Cond.selects RX8 yX8_keep yX8_keep ∈ BT := bt_of (in_s4 (n := 30) (List.mem_of_getElem? (i := 6) rfl)) rfl
theorem bt709 : Cond.code yX8_keep cX8_keep 4 none ∈ BT := bt_of (in_t5 (List.mem_of_getElem? (i := 160) rfl)) rfl
theorem vl_X8_240 (M : Mth) (h : mO M = RX8) : VLk M mX8_keep 240 8 3 := ⟨by rw [h]; exact bt706, bt707, bt708, bt527, bt709, ⟨by decide +kernel, by decide +kernel⟩, by decide +kernel, by decide, TX8, 30, rfl⟩
theorem bt710 : Cond.constant RX8 244 (-2147483648) ∈ BT := bt_of (in_t5 (List.mem_of_getElem? (i := 165) rfl)) rfl
theorem bt711 : Cond.fieldLink RX8 84 "TurningVillageModel" "moved" "[I" ∈ BT := bt_of (in_t4 (List.mem_of_getElem? (i := 49) rfl)) rfl
theorem fl_X8_84 : FLk RX8 84 8 28 := ⟨RX8, TX8, 30, rfl, by decide, bt711, iB_X8⟩
theorem bt712 : Cond.methodLink RX8 245 yX8_sumOf ∈ BT := bt_of (in_t5 (List.mem_of_getElem? (i := 178) rfl)) rfl
theorem bt713 : Cond.instanceMethod yX8_sumOf ∈ BT := bt_of (in_t5 (List.mem_of_getElem? (i := 180) rfl)) rfl
theorem bt714 : Cond.selects RX8 yX8_sumOf yX8_sumOf ∈ BT := bt_of (in_s4 (n := 30) (List.mem_of_getElem? (i := 7) rfl)) rfl
theorem bt715 : Cond.code yX8_sumOf cX8_sumOf 5 (some .int) ∈ BT := bt_of (in_t5 (List.mem_of_getElem? (i := 181) rfl)) rfl
theorem vl_X8_245 (M : Mth) (h : mO M = RX8) : VLk M mX8_sumOf 245 8 1 := ⟨by rw [h]; exact bt712, bt713, bt714, bt527, bt715, ⟨by decide +kernel, by decide +kernel⟩, by decide +kernel, by decide, TX8, 30, rfl⟩
theorem fl_X8_234 : FLk RX8 234 8 29 := ⟨RX8, TX8, 30, rfl, by decide, bt700, iB_X8⟩
theorem bt716 : Cond.constantLong RX8 248 (17) ∈ BT := bt_of (in_t5 (List.mem_of_getElem? (i := 186) rfl)) rfl
theorem bt717 : Cond.constantLong RX8 250 (31) ∈ BT := bt_of (in_t5 (List.mem_of_getElem? (i := 187) rfl)) rfl
theorem bt718 : Cond.methodLink RX8 252 yX8_count ∈ BT := bt_of (in_t5 (List.mem_of_getElem? (i := 188) rfl)) rfl
theorem bt719 : Cond.instanceMethod yX8_count ∈ BT := bt_of (in_t5 (List.mem_of_getElem? (i := 175) rfl)) rfl
theorem bt720 : Cond.selects RX8 yX8_count yX8_count ∈ BT := bt_of (in_t5 (List.mem_of_getElem? (i := 176) rfl)) rfl
theorem bt721 : Cond.code yX8_count cX8_count 2 (some .int) ∈ BT := bt_of (in_t5 (List.mem_of_getElem? (i := 177) rfl)) rfl
theorem vl_X8_252 (M : Mth) (h : mO M = RX8) : VLk M mX8_count 252 8 1 := ⟨by rw [h]; exact bt718, bt719, bt720, bt527, bt721, ⟨by decide +kernel, by decide +kernel⟩, by decide +kernel, by decide, TX8, 30, rfl⟩
theorem bt722 : Cond.constant RJ6 265 (1431655765) ∈ BT := bt_of (in_t3 (List.mem_of_getElem? (i := 98) rfl)) rfl
theorem bt723 : Cond.constant RJ6 266 (858993459) ∈ BT := bt_of (in_t3 (List.mem_of_getElem? (i := 99) rfl)) rfl
theorem bt724 : Cond.constant RJ6 267 (252645135) ∈ BT := bt_of (in_t3 (List.mem_of_getElem? (i := 100) rfl)) rfl
theorem bt725 : Cond.static arraycopyName ∈ BT := bt_of (in_t3 (List.mem_of_getElem? (i := 18) rfl)) rfl
theorem bt726 : Cond.native arraycopyName ∈ BT := bt_of (in_t3 (List.mem_of_getElem? (i := 19) rfl)) rfl
theorem bt727 : Cond.initialized RJ10 ∈ BT := bt_of (in_t1 (List.mem_of_getElem? (i := 12) rfl)) rfl
theorem acpy : Cond.static arraycopyName ∈ BT ∧ Cond.native arraycopyName ∈ BT ∧ Cond.initialized RJ10 ∈ BT := ⟨bt725, bt726, bt727⟩
theorem sh0 : Sh 0 (.inr (7, [3, 12, 20, 22, 25, 28, 34, 40, 0])) := ⟨by decide, rfl⟩
theorem sh1 : Sh 1 (.inr (3, [4, 0, 0, 5, 6, 7, 0, 8, 9, 10, 11])) := ⟨by decide, rfl⟩
theorem sh2 : Sh 2 (.inl (0, 60)) := ⟨by decide, rfl⟩
theorem sh3 : Sh 3 (.inl (0, 8)) := ⟨by decide, rfl⟩
theorem sh4 : Sh 4 (.inl (0, 8)) := ⟨by decide, rfl⟩
theorem sh5 : Sh 5 (.inl (0, 8)) := ⟨by decide, rfl⟩
theorem sh6 : Sh 6 (.inl (0, 4)) := ⟨by decide, rfl⟩
theorem sh7 : Sh 7 (.inl (0, 4)) := ⟨by decide, rfl⟩
theorem sh8 : Sh 8 (.inl (0, 4)) := ⟨by decide, rfl⟩
theorem sh9 : Sh 9 (.inl (0, 4)) := ⟨by decide, rfl⟩
theorem sh10 : Sh 10 (.inr (1, [0, 13, 14, 15, 16, 0, 0, 0, 0, 17, 18, 19])) := ⟨by decide, rfl⟩
theorem sh11 : Sh 11 (.inl (0, 60)) := ⟨by decide, rfl⟩
theorem sh12 : Sh 12 (.inl (0, 60)) := ⟨by decide, rfl⟩
theorem sh13 : Sh 13 (.inl (0, 60)) := ⟨by decide, rfl⟩
theorem sh14 : Sh 14 (.inl (0, 60)) := ⟨by decide, rfl⟩
theorem sh15 : Sh 15 (.inl (0, 100)) := ⟨by decide, rfl⟩
theorem sh16 : Sh 16 (.inl (0, 8)) := ⟨by decide, rfl⟩
theorem sh17 : Sh 17 (.inl (0, 8)) := ⟨by decide, rfl⟩
theorem sh18 : Sh 18 (.inr (0, [21, 1])) := ⟨by decide, rfl⟩
theorem sh19 : Sh 19 (.inl (1, 8)) := ⟨by decide, rfl⟩
theorem sh20 : Sh 20 (.inr (6, [23, 24])) := ⟨by decide, rfl⟩
theorem sh21 : Sh 21 (.inl (0, 16)) := ⟨by decide, rfl⟩
theorem sh22 : Sh 22 (.inl (0, 16)) := ⟨by decide, rfl⟩
theorem sh23 : Sh 23 (.inr (6, [26, 27])) := ⟨by decide, rfl⟩
theorem sh24 : Sh 24 (.inl (0, 16)) := ⟨by decide, rfl⟩
theorem sh25 : Sh 25 (.inl (0, 16)) := ⟨by decide, rfl⟩
theorem sh26 : Sh 26 (.inr (5, [29, 30, 31, 32, 33])) := ⟨by decide, rfl⟩
theorem sh27 : Sh 27 (.inl (0, 8)) := ⟨by decide, rfl⟩
theorem sh28 : Sh 28 (.inl (0, 40)) := ⟨by decide, rfl⟩
theorem sh29 : Sh 29 (.inl (0, 64)) := ⟨by decide, rfl⟩
theorem sh30 : Sh 30 (.inl (0, 256)) := ⟨by decide, rfl⟩
theorem sh31 : Sh 31 (.inl (0, 8)) := ⟨by decide, rfl⟩
theorem sh32 : Sh 32 (.inr (2, [35, 36, 37, 38, 39, 0, 0, 0, 0])) := ⟨by decide, rfl⟩
theorem sh33 : Sh 33 (.inl (0, 8)) := ⟨by decide, rfl⟩
theorem sh34 : Sh 34 (.inl (1, 8)) := ⟨by decide, rfl⟩
theorem sh35 : Sh 35 (.inl (0, 13)) := ⟨by decide, rfl⟩
theorem sh36 : Sh 36 (.inl (0, 13)) := ⟨by decide, rfl⟩
theorem sh37 : Sh 37 (.inl (1, 13)) := ⟨by decide, rfl⟩
theorem sh38 : Sh 38 (.inl (42, 4)) := ⟨by decide, rfl⟩
theorem sh39 : Sh 39 (.inr (4, [0, 0, 0, 45])) := ⟨by decide, rfl⟩
theorem sh40 : Sh 40 (.inr (4, [0, 0, 0, 46])) := ⟨by decide, rfl⟩
theorem sh41 : Sh 41 (.inr (4, [0, 0, 0, 47])) := ⟨by decide, rfl⟩
theorem sh42 : Sh 42 (.inr (4, [0, 0, 0, 48])) := ⟨by decide, rfl⟩
theorem sh43 : Sh 43 (.inl (0, 60)) := ⟨by decide, rfl⟩
theorem sh44 : Sh 44 (.inl (0, 60)) := ⟨by decide, rfl⟩
theorem sh45 : Sh 45 (.inl (0, 60)) := ⟨by decide, rfl⟩
theorem sh46 : Sh 46 (.inl (0, 60)) := ⟨by decide, rfl⟩
theorem sh47 : Sh 47 (.inr (8, [0, 50, 51, 52, 0, 53, 54, 0, 55, 56, 57, 58, 0, 59, 60, 61, 62, 63, 64, 65, 66, 67, 68, 69, 70, 71, 72, 73, 74, 0])) := ⟨by decide, rfl⟩
theorem sh48 : Sh 48 (.inl (0, 60)) := ⟨by decide, rfl⟩
theorem sh49 : Sh 49 (.inl (0, 8)) := ⟨by decide, rfl⟩
theorem sh50 : Sh 50 (.inl (0, 8)) := ⟨by decide, rfl⟩
theorem sh51 : Sh 51 (.inl (0, 16)) := ⟨by decide, rfl⟩
theorem sh52 : Sh 52 (.inl (0, 8)) := ⟨by decide, rfl⟩
theorem sh53 : Sh 53 (.inl (0, 60)) := ⟨by decide, rfl⟩
theorem sh54 : Sh 54 (.inl (0, 60)) := ⟨by decide, rfl⟩
theorem sh55 : Sh 55 (.inl (0, 60)) := ⟨by decide, rfl⟩
theorem sh56 : Sh 56 (.inl (0, 60)) := ⟨by decide, rfl⟩
theorem sh57 : Sh 57 (.inl (0, 3)) := ⟨by decide, rfl⟩
theorem sh58 : Sh 58 (.inl (0, 100)) := ⟨by decide, rfl⟩
theorem sh59 : Sh 59 (.inl (1, 16)) := ⟨by decide, rfl⟩
theorem sh60 : Sh 60 (.inl (0, 32)) := ⟨by decide, rfl⟩
theorem sh61 : Sh 61 (.inl (0, 16)) := ⟨by decide, rfl⟩
theorem sh62 : Sh 62 (.inl (0, 40)) := ⟨by decide, rfl⟩
theorem sh63 : Sh 63 (.inl (0, 8)) := ⟨by decide, rfl⟩
theorem sh64 : Sh 64 (.inl (0, 64)) := ⟨by decide, rfl⟩
theorem sh65 : Sh 65 (.inl (0, 256)) := ⟨by decide, rfl⟩
theorem sh66 : Sh 66 (.inl (0, 8)) := ⟨by decide, rfl⟩
theorem sh67 : Sh 67 (.inl (0, 8)) := ⟨by decide, rfl⟩
theorem sh68 : Sh 68 (.inl (2, 4)) := ⟨by decide, rfl⟩
theorem sh69 : Sh 69 (.inl (0, 4)) := ⟨by decide, rfl⟩
theorem sh70 : Sh 70 (.inl (0, 4)) := ⟨by decide, rfl⟩
theorem sh71 : Sh 71 (.inl (0, 240)) := ⟨by decide, rfl⟩
theorem sh72 : Sh 72 (.inl (0, 60)) := ⟨by decide, rfl⟩
theorem sh_sheet {t : Nat} (h : t < 4) : Sh (39 + t) (.inr (4, [0, 0, 0, 43 + t + 2])) := by
  match t, h with
  | 0, _ => exact ⟨by decide, rfl⟩
  | 1, _ => exact ⟨by decide, rfl⟩
  | 2, _ => exact ⟨by decide, rfl⟩
  | 3, _ => exact ⟨by decide, rfl⟩
  | n + 4, h => exact absurd h (by omega)
theorem sh_items {t : Nat} (h : t < 4) : Sh (43 + t) (.inl (0, 60)) := by
  match t, h with
  | 0, _ => exact ⟨by decide, rfl⟩
  | 1, _ => exact ⟨by decide, rfl⟩
  | 2, _ => exact ⟨by decide, rfl⟩
  | 3, _ => exact ⟨by decide, rfl⟩
  | n + 4, h => exact absurd h (by omega)
