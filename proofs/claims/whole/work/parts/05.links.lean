def mX0_init : Mth := (yX0_init, cX0_init, 1, none, RX0)
def mX0_begin : Mth := (yX0_begin, cX0_begin, 2, none, RX0)
def mX0_oneDay : Mth := (yX0_oneDay, cX0_oneDay, 7, none, RX0)
def mX0_left : Mth := (yX0_left, cX0_left, 4, (some .long), RX0)
def mX1_init : Mth := (yX1_init, cX1_init, 1, none, RX1)
def mX1_mayBeTold : Mth := (yX1_mayBeTold, cX1_mayBeTold, 2, (some .boolean), RX1)
def mX1_add : Mth := (yX1_add, cX1_add, 4, (some .boolean), RX1)
def mX1_isTaken : Mth := (yX1_isTaken, cX1_isTaken, 2, (some .boolean), RX1)
def mX1_remove : Mth := (yX1_remove, cX1_remove, 3, none, RX1)
def mX1_change : Mth := (yX1_change, cX1_change, 4, (some .int), RX1)
def mX1_counts : Mth := (yX1_counts, cX1_counts, 2, (some .boolean), RX1)
def mX1_counting : Mth := (yX1_counting, cX1_counting, 3, (some .int), RX1)
def mX1_reckonTurns : Mth := (yX1_reckonTurns, cX1_reckonTurns, 3, none, RX1)
def mX1_tally : Mth := (yX1_tally, cX1_tally, 4, none, RX1)
def mX1_findFirstDays : Mth := (yX1_findFirstDays, cX1_findFirstDays, 3, none, RX1)
def mX2_init : Mth := (yX2_init, cX2_init, 2, none, RX2)
def mX2_search : Mth := (yX2_search, cX2_search, 9, none, RX2)
def mX2_reckonCrops : Mth := (yX2_reckonCrops, cX2_reckonCrops, 6, (some .long), RX2)
def mX2_extend : Mth := (yX2_extend, cX2_extend, 4, none, RX2)
def mX2_note : Mth := (yX2_note, cX2_note, 3, none, RX2)
def mX3_init : Mth := (yX3_init, cX3_init, 1, none, RX3)
def mX3_append : Mth := (yX3_append, cX3_append, 2, (some .int), RX3)
def mX3_empty : Mth := (yX3_empty, cX3_empty, 2, (some .int), RX3)
def mX3_interpret : Mth := (yX3_interpret, cX3_interpret, 1, none, RX3)
def mX3_forget : Mth := (yX3_forget, cX3_forget, 1, none, RX3)
def mX3_takeSigns : Mth := (yX3_takeSigns, cX3_takeSigns, 3, (some .int), RX3)
def mX3_takeParts : Mth := (yX3_takeParts, cX3_takeParts, 5, (some .int), RX3)
def mX3_takePath : Mth := (yX3_takePath, cX3_takePath, 3, (some .int), RX3)
def mX3_takeBridge : Mth := (yX3_takeBridge, cX3_takeBridge, 6, (some .int), RX3)
def mX3_signAt : Mth := (yX3_signAt, cX3_signAt, 2, (some .int), RX3)
def mX3_figureAt : Mth := (yX3_figureAt, cX3_figureAt, 3, (some .int), RX3)
def mX3_thingOf : Mth := (yX3_thingOf, cX3_thingOf, 1, (some .int), RX3)
def mX3_joins : Mth := (yX3_joins, cX3_joins, 4, (some .boolean), RX3)
def mX3_meetsAt : Mth := (yX3_meetsAt, cX3_meetsAt, 4, (some .boolean), RX3)
def mX3_canWork : Mth := (yX3_canWork, cX3_canWork, 5, (some .boolean), RX3)
def mX3_closedPaths : Mth := (yX3_closedPaths, cX3_closedPaths, 3, (some .int), RX3)
def mX4_init : Mth := (yX4_init, cX4_init, 1, none, RX4)
def mX4_renew : Mth := (yX4_renew, cX4_renew, 3, none, RX4)
def mX4_findingAt : Mth := (yX4_findingAt, cX4_findingAt, 3, (some .int), RX4)
def mX4_keep : Mth := (yX4_keep, cX4_keep, 3, none, RX4)
def mX4_has : Mth := (yX4_has, cX4_has, 3, (some .boolean), RX4)
def mX5_init : Mth := (yX5_init, cX5_init, 2, none, RX5)
def mX5_changeWish : Mth := (yX5_changeWish, cX5_changeWish, 6, (some .int), RX5)
def mX5_inOwnRow : Mth := (yX5_inOwnRow, cX5_inOwnRow, 3, (some .int), RX5)
def mX5_joyIn : Mth := (yX5_joyIn, cX5_joyIn, 8, (some .int), RX5)
def mX5_reckonJoys : Mth := (yX5_reckonJoys, cX5_reckonJoys, 5, none, RX5)
def mX5_changeUntilNobodyWould : Mth := (yX5_changeUntilNobodyWould, cX5_changeUntilNobodyWould, 2, (some .int), RX5)
def mX5_changeFirstPair : Mth := (yX5_changeFirstPair, cX5_changeFirstPair, 4, (some .boolean), RX5)
def mX5_wouldChange : Mth := (yX5_wouldChange, cX5_wouldChange, 5, (some .boolean), RX5)
def mX5_findBest : Mth := (yX5_findBest, cX5_findBest, 5, none, RX5)
def mX5_joyWith : Mth := (yX5_joyWith, cX5_joyWith, 4, (some .int), RX5)
def mX5_leastBestRow : Mth := (yX5_leastBestRow, cX5_leastBestRow, 4, (some .int), RX5)
def mX5_bestJoy : Mth := (yX5_bestJoy, cX5_bestJoy, 1, (some .int), RX5)
def mX5_envious : Mth := (yX5_envious, cX5_envious, 5, (some .int), RX5)
def mX6_init : Mth := (yX6_init, cX6_init, 1, none, RX6)
def mX6_begin : Mth := (yX6_begin, cX6_begin, 2, none, RX6)
def mX6_oneDay : Mth := (yX6_oneDay, cX6_oneDay, 5, none, RX6)
def mX6_join : Mth := (yX6_join, cX6_join, 3, none, RX6)
def mX6_isOn : Mth := (yX6_isOn, cX6_isOn, 2, (some .boolean), RX6)
def mX6_stepsTo : Mth := (yX6_stepsTo, cX6_stepsTo, 2, (some .int), RX6)
def mX7_init : Mth := (yX7_init, cX7_init, 2, none, RX7)
def mX7_type : Mth := (yX7_type, cX7_type, 2, (some .int), RX7)
def mX7_wipe : Mth := (yX7_wipe, cX7_wipe, 1, (some .int), RX7)
def mX7_fault : Mth := (yX7_fault, cX7_fault, 1, (some .int), RX7)
def mX7_place : Mth := (yX7_place, cX7_place, 3, (some .int), RX7)
def mX7_bridge : Mth := (yX7_bridge, cX7_bridge, 5, (some .int), RX7)
def mX7_gale : Mth := (yX7_gale, cX7_gale, 4, (some .int), RX7)
def mX7_read : Mth := (yX7_read, cX7_read, 6, (some .int), RX7)
def mX7_takeBack : Mth := (yX7_takeBack, cX7_takeBack, 3, (some .int), RX7)
def mX7_set : Mth := (yX7_set, cX7_set, 4, (some .int), RX7)
def mX7_sun : Mth := (yX7_sun, cX7_sun, 4, (some .int), RX7)
def mX7_turn : Mth := (yX7_turn, cX7_turn, 2, (some .int), RX7)
def mX7_door : Mth := (yX7_door, cX7_door, 5, (some .int), RX7)
def mX7_share : Mth := (yX7_share, cX7_share, 6, (some .long), RX7)
def mX7_shine : Mth := (yX7_shine, cX7_shine, 6, (some .int), RX7)
def mX7_ahead : Mth := (yX7_ahead, cX7_ahead, 10, (some .int), RX7)
def mX7_next : Mth := (yX7_next, cX7_next, 7, (some .int), RX7)
def mX7_likely : Mth := (yX7_likely, cX7_likely, 11, (some .long), RX7)
def mX7_soon : Mth := (yX7_soon, cX7_soon, 4, (some .int), RX7)
def mX7_carried : Mth := (yX7_carried, cX7_carried, 4, (some .int), RX7)
def mX7_meet : Mth := (yX7_meet, cX7_meet, 7, (some .int), RX7)
def mX7_wish : Mth := (yX7_wish, cX7_wish, 4, (some .int), RX7)
def mX7_lives : Mth := (yX7_lives, cX7_lives, 2, (some .int), RX7)
def mX7_joy : Mth := (yX7_joy, cX7_joy, 5, (some .int), RX7)
def mX7_swap : Mth := (yX7_swap, cX7_swap, 3, (some .int), RX7)
def mX7_best : Mth := (yX7_best, cX7_best, 4, (some .int), RX7)
def mX7_envy : Mth := (yX7_envy, cX7_envy, 3, (some .int), RX7)
def mX7_reaped : Mth := (yX7_reaped, cX7_reaped, 4, (some .int), RX7)
def mX7_history : Mth := (yX7_history, cX7_history, 4, (some .int), RX7)
def mX7_waits : Mth := (yX7_waits, cX7_waits, 3, (some .int), RX7)
def mX7_dig : Mth := (yX7_dig, cX7_dig, 7, (some .int), RX7)
def mX7_sheet : Mth := (yX7_sheet, cX7_sheet, 4, (some .int), RX7)
def mX7_lose : Mth := (yX7_lose, cX7_lose, 3, (some .int), RX7)
def mX7_put : Mth := (yX7_put, cX7_put, 6, (some .int), RX7)
def mX7_get : Mth := (yX7_get, cX7_get, 5, (some .int), RX7)
def mX7_copy : Mth := (yX7_copy, cX7_copy, 8, (some .int), RX7)
def mX7_write : Mth := (yX7_write, cX7_write, 6, (some .int), RX7)
def mX7_count : Mth := (yX7_count, cX7_count, 2, (some .int), RX7)
def mX7_digest : Mth := (yX7_digest, cX7_digest, 4, (some .long), RX7)
def mX7_digestPlaces : Mth := (yX7_digestPlaces, cX7_digestPlaces, 6, (some .long), RX7)
def mX7_digestRows : Mth := (yX7_digestRows, cX7_digestRows, 6, (some .long), RX7)
def mX7_digestTenants : Mth := (yX7_digestTenants, cX7_digestTenants, 6, (some .long), RX7)
def mX7_within : Mth := (yX7_within, cX7_within, 2, (some .boolean), RX7)
def mX7_isDay : Mth := (yX7_isDay, cX7_isDay, 1, (some .boolean), RX7)
def mX7_isSpan : Mth := (yX7_isSpan, cX7_isSpan, 2, (some .boolean), RX7)
def mX7_isThing : Mth := (yX7_isThing, cX7_isThing, 1, (some .boolean), RX7)
def mX7_isSheet : Mth := (yX7_isSheet, cX7_isSheet, 1, (some .boolean), RX7)
def mX7_isForm : Mth := (yX7_isForm, cX7_isForm, 1, (some .boolean), RX7)
def mX7_found : Mth := (yX7_found, cX7_found, 2, (some .int), RX7)
def mX7_lowestTerms : Mth := (yX7_lowestTerms, cX7_lowestTerms, 12, (some .long), RX7)
def mX7_daysWith : Mth := (yX7_daysWith, cX7_daysWith, 5, (some .int), RX7)
def mX7_walkTo : Mth := (yX7_walkTo, cX7_walkTo, 5, (some .int), RX7)
def mX7_reckonJoys : Mth := (yX7_reckonJoys, cX7_reckonJoys, 3, none, RX7)
def mX7_longestWait : Mth := (yX7_longestWait, cX7_longestWait, 8, (some .int), RX7)
def mX8_init : Mth := (yX8_init, cX8_init, 2, none, RX8)
def mX8_in : Mth := (yX8_in, cX8_in, 3, (some .boolean), RX8)
def mX8_isIn : Mth := (yX8_isIn, cX8_isIn, 2, (some .boolean), RX8)
def mX8_no : Mth := (yX8_no, cX8_no, 1, (some .long), RX8)
def mX8_lowest : Mth := (yX8_lowest, cX8_lowest, 11, (some .long), RX8)
def mX8_type : Mth := (yX8_type, cX8_type, 2, (some .int), RX8)
def mX8_wipe : Mth := (yX8_wipe, cX8_wipe, 2, (some .int), RX8)
def mX8_byteAt : Mth := (yX8_byteAt, cX8_byteAt, 2, (some .int), RX8)
def mX8_thingOf : Mth := (yX8_thingOf, cX8_thingOf, 1, (some .int), RX8)
def mX8_mayBe : Mth := (yX8_mayBe, cX8_mayBe, 4, (some .boolean), RX8)
def mX8_reads : Mth := (yX8_reads, cX8_reads, 4, (some .int), RX8)
def mX8_faultNow : Mth := (yX8_faultNow, cX8_faultNow, 3, (some .int), RX8)
def mX8_fault : Mth := (yX8_fault, cX8_fault, 1, (some .int), RX8)
def mX8_placeOf : Mth := (yX8_placeOf, cX8_placeOf, 4, (some .int), RX8)
def mX8_isEighth : Mth := (yX8_isEighth, cX8_isEighth, 1, (some .boolean), RX8)
def mX8_place : Mth := (yX8_place, cX8_place, 3, (some .int), RX8)
def mX8_sun : Mth := (yX8_sun, cX8_sun, 4, (some .int), RX8)
def mX8_galeMore : Mth := (yX8_galeMore, cX8_galeMore, 4, (some .int), RX8)
def mX8_gale : Mth := (yX8_gale, cX8_gale, 4, (some .int), RX8)
def mX8_read : Mth := (yX8_read, cX8_read, 4, (some .int), RX8)
def mX8_takeBack : Mth := (yX8_takeBack, cX8_takeBack, 3, (some .int), RX8)
def mX8_set : Mth := (yX8_set, cX8_set, 4, (some .int), RX8)
def mX8_doesCount : Mth := (yX8_doesCount, cX8_doesCount, 2, (some .boolean), RX8)
def mX8_lays : Mth := (yX8_lays, cX8_lays, 4, none, RX8)
def mX8_isDay : Mth := (yX8_isDay, cX8_isDay, 1, (some .boolean), RX8)
def mX8_turnOf : Mth := (yX8_turnOf, cX8_turnOf, 2, (some .int), RX8)
def mX8_turn : Mth := (yX8_turn, cX8_turn, 2, (some .int), RX8)
def mX8_isOver : Mth := (yX8_isOver, cX8_isOver, 7, (some .boolean), RX8)
def mX8_bridge : Mth := (yX8_bridge, cX8_bridge, 4, (some .int), RX8)
def mX8_doorAt : Mth := (yX8_doorAt, cX8_doorAt, 3, (some .int), RX8)
def mX8_doorOf : Mth := (yX8_doorOf, cX8_doorOf, 5, (some .int), RX8)
def mX8_door : Mth := (yX8_door, cX8_door, 4, (some .int), RX8)
def mX8_isThing : Mth := (yX8_isThing, cX8_isThing, 1, (some .boolean), RX8)
def mX8_isSpan : Mth := (yX8_isSpan, cX8_isSpan, 2, (some .boolean), RX8)
def mX8_daysOf : Mth := (yX8_daysOf, cX8_daysOf, 7, (some .int), RX8)
def mX8_share : Mth := (yX8_share, cX8_share, 6, (some .long), RX8)
def mX8_shineOf : Mth := (yX8_shineOf, cX8_shineOf, 6, (some .int), RX8)
def mX8_shine : Mth := (yX8_shine, cX8_shine, 4, (some .int), RX8)
def mX8_aheadOf : Mth := (yX8_aheadOf, cX8_aheadOf, 9, (some .int), RX8)
def mX8_ahead : Mth := (yX8_ahead, cX8_ahead, 5, (some .int), RX8)
def mX8_works : Mth := (yX8_works, cX8_works, 5, (some .boolean), RX8)
def mX8_next : Mth := (yX8_next, cX8_next, 6, (some .int), RX8)
def mX8_likely : Mth := (yX8_likely, cX8_likely, 13, (some .long), RX8)
def mX8_begins : Mth := (yX8_begins, cX8_begins, 4, none, RX8)
def mX8_isStep : Mth := (yX8_isStep, cX8_isStep, 6, (some .boolean), RX8)
def mX8_goes : Mth := (yX8_goes, cX8_goes, 7, none, RX8)
def mX8_soonOf : Mth := (yX8_soonOf, cX8_soonOf, 6, (some .int), RX8)
def mX8_soon : Mth := (yX8_soon, cX8_soon, 4, (some .int), RX8)
def mX8_carried : Mth := (yX8_carried, cX8_carried, 4, (some .int), RX8)
def mX8_meetOf : Mth := (yX8_meetOf, cX8_meetOf, 7, (some .int), RX8)
def mX8_meet : Mth := (yX8_meet, cX8_meet, 5, (some .int), RX8)
def mX8_wish : Mth := (yX8_wish, cX8_wish, 5, (some .int), RX8)
def mX8_lives : Mth := (yX8_lives, cX8_lives, 2, (some .int), RX8)
def mX8_laysJoy : Mth := (yX8_laysJoy, cX8_laysJoy, 7, none, RX8)
def mX8_joy : Mth := (yX8_joy, cX8_joy, 5, (some .int), RX8)
def mX8_swap : Mth := (yX8_swap, cX8_swap, 10, (some .int), RX8)
def mX8_ones : Mth := (yX8_ones, cX8_ones, 3, (some .int), RX8)
def mX8_bestOf : Mth := (yX8_bestOf, cX8_bestOf, 9, (some .int), RX8)
def mX8_best : Mth := (yX8_best, cX8_best, 4, (some .int), RX8)
def mX8_envyOf : Mth := (yX8_envyOf, cX8_envyOf, 7, (some .int), RX8)
def mX8_envy : Mth := (yX8_envy, cX8_envy, 3, (some .int), RX8)
def mX8_reaped : Mth := (yX8_reaped, cX8_reaped, 4, (some .int), RX8)
def mX8_historyOf : Mth := (yX8_historyOf, cX8_historyOf, 12, (some .int), RX8)
def mX8_history : Mth := (yX8_history, cX8_history, 4, (some .int), RX8)
def mX8_waitsOf : Mth := (yX8_waitsOf, cX8_waitsOf, 6, (some .int), RX8)
def mX8_waits : Mth := (yX8_waits, cX8_waits, 3, (some .int), RX8)
def mX8_digOf : Mth := (yX8_digOf, cX8_digOf, 8, (some .int), RX8)
def mX8_dig : Mth := (yX8_dig, cX8_dig, 3, (some .int), RX8)
def mX8_meets : Mth := (yX8_meets, cX8_meets, 2, (some .int), RX8)
def mX8_isSheet : Mth := (yX8_isSheet, cX8_isSheet, 1, (some .boolean), RX8)
def mX8_sheet : Mth := (yX8_sheet, cX8_sheet, 5, (some .int), RX8)
def mX8_lose : Mth := (yX8_lose, cX8_lose, 2, (some .int), RX8)
def mX8_lacks : Mth := (yX8_lacks, cX8_lacks, 4, (some .int), RX8)
def mX8_keep : Mth := (yX8_keep, cX8_keep, 4, none, RX8)
def mX8_put : Mth := (yX8_put, cX8_put, 6, (some .int), RX8)
def mX8_get : Mth := (yX8_get, cX8_get, 5, (some .int), RX8)
def mX8_copy : Mth := (yX8_copy, cX8_copy, 7, (some .int), RX8)
def mX8_write : Mth := (yX8_write, cX8_write, 4, (some .int), RX8)
def mX8_sumOf : Mth := (yX8_sumOf, cX8_sumOf, 5, (some .int), RX8)
def mX8_count : Mth := (yX8_count, cX8_count, 2, (some .int), RX8)
def mX8_digest : Mth := (yX8_digest, cX8_digest, 5, (some .long), RX8)
def mJ6_numberOfTrailingZeros_0f7a4 : Mth := (yJ6_numberOfTrailingZeros_0f7a4, cJ6_numberOfTrailingZeros_0f7a4, 2, (some .int), RJ6)
def mJ6_bitCount_0f7a4 : Mth := (yJ6_bitCount_0f7a4, cJ6_bitCount_0f7a4, 1, (some .int), RJ6)
def mJ9_max_7cf53 : Mth := (yJ9_max_7cf53, cJ9_max_7cf53, 2, (some .int), RJ9)
def mJ9_min_7cf53 : Mth := (yJ9_min_7cf53, cJ9_min_7cf53, 2, (some .int), RJ9)
def mJ7_fill_d0a16 : Mth := (yJ7_fill_d0a16, cJ7_fill_d0a16, 5, none, RJ7)
def mJ7_fill_53178 : Mth := (yJ7_fill_53178, cJ7_fill_53178, 4, none, RJ7)
theorem bt0 : Cond.laysFinal RX0 "TurningVillage$Chance" "weights" "[J" ∈ BT := bt_of (in_t1 (List.mem_of_getElem? (i := 135) rfl)) rfl
theorem bt1 : Cond.lays RX0 "TurningVillage$Chance" "all" "J" ∈ BT := bt_of (in_t1 (List.mem_of_getElem? (i := 137) rfl)) rfl
theorem iB_X0 : ∀ w ∈ u_ws RX0 TX0 2, w ∈ BT := fun w hw => by
  obtain ⟨k, hk, rfl⟩ := List.mem_map.mp hw
  have hk := List.mem_range.mp hk
  match k, hk with
  | 0, _ => exact bt0
  | 1, _ => exact bt1
  | n + 2, h => exact absurd h (by omega)
theorem bt2 : Cond.lays RX1 "TurningVillage$Gales" "number" "I" ∈ BT := bt_of (in_t1 (List.mem_of_getElem? (i := 100) rfl)) rfl
theorem bt3 : Cond.laysFinal RX1 "TurningVillage$Gales" "days" "[I" ∈ BT := bt_of (in_t1 (List.mem_of_getElem? (i := 102) rfl)) rfl
theorem bt4 : Cond.laysFinal RX1 "TurningVillage$Gales" "froms" "[I" ∈ BT := bt_of (in_t1 (List.mem_of_getElem? (i := 104) rfl)) rfl
theorem bt5 : Cond.laysFinal RX1 "TurningVillage$Gales" "told" "[I" ∈ BT := bt_of (in_t1 (List.mem_of_getElem? (i := 106) rfl)) rfl
theorem bt6 : Cond.laysFinal RX1 "TurningVillage$Gales" "taken" "[I" ∈ BT := bt_of (in_t1 (List.mem_of_getElem? (i := 108) rfl)) rfl
theorem bt7 : Cond.lays RX1 "TurningVillage$Gales" "latest" "I" ∈ BT := bt_of (in_t1 (List.mem_of_getElem? (i := 110) rfl)) rfl
theorem bt8 : Cond.lays RX1 "TurningVillage$Gales" "asOf" "I" ∈ BT := bt_of (in_t1 (List.mem_of_getElem? (i := 112) rfl)) rfl
theorem bt9 : Cond.lays RX1 "TurningVillage$Gales" "wing" "I" ∈ BT := bt_of (in_t1 (List.mem_of_getElem? (i := 114) rfl)) rfl
theorem bt10 : Cond.lays RX1 "TurningVillage$Gales" "begin" "I" ∈ BT := bt_of (in_t1 (List.mem_of_getElem? (i := 116) rfl)) rfl
theorem bt11 : Cond.laysFinal RX1 "TurningVillage$Gales" "turns" "[I" ∈ BT := bt_of (in_t1 (List.mem_of_getElem? (i := 118) rfl)) rfl
theorem bt12 : Cond.laysFinal RX1 "TurningVillage$Gales" "daysOfTurn" "[I" ∈ BT := bt_of (in_t1 (List.mem_of_getElem? (i := 120) rfl)) rfl
theorem bt13 : Cond.laysFinal RX1 "TurningVillage$Gales" "firstDays" "[I" ∈ BT := bt_of (in_t1 (List.mem_of_getElem? (i := 122) rfl)) rfl
theorem iB_X1 : ∀ w ∈ u_ws RX1 TX1 12, w ∈ BT := fun w hw => by
  obtain ⟨k, hk, rfl⟩ := List.mem_map.mp hw
  have hk := List.mem_range.mp hk
  match k, hk with
  | 0, _ => exact bt2
  | 1, _ => exact bt3
  | 2, _ => exact bt4
  | 3, _ => exact bt5
  | 4, _ => exact bt6
  | 5, _ => exact bt7
  | 6, _ => exact bt8
  | 7, _ => exact bt9
  | 8, _ => exact bt10
  | 9, _ => exact bt11
  | 10, _ => exact bt12
  | 11, _ => exact bt13
  | n + 12, h => exact absurd h (by omega)
theorem bt14 : Cond.laysFinal RX2 "TurningVillage$Harvest" "known" "[I" ∈ BT := bt_of (in_t1 (List.mem_of_getElem? (i := 198) rfl)) rfl
theorem bt15 : Cond.laysFinal RX2 "TurningVillage$Harvest" "cropOfTurn" "[J" ∈ BT := bt_of (in_t1 (List.mem_of_getElem? (i := 200) rfl)) rfl
theorem bt16 : Cond.laysFinal RX2 "TurningVillage$Harvest" "bits" "[I" ∈ BT := bt_of (in_t1 (List.mem_of_getElem? (i := 202) rfl)) rfl
theorem bt17 : Cond.laysFinal RX2 "TurningVillage$Harvest" "turns" "[I" ∈ BT := bt_of (in_t1 (List.mem_of_getElem? (i := 204) rfl)) rfl
theorem bt18 : Cond.laysFinal RX2 "TurningVillage$Harvest" "crops" "[J" ∈ BT := bt_of (in_t1 (List.mem_of_getElem? (i := 206) rfl)) rfl
theorem bt19 : Cond.lays RX2 "TurningVillage$Harvest" "fitting" "I" ∈ BT := bt_of (in_t1 (List.mem_of_getElem? (i := 208) rfl)) rfl
theorem bt20 : Cond.lays RX2 "TurningVillage$Harvest" "first" "I" ∈ BT := bt_of (in_t1 (List.mem_of_getElem? (i := 210) rfl)) rfl
theorem bt21 : Cond.lays RX2 "TurningVillage$Harvest" "sureWith" "I" ∈ BT := bt_of (in_t1 (List.mem_of_getElem? (i := 212) rfl)) rfl
theorem bt22 : Cond.lays RX2 "TurningVillage$Harvest" "sureWithout" "I" ∈ BT := bt_of (in_t1 (List.mem_of_getElem? (i := 214) rfl)) rfl
theorem iB_X2 : ∀ w ∈ u_ws RX2 TX2 9, w ∈ BT := fun w hw => by
  obtain ⟨k, hk, rfl⟩ := List.mem_map.mp hw
  have hk := List.mem_range.mp hk
  match k, hk with
  | 0, _ => exact bt14
  | 1, _ => exact bt15
  | 2, _ => exact bt16
  | 3, _ => exact bt17
  | 4, _ => exact bt18
  | 5, _ => exact bt19
  | 6, _ => exact bt20
  | 7, _ => exact bt21
  | 8, _ => exact bt22
  | n + 9, h => exact absurd h (by omega)
theorem bt23 : Cond.laysFinal RX3 "TurningVillage$Land" "text" "[I" ∈ BT := bt_of (in_t1 (List.mem_of_getElem? (i := 51) rfl)) rfl
theorem bt24 : Cond.lays RX3 "TurningVillage$Land" "length" "I" ∈ BT := bt_of (in_t1 (List.mem_of_getElem? (i := 53) rfl)) rfl
theorem bt25 : Cond.lays RX3 "TurningVillage$Land" "fault" "I" ∈ BT := bt_of (in_t1 (List.mem_of_getElem? (i := 55) rfl)) rfl
theorem bt26 : Cond.laysFinal RX3 "TurningVillage$Land" "things" "[I" ∈ BT := bt_of (in_t1 (List.mem_of_getElem? (i := 57) rfl)) rfl
theorem bt27 : Cond.laysFinal RX3 "TurningVillage$Land" "closed" "[I" ∈ BT := bt_of (in_t1 (List.mem_of_getElem? (i := 59) rfl)) rfl
theorem bt28 : Cond.laysFinal RX3 "TurningVillage$Land" "suns" "[I" ∈ BT := bt_of (in_t1 (List.mem_of_getElem? (i := 61) rfl)) rfl
theorem bt29 : Cond.lays RX3 "TurningVillage$Land" "bridges" "I" ∈ BT := bt_of (in_t1 (List.mem_of_getElem? (i := 63) rfl)) rfl
theorem bt30 : Cond.laysFinal RX3 "TurningVillage$Land" "oneEnd" "[I" ∈ BT := bt_of (in_t1 (List.mem_of_getElem? (i := 65) rfl)) rfl
theorem bt31 : Cond.laysFinal RX3 "TurningVillage$Land" "otherEnd" "[I" ∈ BT := bt_of (in_t1 (List.mem_of_getElem? (i := 67) rfl)) rfl
theorem bt32 : Cond.laysFinal RX3 "TurningVillage$Land" "modulus" "[I" ∈ BT := bt_of (in_t1 (List.mem_of_getElem? (i := 69) rfl)) rfl
theorem bt33 : Cond.laysFinal RX3 "TurningVillage$Land" "remainder" "[I" ∈ BT := bt_of (in_t1 (List.mem_of_getElem? (i := 71) rfl)) rfl
theorem iB_X3 : ∀ w ∈ u_ws RX3 TX3 11, w ∈ BT := fun w hw => by
  obtain ⟨k, hk, rfl⟩ := List.mem_map.mp hw
  have hk := List.mem_range.mp hk
  match k, hk with
  | 0, _ => exact bt23
  | 1, _ => exact bt24
  | 2, _ => exact bt25
  | 3, _ => exact bt26
  | 4, _ => exact bt27
  | 5, _ => exact bt28
  | 6, _ => exact bt29
  | 7, _ => exact bt30
  | 8, _ => exact bt31
  | 9, _ => exact bt32
  | 10, _ => exact bt33
  | n + 11, h => exact absurd h (by omega)
theorem bt34 : Cond.lays RX4 "TurningVillage$Sheet" "lost" "Z" ∈ BT := bt_of (in_t1 (List.mem_of_getElem? (i := 232) rfl)) rfl
theorem bt35 : Cond.lays RX4 "TurningVillage$Sheet" "form" "I" ∈ BT := bt_of (in_t1 (List.mem_of_getElem? (i := 234) rfl)) rfl
theorem bt36 : Cond.lays RX4 "TurningVillage$Sheet" "size" "I" ∈ BT := bt_of (in_t1 (List.mem_of_getElem? (i := 236) rfl)) rfl
theorem bt37 : Cond.laysFinal RX4 "TurningVillage$Sheet" "items" "[I" ∈ BT := bt_of (in_t1 (List.mem_of_getElem? (i := 238) rfl)) rfl
theorem iB_X4 : ∀ w ∈ u_ws RX4 TX4 4, w ∈ BT := fun w hw => by
  obtain ⟨k, hk, rfl⟩ := List.mem_map.mp hw
  have hk := List.mem_range.mp hk
  match k, hk with
  | 0, _ => exact bt34
  | 1, _ => exact bt35
  | 2, _ => exact bt36
  | 3, _ => exact bt37
  | n + 4, h => exact absurd h (by omega)
theorem bt38 : Cond.laysFinal RX5 "TurningVillage$Tenants" "rows" "[I" ∈ BT := bt_of (in_t1 (List.mem_of_getElem? (i := 167) rfl)) rfl
theorem bt39 : Cond.laysFinal RX5 "TurningVillage$Tenants" "wishes" "[I" ∈ BT := bt_of (in_t1 (List.mem_of_getElem? (i := 169) rfl)) rfl
theorem bt40 : Cond.laysFinal RX5 "TurningVillage$Tenants" "joys" "[I" ∈ BT := bt_of (in_t1 (List.mem_of_getElem? (i := 171) rfl)) rfl
theorem bt41 : Cond.laysFinal RX5 "TurningVillage$Tenants" "mostJoy" "[I" ∈ BT := bt_of (in_t1 (List.mem_of_getElem? (i := 173) rfl)) rfl
theorem bt42 : Cond.laysFinal RX5 "TurningVillage$Tenants" "bestRows" "[I" ∈ BT := bt_of (in_t1 (List.mem_of_getElem? (i := 175) rfl)) rfl
theorem iB_X5 : ∀ w ∈ u_ws RX5 TX5 5, w ∈ BT := fun w hw => by
  obtain ⟨k, hk, rfl⟩ := List.mem_map.mp hw
  have hk := List.mem_range.mp hk
  match k, hk with
  | 0, _ => exact bt38
  | 1, _ => exact bt39
  | 2, _ => exact bt40
  | 3, _ => exact bt41
  | 4, _ => exact bt42
  | n + 5, h => exact absurd h (by omega)
theorem bt43 : Cond.laysFinal RX6 "TurningVillage$Walker" "steps" "[I" ∈ BT := bt_of (in_t1 (List.mem_of_getElem? (i := 149) rfl)) rfl
theorem bt44 : Cond.laysFinal RX6 "TurningVillage$Walker" "before" "[I" ∈ BT := bt_of (in_t1 (List.mem_of_getElem? (i := 151) rfl)) rfl
theorem iB_X6 : ∀ w ∈ u_ws RX6 TX6 2, w ∈ BT := fun w hw => by
  obtain ⟨k, hk, rfl⟩ := List.mem_map.mp hw
  have hk := List.mem_range.mp hk
  match k, hk with
  | 0, _ => exact bt43
  | 1, _ => exact bt44
  | n + 2, h => exact absurd h (by omega)
theorem bt45 : Cond.laysFinal RX7 "TurningVillage" "land" "LTurningVillage$Land;" ∈ BT := bt_of (in_t2 (List.mem_of_getElem? (i := 10) rfl)) rfl
theorem bt46 : Cond.laysFinal RX7 "TurningVillage" "gales" "LTurningVillage$Gales;" ∈ BT := bt_of (in_t2 (List.mem_of_getElem? (i := 12) rfl)) rfl
theorem bt47 : Cond.laysFinal RX7 "TurningVillage" "chance" "LTurningVillage$Chance;" ∈ BT := bt_of (in_t2 (List.mem_of_getElem? (i := 14) rfl)) rfl
theorem bt48 : Cond.laysFinal RX7 "TurningVillage" "walker" "LTurningVillage$Walker;" ∈ BT := bt_of (in_t2 (List.mem_of_getElem? (i := 16) rfl)) rfl
theorem bt49 : Cond.laysFinal RX7 "TurningVillage" "companion" "LTurningVillage$Walker;" ∈ BT := bt_of (in_t2 (List.mem_of_getElem? (i := 18) rfl)) rfl
theorem bt50 : Cond.laysFinal RX7 "TurningVillage" "tenants" "LTurningVillage$Tenants;" ∈ BT := bt_of (in_t2 (List.mem_of_getElem? (i := 20) rfl)) rfl
theorem bt51 : Cond.laysFinal RX7 "TurningVillage" "harvest" "LTurningVillage$Harvest;" ∈ BT := bt_of (in_t2 (List.mem_of_getElem? (i := 22) rfl)) rfl
theorem bt52 : Cond.laysFinal RX7 "TurningVillage" "sheets" "[LTurningVillage$Sheet;" ∈ BT := bt_of (in_t2 (List.mem_of_getElem? (i := 24) rfl)) rfl
theorem bt53 : Cond.lays RX7 "TurningVillage" "finding" "I" ∈ BT := bt_of (in_t2 (List.mem_of_getElem? (i := 26) rfl)) rfl
theorem iB_X7 : ∀ w ∈ u_ws RX7 TX7 9, w ∈ BT := fun w hw => by
  obtain ⟨k, hk, rfl⟩ := List.mem_map.mp hw
  have hk := List.mem_range.mp hk
  match k, hk with
  | 0, _ => exact bt45
  | 1, _ => exact bt46
  | 2, _ => exact bt47
  | 3, _ => exact bt48
  | 4, _ => exact bt49
  | 5, _ => exact bt50
  | 6, _ => exact bt51
  | 7, _ => exact bt52
  | 8, _ => exact bt53
  | n + 9, h => exact absurd h (by omega)
theorem bt54 : Cond.lays RX8 "TurningVillageModel" "typed" "I" ∈ BT := bt_of (in_t4 (List.mem_of_getElem? (i := 54) rfl)) rfl
theorem bt55 : Cond.laysFinal RX8 "TurningVillageModel" "text" "[I" ∈ BT := bt_of (in_t4 (List.mem_of_getElem? (i := 56) rfl)) rfl
theorem bt56 : Cond.laysFinal RX8 "TurningVillageModel" "things" "[I" ∈ BT := bt_of (in_t4 (List.mem_of_getElem? (i := 58) rfl)) rfl
theorem bt57 : Cond.laysFinal RX8 "TurningVillageModel" "closed" "[I" ∈ BT := bt_of (in_t4 (List.mem_of_getElem? (i := 60) rfl)) rfl
theorem bt58 : Cond.lays RX8 "TurningVillageModel" "bridges" "I" ∈ BT := bt_of (in_t4 (List.mem_of_getElem? (i := 62) rfl)) rfl
theorem bt59 : Cond.laysFinal RX8 "TurningVillageModel" "bridge" "[I" ∈ BT := bt_of (in_t4 (List.mem_of_getElem? (i := 64) rfl)) rfl
theorem bt60 : Cond.laysFinal RX8 "TurningVillageModel" "suns" "[I" ∈ BT := bt_of (in_t4 (List.mem_of_getElem? (i := 66) rfl)) rfl
theorem bt61 : Cond.lays RX8 "TurningVillageModel" "gales" "I" ∈ BT := bt_of (in_t4 (List.mem_of_getElem? (i := 68) rfl)) rfl
theorem bt62 : Cond.laysFinal RX8 "TurningVillageModel" "galeDay" "[I" ∈ BT := bt_of (in_t4 (List.mem_of_getElem? (i := 70) rfl)) rfl
theorem bt63 : Cond.laysFinal RX8 "TurningVillageModel" "galeFrom" "[I" ∈ BT := bt_of (in_t4 (List.mem_of_getElem? (i := 72) rfl)) rfl
theorem bt64 : Cond.laysFinal RX8 "TurningVillageModel" "galeTime" "[I" ∈ BT := bt_of (in_t4 (List.mem_of_getElem? (i := 74) rfl)) rfl
theorem bt65 : Cond.laysFinal RX8 "TurningVillageModel" "galeBack" "[I" ∈ BT := bt_of (in_t4 (List.mem_of_getElem? (i := 76) rfl)) rfl
theorem bt66 : Cond.lays RX8 "TurningVillageModel" "lastTime" "I" ∈ BT := bt_of (in_t4 (List.mem_of_getElem? (i := 78) rfl)) rfl
theorem bt67 : Cond.laysFinal RX8 "TurningVillageModel" "setting" "[I" ∈ BT := bt_of (in_t4 (List.mem_of_getElem? (i := 80) rfl)) rfl
theorem bt68 : Cond.laysFinal RX8 "TurningVillageModel" "turns" "[I" ∈ BT := bt_of (in_t4 (List.mem_of_getElem? (i := 82) rfl)) rfl
theorem bt69 : Cond.laysFinal RX8 "TurningVillageModel" "chance" "[J" ∈ BT := bt_of (in_t4 (List.mem_of_getElem? (i := 84) rfl)) rfl
theorem bt70 : Cond.laysFinal RX8 "TurningVillageModel" "steps" "[I" ∈ BT := bt_of (in_t4 (List.mem_of_getElem? (i := 86) rfl)) rfl
theorem bt71 : Cond.laysFinal RX8 "TurningVillageModel" "then" "[I" ∈ BT := bt_of (in_t4 (List.mem_of_getElem? (i := 88) rfl)) rfl
theorem bt72 : Cond.laysFinal RX8 "TurningVillageModel" "wishes" "[I" ∈ BT := bt_of (in_t4 (List.mem_of_getElem? (i := 90) rfl)) rfl
theorem bt73 : Cond.laysFinal RX8 "TurningVillageModel" "lives" "[I" ∈ BT := bt_of (in_t4 (List.mem_of_getElem? (i := 92) rfl)) rfl
theorem bt74 : Cond.laysFinal RX8 "TurningVillageModel" "joys" "[I" ∈ BT := bt_of (in_t4 (List.mem_of_getElem? (i := 94) rfl)) rfl
theorem bt75 : Cond.laysFinal RX8 "TurningVillageModel" "mostBehind" "[I" ∈ BT := bt_of (in_t4 (List.mem_of_getElem? (i := 96) rfl)) rfl
theorem bt76 : Cond.laysFinal RX8 "TurningVillageModel" "reaped" "[I" ∈ BT := bt_of (in_t4 (List.mem_of_getElem? (i := 98) rfl)) rfl
theorem bt77 : Cond.laysFinal RX8 "TurningVillageModel" "fields" "[I" ∈ BT := bt_of (in_t4 (List.mem_of_getElem? (i := 100) rfl)) rfl
theorem bt78 : Cond.laysFinal RX8 "TurningVillageModel" "isThere" "[Z" ∈ BT := bt_of (in_t4 (List.mem_of_getElem? (i := 102) rfl)) rfl
theorem bt79 : Cond.laysFinal RX8 "TurningVillageModel" "forms" "[I" ∈ BT := bt_of (in_t4 (List.mem_of_getElem? (i := 104) rfl)) rfl
theorem bt80 : Cond.laysFinal RX8 "TurningVillageModel" "sizes" "[I" ∈ BT := bt_of (in_t4 (List.mem_of_getElem? (i := 106) rfl)) rfl
theorem bt81 : Cond.laysFinal RX8 "TurningVillageModel" "items" "[I" ∈ BT := bt_of (in_t4 (List.mem_of_getElem? (i := 108) rfl)) rfl
theorem bt82 : Cond.laysFinal RX8 "TurningVillageModel" "moved" "[I" ∈ BT := bt_of (in_t4 (List.mem_of_getElem? (i := 110) rfl)) rfl
theorem bt83 : Cond.lays RX8 "TurningVillageModel" "finding" "I" ∈ BT := bt_of (in_t4 (List.mem_of_getElem? (i := 112) rfl)) rfl
theorem iB_X8 : ∀ w ∈ u_ws RX8 TX8 30, w ∈ BT := fun w hw => by
  obtain ⟨k, hk, rfl⟩ := List.mem_map.mp hw
  have hk := List.mem_range.mp hk
  match k, hk with
  | 0, _ => exact bt54
  | 1, _ => exact bt55
  | 2, _ => exact bt56
  | 3, _ => exact bt57
  | 4, _ => exact bt58
  | 5, _ => exact bt59
  | 6, _ => exact bt60
  | 7, _ => exact bt61
  | 8, _ => exact bt62
  | 9, _ => exact bt63
  | 10, _ => exact bt64
  | 11, _ => exact bt65
  | 12, _ => exact bt66
  | 13, _ => exact bt67
  | 14, _ => exact bt68
  | 15, _ => exact bt69
  | 16, _ => exact bt70
  | 17, _ => exact bt71
  | 18, _ => exact bt72
  | 19, _ => exact bt73
  | 20, _ => exact bt74
  | 21, _ => exact bt75
  | 22, _ => exact bt76
  | 23, _ => exact bt77
  | 24, _ => exact bt78
  | 25, _ => exact bt79
  | 26, _ => exact bt80
  | 27, _ => exact bt81
  | 28, _ => exact bt82
  | 29, _ => exact bt83
  | n + 30, h => exact absurd h (by omega)
theorem bt84 : Cond.fieldLink RX0 9 "TurningVillage$Chance" "weights" "[J" ∈ BT := bt_of (in_t1 (List.mem_of_getElem? (i := 131) rfl)) rfl
theorem fl_X0_9 : FLk RX0 9 0 0 := ⟨RX0, TX0, 2, rfl, by decide, bt84, iB_X0⟩
theorem bt85 : Cond.methodLink RX0 19 yJ7_fill_d0a16 ∈ BT := bt_of (in_t2 (List.mem_of_getElem? (i := 228) rfl)) rfl
theorem bt86 : Cond.static yJ7_fill_d0a16 ∈ BT := bt_of (in_t2 (List.mem_of_getElem? (i := 229) rfl)) rfl
theorem bt87 : Cond.initialized RJ7 ∈ BT := bt_of (in_t1 (List.mem_of_getElem? (i := 10) rfl)) rfl
theorem bt88 : Cond.code yJ7_fill_d0a16 cJ7_fill_d0a16 5 none ∈ BT := bt_of (in_t2 (List.mem_of_getElem? (i := 230) rfl)) rfl
theorem sl_X0_19 (M : Mth) (h : mO M = RX0) : SLk M mJ7_fill_d0a16 19 2 := ⟨by rw [h]; exact bt85, bt86, bt87, bt88, ⟨by decide +kernel, by decide +kernel⟩, by decide +kernel, by decide⟩
theorem bt89 : Cond.fieldLink RX0 15 "TurningVillage$Chance" "all" "J" ∈ BT := bt_of (in_t1 (List.mem_of_getElem? (i := 133) rfl)) rfl
theorem fp_X0_15 : FPk RX0 15 0 1 .long := ⟨RX0, TX0, 2, tyX0, rfl, by decide, bt89, iB_X0, tyX0_ok, nmX0, rfl, by decide +kernel⟩
theorem fl_X0_15 : FLk RX0 15 0 1 := ⟨RX0, TX0, 2, rfl, by decide, bt89, iB_X0⟩
theorem bt90 : Cond.constantLong RX0 25 (16) ∈ BT := bt_of (in_t2 (List.mem_of_getElem? (i := 235) rfl)) rfl
theorem bt91 : Cond.fieldLink RX1 28 "TurningVillage$Gales" "latest" "I" ∈ BT := bt_of (in_t1 (List.mem_of_getElem? (i := 87) rfl)) rfl
theorem fl_X1_28 : FLk RX1 28 1 5 := ⟨RX1, TX1, 12, rfl, by decide, bt91, iB_X1⟩
theorem bt92 : Cond.fieldLink RX1 9 "TurningVillage$Gales" "number" "I" ∈ BT := bt_of (in_t1 (List.mem_of_getElem? (i := 81) rfl)) rfl
theorem fl_X1_9 : FLk RX1 9 1 0 := ⟨RX1, TX1, 12, rfl, by decide, bt92, iB_X1⟩
theorem bt93 : Cond.fieldLink RX1 15 "TurningVillage$Gales" "days" "[I" ∈ BT := bt_of (in_t1 (List.mem_of_getElem? (i := 83) rfl)) rfl
theorem fl_X1_15 : FLk RX1 15 1 1 := ⟨RX1, TX1, 12, rfl, by decide, bt93, iB_X1⟩
theorem bt94 : Cond.fieldLink RX1 19 "TurningVillage$Gales" "froms" "[I" ∈ BT := bt_of (in_t1 (List.mem_of_getElem? (i := 84) rfl)) rfl
theorem fl_X1_19 : FLk RX1 19 1 2 := ⟨RX1, TX1, 12, rfl, by decide, bt94, iB_X1⟩
theorem bt95 : Cond.fieldLink RX1 22 "TurningVillage$Gales" "told" "[I" ∈ BT := bt_of (in_t1 (List.mem_of_getElem? (i := 85) rfl)) rfl
theorem fl_X1_22 : FLk RX1 22 1 3 := ⟨RX1, TX1, 12, rfl, by decide, bt95, iB_X1⟩
theorem bt96 : Cond.fieldLink RX1 25 "TurningVillage$Gales" "taken" "[I" ∈ BT := bt_of (in_t1 (List.mem_of_getElem? (i := 86) rfl)) rfl
theorem fl_X1_25 : FLk RX1 25 1 4 := ⟨RX1, TX1, 12, rfl, by decide, bt96, iB_X1⟩
theorem fp_X1_28 : FPk RX1 28 1 5 .int := ⟨RX1, TX1, 12, tyX1, rfl, by decide, bt91, iB_X1, tyX1_ok, nmX1, rfl, by decide +kernel⟩
theorem fp_X1_9 : FPk RX1 9 1 0 .int := ⟨RX1, TX1, 12, tyX1, rfl, by decide, bt92, iB_X1, tyX1_ok, nmX1, rfl, by decide +kernel⟩
theorem bt97 : Cond.fieldLink RX1 31 "TurningVillage$Gales" "asOf" "I" ∈ BT := bt_of (in_t1 (List.mem_of_getElem? (i := 88) rfl)) rfl
theorem fl_X1_31 : FLk RX1 31 1 6 := ⟨RX1, TX1, 12, rfl, by decide, bt97, iB_X1⟩
theorem fp_X1_31 : FPk RX1 31 1 6 .int := ⟨RX1, TX1, 12, tyX1, rfl, by decide, bt97, iB_X1, tyX1_ok, nmX1, rfl, by decide +kernel⟩
theorem bt98 : Cond.fieldLink RX1 34 "TurningVillage$Gales" "wing" "I" ∈ BT := bt_of (in_t1 (List.mem_of_getElem? (i := 90) rfl)) rfl
theorem fl_X1_34 : FLk RX1 34 1 7 := ⟨RX1, TX1, 12, rfl, by decide, bt98, iB_X1⟩
theorem fp_X1_34 : FPk RX1 34 1 7 .int := ⟨RX1, TX1, 12, tyX1, rfl, by decide, bt98, iB_X1, tyX1_ok, nmX1, rfl, by decide +kernel⟩
theorem bt99 : Cond.fieldLink RX1 37 "TurningVillage$Gales" "begin" "I" ∈ BT := bt_of (in_t1 (List.mem_of_getElem? (i := 92) rfl)) rfl
theorem fl_X1_37 : FLk RX1 37 1 8 := ⟨RX1, TX1, 12, rfl, by decide, bt99, iB_X1⟩
theorem fp_X1_37 : FPk RX1 37 1 8 .int := ⟨RX1, TX1, 12, tyX1, rfl, by decide, bt99, iB_X1, tyX1_ok, nmX1, rfl, by decide +kernel⟩
theorem bt100 : Cond.methodLink RX1 49 yX1_counts ∈ BT := bt_of (in_t2 (List.mem_of_getElem? (i := 127) rfl)) rfl
theorem bt101 : Cond.instanceMethod yX1_counts ∈ BT := bt_of (in_t2 (List.mem_of_getElem? (i := 129) rfl)) rfl
theorem bt102 : Cond.selects RX1 yX1_counts yX1_counts ∈ BT := bt_of (in_s1 (n := 12) (List.mem_of_getElem? (i := 8) rfl)) rfl
theorem bt103 : Cond.initialized RX1 ∈ BT := bt_of (in_t1 (List.mem_of_getElem? (i := 3) rfl)) rfl
theorem bt104 : Cond.code yX1_counts cX1_counts 2 (some .boolean) ∈ BT := bt_of (in_t2 (List.mem_of_getElem? (i := 130) rfl)) rfl
theorem vl_X1_49 (M : Mth) (h : mO M = RX1) : VLk M mX1_counts 49 1 1 := ⟨by rw [h]; exact bt100, bt101, bt102, bt103, bt104, ⟨by decide +kernel, by decide +kernel⟩, by decide +kernel, by decide, TX1, 12, rfl⟩
theorem bt105 : Cond.fieldLink RX1 40 "TurningVillage$Gales" "turns" "[I" ∈ BT := bt_of (in_t1 (List.mem_of_getElem? (i := 94) rfl)) rfl
theorem fl_X1_40 : FLk RX1 40 1 9 := ⟨RX1, TX1, 12, rfl, by decide, bt105, iB_X1⟩
theorem bt106 : Cond.methodLink RX1 53 yJ7_fill_53178 ∈ BT := bt_of (in_t2 (List.mem_of_getElem? (i := 126) rfl)) rfl
theorem bt107 : Cond.static yJ7_fill_53178 ∈ BT := bt_of (in_t2 (List.mem_of_getElem? (i := 49) rfl)) rfl
theorem bt108 : Cond.code yJ7_fill_53178 cJ7_fill_53178 4 none ∈ BT := bt_of (in_t2 (List.mem_of_getElem? (i := 50) rfl)) rfl
theorem sl_X1_53 (M : Mth) (h : mO M = RX1) : SLk M mJ7_fill_53178 53 2 := ⟨by rw [h]; exact bt106, bt107, bt87, bt108, ⟨by decide +kernel, by decide +kernel⟩, by decide +kernel, by decide⟩
theorem bt109 : Cond.fieldLink RX1 43 "TurningVillage$Gales" "daysOfTurn" "[I" ∈ BT := bt_of (in_t1 (List.mem_of_getElem? (i := 96) rfl)) rfl
theorem fl_X1_43 : FLk RX1 43 1 10 := ⟨RX1, TX1, 12, rfl, by decide, bt109, iB_X1⟩
theorem bt110 : Cond.fieldLink RX1 46 "TurningVillage$Gales" "firstDays" "[I" ∈ BT := bt_of (in_t1 (List.mem_of_getElem? (i := 98) rfl)) rfl
theorem fl_X1_46 : FLk RX1 46 1 11 := ⟨RX1, TX1, 12, rfl, by decide, bt110, iB_X1⟩
theorem bt111 : Cond.methodLink RX2 41 yX2_reckonCrops ∈ BT := bt_of (in_t3 (List.mem_of_getElem? (i := 136) rfl)) rfl
theorem bt112 : Cond.instanceMethod yX2_reckonCrops ∈ BT := bt_of (in_t3 (List.mem_of_getElem? (i := 138) rfl)) rfl
theorem bt113 : Cond.selects RX2 yX2_reckonCrops yX2_reckonCrops ∈ BT := bt_of (in_s2 (n := 9) (List.mem_of_getElem? (i := 2) rfl)) rfl
theorem bt114 : Cond.initialized RX2 ∈ BT := bt_of (in_t1 (List.mem_of_getElem? (i := 7) rfl)) rfl
theorem bt115 : Cond.code yX2_reckonCrops cX2_reckonCrops 6 (some .long) ∈ BT := bt_of (in_t3 (List.mem_of_getElem? (i := 139) rfl)) rfl
theorem vl_X2_41 (M : Mth) (h : mO M = RX2) : VLk M mX2_reckonCrops 41 2 1 := ⟨by rw [h]; exact bt111, bt112, bt113, bt114, bt115, ⟨by decide +kernel, by decide +kernel⟩, by decide +kernel, by decide, TX2, 9, rfl⟩
theorem bt116 : Cond.fieldLink RX2 28 "TurningVillage$Harvest" "fitting" "I" ∈ BT := bt_of (in_t1 (List.mem_of_getElem? (i := 190) rfl)) rfl
theorem fp_X2_28 : FPk RX2 28 2 5 .int := ⟨RX2, TX2, 9, tyX2, rfl, by decide, bt116, iB_X2, tyX2_ok, nmX2, rfl, by decide +kernel⟩
theorem bt117 : Cond.fieldLink RX2 32 "TurningVillage$Harvest" "first" "I" ∈ BT := bt_of (in_t1 (List.mem_of_getElem? (i := 192) rfl)) rfl
theorem fp_X2_32 : FPk RX2 32 2 6 .int := ⟨RX2, TX2, 9, tyX2, rfl, by decide, bt117, iB_X2, tyX2_ok, nmX2, rfl, by decide +kernel⟩
theorem bt118 : Cond.fieldLink RX2 35 "TurningVillage$Harvest" "sureWith" "I" ∈ BT := bt_of (in_t1 (List.mem_of_getElem? (i := 194) rfl)) rfl
theorem fp_X2_35 : FPk RX2 35 2 7 .int := ⟨RX2, TX2, 9, tyX2, rfl, by decide, bt118, iB_X2, tyX2_ok, nmX2, rfl, by decide +kernel⟩
theorem fl_X2_35 : FLk RX2 35 2 7 := ⟨RX2, TX2, 9, rfl, by decide, bt118, iB_X2⟩
theorem bt119 : Cond.fieldLink RX2 38 "TurningVillage$Harvest" "sureWithout" "I" ∈ BT := bt_of (in_t1 (List.mem_of_getElem? (i := 196) rfl)) rfl
theorem fp_X2_38 : FPk RX2 38 2 8 .int := ⟨RX2, TX2, 9, tyX2, rfl, by decide, bt119, iB_X2, tyX2_ok, nmX2, rfl, by decide +kernel⟩
theorem bt120 : Cond.fieldLink RX2 22 "TurningVillage$Harvest" "turns" "[I" ∈ BT := bt_of (in_t1 (List.mem_of_getElem? (i := 188) rfl)) rfl
theorem fl_X2_22 : FLk RX2 22 2 3 := ⟨RX2, TX2, 9, rfl, by decide, bt120, iB_X2⟩
theorem bt121 : Cond.methodLink RX2 45 yJ6_numberOfTrailingZeros_0f7a4 ∈ BT := bt_of (in_t3 (List.mem_of_getElem? (i := 141) rfl)) rfl
theorem bt122 : Cond.static yJ6_numberOfTrailingZeros_0f7a4 ∈ BT := bt_of (in_t3 (List.mem_of_getElem? (i := 142) rfl)) rfl
theorem bt123 : Cond.initialized RJ6 ∈ BT := bt_of (in_t1 (List.mem_of_getElem? (i := 13) rfl)) rfl
theorem bt124 : Cond.code yJ6_numberOfTrailingZeros_0f7a4 cJ6_numberOfTrailingZeros_0f7a4 2 (some .int) ∈ BT := bt_of (in_t3 (List.mem_of_getElem? (i := 143) rfl)) rfl
theorem sl_X2_45 (M : Mth) (h : mO M = RX2) : SLk M mJ6_numberOfTrailingZeros_0f7a4 45 1 := ⟨by rw [h]; exact bt121, bt122, bt123, bt124, ⟨by decide +kernel, by decide +kernel⟩, by decide +kernel, by decide⟩
theorem bt125 : Cond.methodLink RX2 51 yX2_extend ∈ BT := bt_of (in_t3 (List.mem_of_getElem? (i := 145) rfl)) rfl
theorem bt126 : Cond.instanceMethod yX2_extend ∈ BT := bt_of (in_t3 (List.mem_of_getElem? (i := 147) rfl)) rfl
theorem bt127 : Cond.selects RX2 yX2_extend yX2_extend ∈ BT := bt_of (in_s2 (n := 9) (List.mem_of_getElem? (i := 3) rfl)) rfl
theorem bt128 : Cond.code yX2_extend cX2_extend 4 none ∈ BT := bt_of (in_t3 (List.mem_of_getElem? (i := 148) rfl)) rfl
theorem vl_X2_51 (M : Mth) (h : mO M = RX2) : VLk M mX2_extend 51 2 2 := ⟨by rw [h]; exact bt125, bt126, bt127, bt114, bt128, ⟨by decide +kernel, by decide +kernel⟩, by decide +kernel, by decide, TX2, 9, rfl⟩
theorem bt129 : Cond.fieldLink RX2 25 "TurningVillage$Harvest" "crops" "[J" ∈ BT := bt_of (in_t1 (List.mem_of_getElem? (i := 189) rfl)) rfl
theorem fl_X2_25 : FLk RX2 25 2 4 := ⟨RX2, TX2, 9, rfl, by decide, bt129, iB_X2⟩
theorem bt130 : Cond.fieldLink RX2 19 "TurningVillage$Harvest" "bits" "[I" ∈ BT := bt_of (in_t1 (List.mem_of_getElem? (i := 187) rfl)) rfl
theorem fl_X2_19 : FLk RX2 19 2 2 := ⟨RX2, TX2, 9, rfl, by decide, bt130, iB_X2⟩
theorem bt131 : Cond.methodLink RX2 55 yX2_note ∈ BT := bt_of (in_t3 (List.mem_of_getElem? (i := 149) rfl)) rfl
theorem bt132 : Cond.instanceMethod yX2_note ∈ BT := bt_of (in_t3 (List.mem_of_getElem? (i := 151) rfl)) rfl
theorem bt133 : Cond.selects RX2 yX2_note yX2_note ∈ BT := bt_of (in_s2 (n := 9) (List.mem_of_getElem? (i := 4) rfl)) rfl
theorem bt134 : Cond.code yX2_note cX2_note 3 none ∈ BT := bt_of (in_t3 (List.mem_of_getElem? (i := 152) rfl)) rfl
theorem vl_X2_55 (M : Mth) (h : mO M = RX2) : VLk M mX2_note 55 2 2 := ⟨by rw [h]; exact bt131, bt132, bt133, bt114, bt134, ⟨by decide +kernel, by decide +kernel⟩, by decide +kernel, by decide, TX2, 9, rfl⟩
theorem bt135 : Cond.fieldLink RX2 15 "TurningVillage$Harvest" "cropOfTurn" "[J" ∈ BT := bt_of (in_t1 (List.mem_of_getElem? (i := 186) rfl)) rfl
theorem fl_X2_15 : FLk RX2 15 2 1 := ⟨RX2, TX2, 9, rfl, by decide, bt135, iB_X2⟩
theorem bt136 : Cond.methodLink RX2 58 yJ7_fill_d0a16 ∈ BT := bt_of (in_t3 (List.mem_of_getElem? (i := 140) rfl)) rfl
theorem sl_X2_58 (M : Mth) (h : mO M = RX2) : SLk M mJ7_fill_d0a16 58 2 := ⟨by rw [h]; exact bt136, bt86, bt87, bt88, ⟨by decide +kernel, by decide +kernel⟩, by decide +kernel, by decide⟩
theorem bt137 : Cond.fieldLink RX2 9 "TurningVillage$Harvest" "known" "[I" ∈ BT := bt_of (in_t1 (List.mem_of_getElem? (i := 184) rfl)) rfl
theorem fl_X2_9 : FLk RX2 9 2 0 := ⟨RX2, TX2, 9, rfl, by decide, bt137, iB_X2⟩
theorem bt138 : Cond.fieldLink RX2 64 "TurningVillage$Land" "things" "[I" ∈ BT := bt_of (in_t1 (List.mem_of_getElem? (i := 34) rfl)) rfl
theorem fl_X2_64 : FLk RX2 64 3 3 := ⟨RX3, TX3, 11, rfl, by decide, bt138, iB_X3⟩
theorem fl_X2_28 : FLk RX2 28 2 5 := ⟨RX2, TX2, 9, rfl, by decide, bt116, iB_X2⟩
theorem fl_X2_32 : FLk RX2 32 2 6 := ⟨RX2, TX2, 9, rfl, by decide, bt117, iB_X2⟩
theorem bt139 : Cond.methodLink RX2 69 yJ9_min_7cf53 ∈ BT := bt_of (in_t3 (List.mem_of_getElem? (i := 153) rfl)) rfl
theorem bt140 : Cond.static yJ9_min_7cf53 ∈ BT := bt_of (in_t2 (List.mem_of_getElem? (i := 206) rfl)) rfl
theorem bt141 : Cond.initialized RJ9 ∈ BT := bt_of (in_t1 (List.mem_of_getElem? (i := 11) rfl)) rfl
theorem bt142 : Cond.code yJ9_min_7cf53 cJ9_min_7cf53 2 (some .int) ∈ BT := bt_of (in_t2 (List.mem_of_getElem? (i := 207) rfl)) rfl
theorem sl_X2_69 (M : Mth) (h : mO M = RX2) : SLk M mJ9_min_7cf53 69 2 := ⟨by rw [h]; exact bt139, bt140, bt141, bt142, ⟨by decide +kernel, by decide +kernel⟩, by decide +kernel, by decide⟩
theorem fl_X2_38 : FLk RX2 38 2 8 := ⟨RX2, TX2, 9, rfl, by decide, bt119, iB_X2⟩
theorem bt143 : Cond.fieldLink RX3 15 "TurningVillage$Land" "length" "I" ∈ BT := bt_of (in_t1 (List.mem_of_getElem? (i := 29) rfl)) rfl
theorem fl_X3_15 : FLk RX3 15 3 1 := ⟨RX3, TX3, 11, rfl, by decide, bt143, iB_X3⟩
theorem bt144 : Cond.fieldLink RX3 9 "TurningVillage$Land" "text" "[I" ∈ BT := bt_of (in_t1 (List.mem_of_getElem? (i := 28) rfl)) rfl
theorem fl_X3_9 : FLk RX3 9 3 0 := ⟨RX3, TX3, 11, rfl, by decide, bt144, iB_X3⟩
theorem fp_X3_15 : FPk RX3 15 3 1 .int := ⟨RX3, TX3, 11, tyX3, rfl, by decide, bt143, iB_X3, tyX3_ok, nmX3, rfl, by decide +kernel⟩
theorem bt145 : Cond.methodLink RX3 46 yX3_interpret ∈ BT := bt_of (in_t2 (List.mem_of_getElem? (i := 40) rfl)) rfl
theorem bt146 : Cond.instanceMethod yX3_interpret ∈ BT := bt_of (in_t2 (List.mem_of_getElem? (i := 42) rfl)) rfl
theorem bt147 : Cond.selects RX3 yX3_interpret yX3_interpret ∈ BT := bt_of (in_s1 (n := 11) (List.mem_of_getElem? (i := 0) rfl)) rfl
theorem bt148 : Cond.initialized RX3 ∈ BT := bt_of (in_t1 (List.mem_of_getElem? (i := 2) rfl)) rfl
theorem bt149 : Cond.code yX3_interpret cX3_interpret 1 none ∈ BT := bt_of (in_t2 (List.mem_of_getElem? (i := 43) rfl)) rfl
theorem vl_X3_46 (M : Mth) (h : mO M = RX3) : VLk M mX3_interpret 46 3 0 := ⟨by rw [h]; exact bt145, bt146, bt147, bt148, bt149, ⟨by decide +kernel, by decide +kernel⟩, by decide +kernel, by decide, TX3, 11, rfl⟩
theorem bt150 : Cond.methodLink RX3 49 yX3_forget ∈ BT := bt_of (in_t2 (List.mem_of_getElem? (i := 44) rfl)) rfl
theorem bt151 : Cond.instanceMethod yX3_forget ∈ BT := bt_of (in_t2 (List.mem_of_getElem? (i := 46) rfl)) rfl
theorem bt152 : Cond.selects RX3 yX3_forget yX3_forget ∈ BT := bt_of (in_s1 (n := 11) (List.mem_of_getElem? (i := 1) rfl)) rfl
theorem bt153 : Cond.code yX3_forget cX3_forget 1 none ∈ BT := bt_of (in_t2 (List.mem_of_getElem? (i := 47) rfl)) rfl
theorem vl_X3_49 (M : Mth) (h : mO M = RX3) : VLk M mX3_forget 49 3 0 := ⟨by rw [h]; exact bt150, bt151, bt152, bt148, bt153, ⟨by decide +kernel, by decide +kernel⟩, by decide +kernel, by decide, TX3, 11, rfl⟩
theorem bt154 : Cond.methodLink RX3 52 yX3_takeSigns ∈ BT := bt_of (in_t2 (List.mem_of_getElem? (i := 51) rfl)) rfl
theorem bt155 : Cond.instanceMethod yX3_takeSigns ∈ BT := bt_of (in_t2 (List.mem_of_getElem? (i := 53) rfl)) rfl
theorem bt156 : Cond.selects RX3 yX3_takeSigns yX3_takeSigns ∈ BT := bt_of (in_s1 (n := 11) (List.mem_of_getElem? (i := 2) rfl)) rfl
theorem bt157 : Cond.code yX3_takeSigns cX3_takeSigns 3 (some .int) ∈ BT := bt_of (in_t2 (List.mem_of_getElem? (i := 54) rfl)) rfl
theorem vl_X3_52 (M : Mth) (h : mO M = RX3) : VLk M mX3_takeSigns 52 3 0 := ⟨by rw [h]; exact bt154, bt155, bt156, bt148, bt157, ⟨by decide +kernel, by decide +kernel⟩, by decide +kernel, by decide, TX3, 11, rfl⟩
theorem bt158 : Cond.fieldLink RX3 19 "TurningVillage$Land" "fault" "I" ∈ BT := bt_of (in_t1 (List.mem_of_getElem? (i := 31) rfl)) rfl
theorem fp_X3_19 : FPk RX3 19 3 2 .int := ⟨RX3, TX3, 11, tyX3, rfl, by decide, bt158, iB_X3, tyX3_ok, nmX3, rfl, by decide +kernel⟩
theorem fl_X3_19 : FLk RX3 19 3 2 := ⟨RX3, TX3, 11, rfl, by decide, bt158, iB_X3⟩
theorem bt159 : Cond.methodLink RX3 56 yX3_takeParts ∈ BT := bt_of (in_t2 (List.mem_of_getElem? (i := 62) rfl)) rfl
theorem bt160 : Cond.instanceMethod yX3_takeParts ∈ BT := bt_of (in_t2 (List.mem_of_getElem? (i := 64) rfl)) rfl
theorem bt161 : Cond.selects RX3 yX3_takeParts yX3_takeParts ∈ BT := bt_of (in_s1 (n := 11) (List.mem_of_getElem? (i := 4) rfl)) rfl
theorem bt162 : Cond.code yX3_takeParts cX3_takeParts 5 (some .int) ∈ BT := bt_of (in_t2 (List.mem_of_getElem? (i := 65) rfl)) rfl
theorem vl_X3_56 (M : Mth) (h : mO M = RX3) : VLk M mX3_takeParts 56 3 0 := ⟨by rw [h]; exact bt159, bt160, bt161, bt148, bt162, ⟨by decide +kernel, by decide +kernel⟩, by decide +kernel, by decide, TX3, 11, rfl⟩
theorem bt163 : Cond.fieldLink RX3 22 "TurningVillage$Land" "things" "[I" ∈ BT := bt_of (in_t1 (List.mem_of_getElem? (i := 33) rfl)) rfl
theorem fl_X3_22 : FLk RX3 22 3 3 := ⟨RX3, TX3, 11, rfl, by decide, bt163, iB_X3⟩
theorem bt164 : Cond.methodLink RX3 59 yJ7_fill_53178 ∈ BT := bt_of (in_t2 (List.mem_of_getElem? (i := 48) rfl)) rfl
theorem sl_X3_59 (M : Mth) (h : mO M = RX3) : SLk M mJ7_fill_53178 59 2 := ⟨by rw [h]; exact bt164, bt107, bt87, bt108, ⟨by decide +kernel, by decide +kernel⟩, by decide +kernel, by decide⟩
theorem bt165 : Cond.fieldLink RX3 25 "TurningVillage$Land" "closed" "[I" ∈ BT := bt_of (in_t1 (List.mem_of_getElem? (i := 37) rfl)) rfl
theorem fl_X3_25 : FLk RX3 25 3 4 := ⟨RX3, TX3, 11, rfl, by decide, bt165, iB_X3⟩
theorem bt166 : Cond.fieldLink RX3 31 "TurningVillage$Land" "bridges" "I" ∈ BT := bt_of (in_t1 (List.mem_of_getElem? (i := 42) rfl)) rfl
theorem fp_X3_31 : FPk RX3 31 3 6 .int := ⟨RX3, TX3, 11, tyX3, rfl, by decide, bt166, iB_X3, tyX3_ok, nmX3, rfl, by decide +kernel⟩
theorem bt167 : Cond.methodLink RX3 65 yX3_signAt ∈ BT := bt_of (in_t2 (List.mem_of_getElem? (i := 55) rfl)) rfl
theorem bt168 : Cond.instanceMethod yX3_signAt ∈ BT := bt_of (in_t2 (List.mem_of_getElem? (i := 57) rfl)) rfl
theorem bt169 : Cond.selects RX3 yX3_signAt yX3_signAt ∈ BT := bt_of (in_s1 (n := 11) (List.mem_of_getElem? (i := 3) rfl)) rfl
theorem bt170 : Cond.code yX3_signAt cX3_signAt 2 (some .int) ∈ BT := bt_of (in_t2 (List.mem_of_getElem? (i := 58) rfl)) rfl
theorem vl_X3_65 (M : Mth) (h : mO M = RX3) : VLk M mX3_signAt 65 3 1 := ⟨by rw [h]; exact bt167, bt168, bt169, bt148, bt170, ⟨by decide +kernel, by decide +kernel⟩, by decide +kernel, by decide, TX3, 11, rfl⟩
theorem bt171 : Cond.methodLink RX3 69 yX3_thingOf ∈ BT := bt_of (in_t2 (List.mem_of_getElem? (i := 59) rfl)) rfl
theorem bt172 : Cond.static yX3_thingOf ∈ BT := bt_of (in_t2 (List.mem_of_getElem? (i := 60) rfl)) rfl
theorem bt173 : Cond.code yX3_thingOf cX3_thingOf 1 (some .int) ∈ BT := bt_of (in_t2 (List.mem_of_getElem? (i := 61) rfl)) rfl
theorem sl_X3_69 (M : Mth) (h : mO M = RX3) : SLk M mX3_thingOf 69 1 := ⟨by rw [h]; exact bt171, bt172, bt148, bt173, ⟨by decide +kernel, by decide +kernel⟩, by decide +kernel, by decide⟩
theorem bt174 : Cond.methodLink RX3 72 yX3_takePath ∈ BT := bt_of (in_t2 (List.mem_of_getElem? (i := 66) rfl)) rfl
theorem bt175 : Cond.instanceMethod yX3_takePath ∈ BT := bt_of (in_t2 (List.mem_of_getElem? (i := 68) rfl)) rfl
theorem bt176 : Cond.selects RX3 yX3_takePath yX3_takePath ∈ BT := bt_of (in_s1 (n := 11) (List.mem_of_getElem? (i := 5) rfl)) rfl
theorem bt177 : Cond.code yX3_takePath cX3_takePath 3 (some .int) ∈ BT := bt_of (in_t2 (List.mem_of_getElem? (i := 69) rfl)) rfl
theorem vl_X3_72 (M : Mth) (h : mO M = RX3) : VLk M mX3_takePath 72 3 1 := ⟨by rw [h]; exact bt174, bt175, bt176, bt148, bt177, ⟨by decide +kernel, by decide +kernel⟩, by decide +kernel, by decide, TX3, 11, rfl⟩
theorem bt178 : Cond.methodLink RX3 75 yX3_takeBridge ∈ BT := bt_of (in_t2 (List.mem_of_getElem? (i := 75) rfl)) rfl
theorem bt179 : Cond.instanceMethod yX3_takeBridge ∈ BT := bt_of (in_t2 (List.mem_of_getElem? (i := 77) rfl)) rfl
theorem bt180 : Cond.selects RX3 yX3_takeBridge yX3_takeBridge ∈ BT := bt_of (in_s1 (n := 11) (List.mem_of_getElem? (i := 7) rfl)) rfl
theorem bt181 : Cond.code yX3_takeBridge cX3_takeBridge 6 (some .int) ∈ BT := bt_of (in_t2 (List.mem_of_getElem? (i := 78) rfl)) rfl
theorem vl_X3_75 (M : Mth) (h : mO M = RX3) : VLk M mX3_takeBridge 75 3 1 := ⟨by rw [h]; exact bt178, bt179, bt180, bt148, bt181, ⟨by decide +kernel, by decide +kernel⟩, by decide +kernel, by decide, TX3, 11, rfl⟩
theorem bt182 : Cond.methodLink RX3 78 yX3_figureAt ∈ BT := bt_of (in_t2 (List.mem_of_getElem? (i := 70) rfl)) rfl
theorem bt183 : Cond.instanceMethod yX3_figureAt ∈ BT := bt_of (in_t2 (List.mem_of_getElem? (i := 72) rfl)) rfl
theorem bt184 : Cond.selects RX3 yX3_figureAt yX3_figureAt ∈ BT := bt_of (in_s1 (n := 11) (List.mem_of_getElem? (i := 6) rfl)) rfl
theorem bt185 : Cond.code yX3_figureAt cX3_figureAt 3 (some .int) ∈ BT := bt_of (in_t2 (List.mem_of_getElem? (i := 73) rfl)) rfl
theorem vl_X3_78 (M : Mth) (h : mO M = RX3) : VLk M mX3_figureAt 78 3 1 := ⟨by rw [h]; exact bt182, bt183, bt184, bt148, bt185, ⟨by decide +kernel, by decide +kernel⟩, by decide +kernel, by decide, TX3, 11, rfl⟩
theorem bt186 : Cond.static yX7_within ∈ BT := bt_of (in_t2 (List.mem_of_getElem? (i := 34) rfl)) rfl
theorem bt187 : Cond.initialized RX7 ∈ BT := bt_of (in_t1 (List.mem_of_getElem? (i := 1) rfl)) rfl
theorem bt188 : Cond.code yX7_within cX7_within 2 (some .boolean) ∈ BT := bt_of (in_t2 (List.mem_of_getElem? (i := 35) rfl)) rfl
theorem nl_within : Cond.static (mY mX7_within) ∈ BT ∧ Cond.initialized (mY mX7_within).cls ∈ BT ∧ Cond.code (mY mX7_within) (mC mX7_within) (mN mX7_within) (mR mX7_within) ∈ BT := ⟨bt186, bt187, bt188⟩
theorem fl_X3_31 : FLk RX3 31 3 6 := ⟨RX3, TX3, 11, rfl, by decide, bt166, iB_X3⟩
theorem bt189 : Cond.fieldLink RX3 34 "TurningVillage$Land" "oneEnd" "[I" ∈ BT := bt_of (in_t1 (List.mem_of_getElem? (i := 45) rfl)) rfl
theorem fl_X3_34 : FLk RX3 34 3 7 := ⟨RX3, TX3, 11, rfl, by decide, bt189, iB_X3⟩
theorem bt190 : Cond.fieldLink RX3 37 "TurningVillage$Land" "otherEnd" "[I" ∈ BT := bt_of (in_t1 (List.mem_of_getElem? (i := 47) rfl)) rfl
theorem fl_X3_37 : FLk RX3 37 3 8 := ⟨RX3, TX3, 11, rfl, by decide, bt190, iB_X3⟩
theorem bt191 : Cond.fieldLink RX3 40 "TurningVillage$Land" "modulus" "[I" ∈ BT := bt_of (in_t1 (List.mem_of_getElem? (i := 49) rfl)) rfl
theorem fl_X3_40 : FLk RX3 40 3 9 := ⟨RX3, TX3, 11, rfl, by decide, bt191, iB_X3⟩
theorem bt192 : Cond.fieldLink RX3 43 "TurningVillage$Land" "remainder" "[I" ∈ BT := bt_of (in_t1 (List.mem_of_getElem? (i := 50) rfl)) rfl
theorem fl_X3_43 : FLk RX3 43 3 10 := ⟨RX3, TX3, 11, rfl, by decide, bt192, iB_X3⟩
theorem bt193 : Cond.fieldLink RX4 9 "TurningVillage$Sheet" "lost" "Z" ∈ BT := bt_of (in_t1 (List.mem_of_getElem? (i := 224) rfl)) rfl
theorem fp_X4_9 : FPk RX4 9 4 0 .boolean := ⟨RX4, TX4, 4, tyX4, rfl, by decide, bt193, iB_X4, tyX4_ok, nmX4, rfl, by decide +kernel⟩
theorem bt194 : Cond.fieldLink RX4 15 "TurningVillage$Sheet" "form" "I" ∈ BT := bt_of (in_t1 (List.mem_of_getElem? (i := 226) rfl)) rfl
theorem fp_X4_15 : FPk RX4 15 4 1 .int := ⟨RX4, TX4, 4, tyX4, rfl, by decide, bt194, iB_X4, tyX4_ok, nmX4, rfl, by decide +kernel⟩
theorem bt195 : Cond.fieldLink RX4 19 "TurningVillage$Sheet" "size" "I" ∈ BT := bt_of (in_t1 (List.mem_of_getElem? (i := 228) rfl)) rfl
theorem fp_X4_19 : FPk RX4 19 4 2 .int := ⟨RX4, TX4, 4, tyX4, rfl, by decide, bt195, iB_X4, tyX4_ok, nmX4, rfl, by decide +kernel⟩
theorem bt196 : Cond.fieldLink RX4 22 "TurningVillage$Sheet" "items" "[I" ∈ BT := bt_of (in_t1 (List.mem_of_getElem? (i := 230) rfl)) rfl
theorem fl_X4_22 : FLk RX4 22 4 3 := ⟨RX4, TX4, 4, rfl, by decide, bt196, iB_X4⟩
theorem bt197 : Cond.methodLink RX4 26 yJ7_fill_53178 ∈ BT := bt_of (in_t3 (List.mem_of_getElem? (i := 178) rfl)) rfl
theorem sl_X4_26 (M : Mth) (h : mO M = RX4) : SLk M mJ7_fill_53178 26 2 := ⟨by rw [h]; exact bt197, bt107, bt87, bt108, ⟨by decide +kernel, by decide +kernel⟩, by decide +kernel, by decide⟩
theorem fl_X4_9 : FLk RX4 9 4 0 := ⟨RX4, TX4, 4, rfl, by decide, bt193, iB_X4⟩
theorem fl_X4_15 : FLk RX4 15 4 1 := ⟨RX4, TX4, 4, rfl, by decide, bt194, iB_X4⟩
theorem fl_X4_19 : FLk RX4 19 4 2 := ⟨RX4, TX4, 4, rfl, by decide, bt195, iB_X4⟩
theorem bt198 : Cond.fieldLink RX5 15 "TurningVillage$Tenants" "wishes" "[I" ∈ BT := bt_of (in_t1 (List.mem_of_getElem? (i := 162) rfl)) rfl
theorem fl_X5_15 : FLk RX5 15 5 1 := ⟨RX5, TX5, 5, rfl, by decide, bt198, iB_X5⟩
theorem bt199 : Cond.fieldLink RX5 9 "TurningVillage$Tenants" "rows" "[I" ∈ BT := bt_of (in_t1 (List.mem_of_getElem? (i := 160) rfl)) rfl
theorem fl_X5_9 : FLk RX5 9 5 0 := ⟨RX5, TX5, 5, rfl, by decide, bt199, iB_X5⟩
theorem bt200 : Cond.fieldLink RX5 27 "TurningVillage$Land" "things" "[I" ∈ BT := bt_of (in_t1 (List.mem_of_getElem? (i := 35) rfl)) rfl
theorem fl_X5_27 : FLk RX5 27 3 3 := ⟨RX3, TX3, 11, rfl, by decide, bt200, iB_X3⟩
theorem bt201 : Cond.fieldLink RX5 18 "TurningVillage$Tenants" "joys" "[I" ∈ BT := bt_of (in_t1 (List.mem_of_getElem? (i := 163) rfl)) rfl
theorem fl_X5_18 : FLk RX5 18 5 2 := ⟨RX5, TX5, 5, rfl, by decide, bt201, iB_X5⟩
theorem bt202 : Cond.methodLink RX5 32 yX5_joyIn ∈ BT := bt_of (in_t3 (List.mem_of_getElem? (i := 74) rfl)) rfl
theorem bt203 : Cond.instanceMethod yX5_joyIn ∈ BT := bt_of (in_t3 (List.mem_of_getElem? (i := 59) rfl)) rfl
theorem bt204 : Cond.selects RX5 yX5_joyIn yX5_joyIn ∈ BT := bt_of (in_t3 (List.mem_of_getElem? (i := 60) rfl)) rfl
theorem bt205 : Cond.initialized RX5 ∈ BT := bt_of (in_t1 (List.mem_of_getElem? (i := 6) rfl)) rfl
theorem bt206 : Cond.code yX5_joyIn cX5_joyIn 8 (some .int) ∈ BT := bt_of (in_t3 (List.mem_of_getElem? (i := 61) rfl)) rfl
theorem vl_X5_32 (M : Mth) (h : mO M = RX5) : VLk M mX5_joyIn 32 5 4 := ⟨by rw [h]; exact bt202, bt203, bt204, bt205, bt206, ⟨by decide +kernel, by decide +kernel⟩, by decide +kernel, by decide, TX5, 5, rfl⟩
theorem bt207 : Cond.methodLink RX5 36 yX5_changeFirstPair ∈ BT := bt_of (in_t3 (List.mem_of_getElem? (i := 79) rfl)) rfl
theorem bt208 : Cond.instanceMethod yX5_changeFirstPair ∈ BT := bt_of (in_t3 (List.mem_of_getElem? (i := 81) rfl)) rfl
theorem bt209 : Cond.selects RX5 yX5_changeFirstPair yX5_changeFirstPair ∈ BT := bt_of (in_s1 (n := 5) (List.mem_of_getElem? (i := 14) rfl)) rfl
theorem bt210 : Cond.code yX5_changeFirstPair cX5_changeFirstPair 4 (some .boolean) ∈ BT := bt_of (in_t3 (List.mem_of_getElem? (i := 82) rfl)) rfl
theorem vl_X5_36 (M : Mth) (h : mO M = RX5) : VLk M mX5_changeFirstPair 36 5 0 := ⟨by rw [h]; exact bt207, bt208, bt209, bt205, bt210, ⟨by decide +kernel, by decide +kernel⟩, by decide +kernel, by decide, TX5, 5, rfl⟩
theorem bt211 : Cond.methodLink RX5 40 yX5_wouldChange ∈ BT := bt_of (in_t3 (List.mem_of_getElem? (i := 83) rfl)) rfl
theorem bt212 : Cond.instanceMethod yX5_wouldChange ∈ BT := bt_of (in_t3 (List.mem_of_getElem? (i := 85) rfl)) rfl
theorem bt213 : Cond.selects RX5 yX5_wouldChange yX5_wouldChange ∈ BT := bt_of (in_s1 (n := 5) (List.mem_of_getElem? (i := 15) rfl)) rfl
theorem bt214 : Cond.code yX5_wouldChange cX5_wouldChange 5 (some .boolean) ∈ BT := bt_of (in_t3 (List.mem_of_getElem? (i := 86) rfl)) rfl
theorem vl_X5_40 (M : Mth) (h : mO M = RX5) : VLk M mX5_wouldChange 40 5 2 := ⟨by rw [h]; exact bt211, bt212, bt213, bt205, bt214, ⟨by decide +kernel, by decide +kernel⟩, by decide +kernel, by decide, TX5, 5, rfl⟩
theorem bt215 : Cond.fieldLink RX5 21 "TurningVillage$Tenants" "mostJoy" "[I" ∈ BT := bt_of (in_t1 (List.mem_of_getElem? (i := 164) rfl)) rfl
theorem fl_X5_21 : FLk RX5 21 5 3 := ⟨RX5, TX5, 5, rfl, by decide, bt215, iB_X5⟩
theorem bt216 : Cond.methodLink RX5 44 yJ6_bitCount_0f7a4 ∈ BT := bt_of (in_t3 (List.mem_of_getElem? (i := 95) rfl)) rfl
theorem bt217 : Cond.static yJ6_bitCount_0f7a4 ∈ BT := bt_of (in_t3 (List.mem_of_getElem? (i := 96) rfl)) rfl
theorem bt218 : Cond.code yJ6_bitCount_0f7a4 cJ6_bitCount_0f7a4 1 (some .int) ∈ BT := bt_of (in_t3 (List.mem_of_getElem? (i := 97) rfl)) rfl
theorem sl_X5_44 (M : Mth) (h : mO M = RX5) : SLk M mJ6_bitCount_0f7a4 44 1 := ⟨by rw [h]; exact bt216, bt217, bt123, bt218, ⟨by decide +kernel, by decide +kernel⟩, by decide +kernel, by decide⟩
theorem bt219 : Cond.methodLink RX5 50 yX5_joyWith ∈ BT := bt_of (in_t3 (List.mem_of_getElem? (i := 101) rfl)) rfl
theorem bt220 : Cond.instanceMethod yX5_joyWith ∈ BT := bt_of (in_t3 (List.mem_of_getElem? (i := 103) rfl)) rfl
theorem bt221 : Cond.selects RX5 yX5_joyWith yX5_joyWith ∈ BT := bt_of (in_s2 (n := 5) (List.mem_of_getElem? (i := 0) rfl)) rfl
theorem bt222 : Cond.code yX5_joyWith cX5_joyWith 4 (some .int) ∈ BT := bt_of (in_t3 (List.mem_of_getElem? (i := 104) rfl)) rfl
theorem vl_X5_50 (M : Mth) (h : mO M = RX5) : VLk M mX5_joyWith 50 5 3 := ⟨by rw [h]; exact bt219, bt220, bt221, bt205, bt222, ⟨by decide +kernel, by decide +kernel⟩, by decide +kernel, by decide, TX5, 5, rfl⟩
theorem bt223 : Cond.methodLink RX5 54 yJ9_max_7cf53 ∈ BT := bt_of (in_t3 (List.mem_of_getElem? (i := 105) rfl)) rfl
theorem bt224 : Cond.static yJ9_max_7cf53 ∈ BT := bt_of (in_t3 (List.mem_of_getElem? (i := 106) rfl)) rfl
theorem bt225 : Cond.code yJ9_max_7cf53 cJ9_max_7cf53 2 (some .int) ∈ BT := bt_of (in_t3 (List.mem_of_getElem? (i := 107) rfl)) rfl
theorem sl_X5_54 (M : Mth) (h : mO M = RX5) : SLk M mJ9_max_7cf53 54 2 := ⟨by rw [h]; exact bt223, bt224, bt141, bt225, ⟨by decide +kernel, by decide +kernel⟩, by decide +kernel, by decide⟩
theorem bt226 : Cond.methodLink RX5 60 yX5_leastBestRow ∈ BT := bt_of (in_t3 (List.mem_of_getElem? (i := 108) rfl)) rfl
theorem bt227 : Cond.instanceMethod yX5_leastBestRow ∈ BT := bt_of (in_t3 (List.mem_of_getElem? (i := 110) rfl)) rfl
theorem bt228 : Cond.selects RX5 yX5_leastBestRow yX5_leastBestRow ∈ BT := bt_of (in_s2 (n := 5) (List.mem_of_getElem? (i := 1) rfl)) rfl
theorem bt229 : Cond.code yX5_leastBestRow cX5_leastBestRow 4 (some .int) ∈ BT := bt_of (in_t3 (List.mem_of_getElem? (i := 111) rfl)) rfl
theorem vl_X5_60 (M : Mth) (h : mO M = RX5) : VLk M mX5_leastBestRow 60 5 2 := ⟨by rw [h]; exact bt226, bt227, bt228, bt205, bt229, ⟨by decide +kernel, by decide +kernel⟩, by decide +kernel, by decide, TX5, 5, rfl⟩
theorem bt230 : Cond.fieldLink RX5 24 "TurningVillage$Tenants" "bestRows" "[I" ∈ BT := bt_of (in_t1 (List.mem_of_getElem? (i := 165) rfl)) rfl
theorem fl_X5_24 : FLk RX5 24 5 4 := ⟨RX5, TX5, 5, rfl, by decide, bt230, iB_X5⟩
theorem bt231 : Cond.fieldLink RX6 11 "TurningVillage$Walker" "steps" "[I" ∈ BT := bt_of (in_t1 (List.mem_of_getElem? (i := 147) rfl)) rfl
theorem fl_X6_11 : FLk RX6 11 6 0 := ⟨RX6, TX6, 2, rfl, by decide, bt231, iB_X6⟩
theorem bt232 : Cond.methodLink RX6 18 yJ7_fill_53178 ∈ BT := bt_of (in_t3 (List.mem_of_getElem? (i := 12) rfl)) rfl
theorem sl_X6_18 (M : Mth) (h : mO M = RX6) : SLk M mJ7_fill_53178 18 2 := ⟨by rw [h]; exact bt232, bt107, bt87, bt108, ⟨by decide +kernel, by decide +kernel⟩, by decide +kernel, by decide⟩
theorem bt233 : Cond.fieldLink RX6 15 "TurningVillage$Walker" "before" "[I" ∈ BT := bt_of (in_t1 (List.mem_of_getElem? (i := 148) rfl)) rfl
theorem fl_X6_15 : FLk RX6 15 6 1 := ⟨RX6, TX6, 2, rfl, by decide, bt233, iB_X6⟩
theorem bt234 : Cond.methodLink RX6 24 arraycopyName ∈ BT := bt_of (in_t3 (List.mem_of_getElem? (i := 17) rfl)) rfl
theorem bt235 : Cond.methodLink RX6 30 yX6_join ∈ BT := bt_of (in_t3 (List.mem_of_getElem? (i := 20) rfl)) rfl
theorem bt236 : Cond.instanceMethod yX6_join ∈ BT := bt_of (in_t3 (List.mem_of_getElem? (i := 22) rfl)) rfl
theorem bt237 : Cond.selects RX6 yX6_join yX6_join ∈ BT := bt_of (in_s1 (n := 2) (List.mem_of_getElem? (i := 12) rfl)) rfl
theorem bt238 : Cond.initialized RX6 ∈ BT := bt_of (in_t1 (List.mem_of_getElem? (i := 5) rfl)) rfl
theorem bt239 : Cond.code yX6_join cX6_join 3 none ∈ BT := bt_of (in_t3 (List.mem_of_getElem? (i := 23) rfl)) rfl
theorem vl_X6_30 (M : Mth) (h : mO M = RX6) : VLk M mX6_join 30 6 2 := ⟨by rw [h]; exact bt235, bt236, bt237, bt238, bt239, ⟨by decide +kernel, by decide +kernel⟩, by decide +kernel, by decide, TX6, 2, rfl⟩
theorem bt240 : Cond.fieldLink RX6 34 "TurningVillage$Land" "closed" "[I" ∈ BT := bt_of (in_t1 (List.mem_of_getElem? (i := 38) rfl)) rfl
theorem fl_X6_34 : FLk RX6 34 3 4 := ⟨RX3, TX3, 11, rfl, by decide, bt240, iB_X3⟩
theorem bt241 : Cond.fieldLink RX6 39 "TurningVillage$Land" "bridges" "I" ∈ BT := bt_of (in_t1 (List.mem_of_getElem? (i := 43) rfl)) rfl
theorem fl_X6_39 : FLk RX6 39 3 6 := ⟨RX3, TX3, 11, rfl, by decide, bt241, iB_X3⟩
theorem bt242 : Cond.methodLink RX6 43 yX3_meetsAt ∈ BT := bt_of (in_t3 (List.mem_of_getElem? (i := 25) rfl)) rfl
theorem bt243 : Cond.instanceMethod yX3_meetsAt ∈ BT := bt_of (in_t2 (List.mem_of_getElem? (i := 107) rfl)) rfl
theorem bt244 : Cond.selects RX3 yX3_meetsAt yX3_meetsAt ∈ BT := bt_of (in_t2 (List.mem_of_getElem? (i := 108) rfl)) rfl
theorem bt245 : Cond.code yX3_meetsAt cX3_meetsAt 4 (some .boolean) ∈ BT := bt_of (in_t2 (List.mem_of_getElem? (i := 109) rfl)) rfl
theorem vl_X6_43 (M : Mth) (h : mO M = RX6) : VLk M mX3_meetsAt 43 3 2 := ⟨by rw [h]; exact bt242, bt243, bt244, bt148, bt245, ⟨by decide +kernel, by decide +kernel⟩, by decide +kernel, by decide, TX3, 11, rfl⟩
theorem bt246 : Cond.fieldLink RX6 47 "TurningVillage$Land" "oneEnd" "[I" ∈ BT := bt_of (in_t1 (List.mem_of_getElem? (i := 46) rfl)) rfl
theorem fl_X6_47 : FLk RX6 47 3 7 := ⟨RX3, TX3, 11, rfl, by decide, bt246, iB_X3⟩
theorem bt247 : Cond.fieldLink RX6 50 "TurningVillage$Land" "otherEnd" "[I" ∈ BT := bt_of (in_t1 (List.mem_of_getElem? (i := 48) rfl)) rfl
theorem fl_X6_50 : FLk RX6 50 3 8 := ⟨RX3, TX3, 11, rfl, by decide, bt247, iB_X3⟩
theorem bt248 : Cond.methodLink RX6 53 yJ9_min_7cf53 ∈ BT := bt_of (in_t3 (List.mem_of_getElem? (i := 24) rfl)) rfl
theorem sl_X6_53 (M : Mth) (h : mO M = RX6) : SLk M mJ9_min_7cf53 53 2 := ⟨by rw [h]; exact bt248, bt140, bt141, bt142, ⟨by decide +kernel, by decide +kernel⟩, by decide +kernel, by decide⟩
theorem bt249 : Cond.methodLink RX7 63 yX7_within ∈ BT := bt_of (in_t2 (List.mem_of_getElem? (i := 33) rfl)) rfl
theorem sl_X7_63 (M : Mth) (h : mO M = RX7) : SLk M mX7_within 63 2 := ⟨by rw [h]; exact bt249, bt186, bt187, bt188, ⟨by decide +kernel, by decide +kernel⟩, by decide +kernel, by decide⟩
theorem bt250 : Cond.fieldLink RX7 12 "TurningVillage" "land" "LTurningVillage$Land;" ∈ BT := bt_of (in_t2 (List.mem_of_getElem? (i := 1) rfl)) rfl
theorem fl_X7_12 : FLk RX7 12 7 0 := ⟨RX7, TX7, 9, rfl, by decide, bt250, iB_X7⟩
theorem bt251 : Cond.methodLink RX7 67 yX3_append ∈ BT := bt_of (in_t2 (List.mem_of_getElem? (i := 36) rfl)) rfl
theorem bt252 : Cond.instanceMethod yX3_append ∈ BT := bt_of (in_t2 (List.mem_of_getElem? (i := 37) rfl)) rfl
theorem bt253 : Cond.selects RX3 yX3_append yX3_append ∈ BT := bt_of (in_t2 (List.mem_of_getElem? (i := 38) rfl)) rfl
theorem bt254 : Cond.code yX3_append cX3_append 2 (some .int) ∈ BT := bt_of (in_t2 (List.mem_of_getElem? (i := 39) rfl)) rfl
theorem vl_X7_67 (M : Mth) (h : mO M = RX7) : VLk M mX3_append 67 3 1 := ⟨by rw [h]; exact bt251, bt252, bt253, bt148, bt254, ⟨by decide +kernel, by decide +kernel⟩, by decide +kernel, by decide, TX3, 11, rfl⟩
theorem bt255 : Cond.methodLink RX7 71 yX3_empty ∈ BT := bt_of (in_t2 (List.mem_of_getElem? (i := 83) rfl)) rfl
theorem bt256 : Cond.instanceMethod yX3_empty ∈ BT := bt_of (in_t2 (List.mem_of_getElem? (i := 84) rfl)) rfl
theorem bt257 : Cond.selects RX3 yX3_empty yX3_empty ∈ BT := bt_of (in_t2 (List.mem_of_getElem? (i := 85) rfl)) rfl
theorem bt258 : Cond.code yX3_empty cX3_empty 2 (some .int) ∈ BT := bt_of (in_t2 (List.mem_of_getElem? (i := 86) rfl)) rfl
theorem vl_X7_71 (M : Mth) (h : mO M = RX7) : VLk M mX3_empty 71 3 0 := ⟨by rw [h]; exact bt255, bt256, bt257, bt148, bt258, ⟨by decide +kernel, by decide +kernel⟩, by decide +kernel, by decide, TX3, 11, rfl⟩
theorem bt259 : Cond.fieldLink RX7 75 "TurningVillage$Land" "fault" "I" ∈ BT := bt_of (in_t1 (List.mem_of_getElem? (i := 32) rfl)) rfl
theorem fl_X7_75 : FLk RX7 75 3 2 := ⟨RX3, TX3, 11, rfl, by decide, bt259, iB_X3⟩
theorem bt260 : Cond.fieldLink RX7 79 "TurningVillage$Land" "things" "[I" ∈ BT := bt_of (in_t1 (List.mem_of_getElem? (i := 36) rfl)) rfl
theorem fl_X7_79 : FLk RX7 79 3 3 := ⟨RX3, TX3, 11, rfl, by decide, bt260, iB_X3⟩
theorem bt261 : Cond.fieldLink RX7 83 "TurningVillage$Land" "closed" "[I" ∈ BT := bt_of (in_t1 (List.mem_of_getElem? (i := 39) rfl)) rfl
theorem fl_X7_83 : FLk RX7 83 3 4 := ⟨RX3, TX3, 11, rfl, by decide, bt261, iB_X3⟩
theorem bt262 : Cond.fieldLink RX7 86 "TurningVillage$Land" "suns" "[I" ∈ BT := bt_of (in_t1 (List.mem_of_getElem? (i := 41) rfl)) rfl
theorem fl_X7_86 : FLk RX7 86 3 5 := ⟨RX3, TX3, 11, rfl, by decide, bt262, iB_X3⟩
theorem bt263 : Cond.methodLink RX7 89 yX7_isDay ∈ BT := bt_of (in_t2 (List.mem_of_getElem? (i := 99) rfl)) rfl
theorem bt264 : Cond.static yX7_isDay ∈ BT := bt_of (in_t2 (List.mem_of_getElem? (i := 100) rfl)) rfl
theorem bt265 : Cond.code yX7_isDay cX7_isDay 1 (some .boolean) ∈ BT := bt_of (in_t2 (List.mem_of_getElem? (i := 101) rfl)) rfl
theorem sl_X7_89 (M : Mth) (h : mO M = RX7) : SLk M mX7_isDay 89 1 := ⟨by rw [h]; exact bt263, bt264, bt187, bt265, ⟨by decide +kernel, by decide +kernel⟩, by decide +kernel, by decide⟩
theorem bt266 : Cond.fieldLink RX7 93 "TurningVillage$Land" "bridges" "I" ∈ BT := bt_of (in_t1 (List.mem_of_getElem? (i := 44) rfl)) rfl
theorem fl_X7_93 : FLk RX7 93 3 6 := ⟨RX3, TX3, 11, rfl, by decide, bt266, iB_X3⟩
theorem bt267 : Cond.methodLink RX7 96 yX3_joins ∈ BT := bt_of (in_t2 (List.mem_of_getElem? (i := 102) rfl)) rfl
theorem bt268 : Cond.instanceMethod yX3_joins ∈ BT := bt_of (in_t2 (List.mem_of_getElem? (i := 103) rfl)) rfl
theorem bt269 : Cond.selects RX3 yX3_joins yX3_joins ∈ BT := bt_of (in_t2 (List.mem_of_getElem? (i := 104) rfl)) rfl
theorem bt270 : Cond.code yX3_joins cX3_joins 4 (some .boolean) ∈ BT := bt_of (in_t2 (List.mem_of_getElem? (i := 105) rfl)) rfl
theorem vl_X7_96 (M : Mth) (h : mO M = RX7) : VLk M mX3_joins 96 3 3 := ⟨by rw [h]; exact bt267, bt268, bt269, bt148, bt270, ⟨by decide +kernel, by decide +kernel⟩, by decide +kernel, by decide, TX3, 11, rfl⟩
theorem bt271 : Cond.fieldLink RX7 21 "TurningVillage" "gales" "LTurningVillage$Gales;" ∈ BT := bt_of (in_t2 (List.mem_of_getElem? (i := 2) rfl)) rfl
theorem fl_X7_21 : FLk RX7 21 7 1 := ⟨RX7, TX7, 9, rfl, by decide, bt271, iB_X7⟩
theorem bt272 : Cond.fieldLink RX7 100 "TurningVillage$Gales" "turns" "[I" ∈ BT := bt_of (in_t1 (List.mem_of_getElem? (i := 95) rfl)) rfl
theorem fl_X7_100 : FLk RX7 100 1 9 := ⟨RX1, TX1, 12, rfl, by decide, bt272, iB_X1⟩
theorem bt273 : Cond.methodLink RX7 103 yX3_meetsAt ∈ BT := bt_of (in_t2 (List.mem_of_getElem? (i := 106) rfl)) rfl
theorem vl_X7_103 (M : Mth) (h : mO M = RX7) : VLk M mX3_meetsAt 103 3 2 := ⟨by rw [h]; exact bt273, bt243, bt244, bt148, bt245, ⟨by decide +kernel, by decide +kernel⟩, by decide +kernel, by decide, TX3, 11, rfl⟩
theorem bt274 : Cond.methodLink RX7 106 yX1_mayBeTold ∈ BT := bt_of (in_t2 (List.mem_of_getElem? (i := 114) rfl)) rfl
theorem bt275 : Cond.instanceMethod yX1_mayBeTold ∈ BT := bt_of (in_t2 (List.mem_of_getElem? (i := 115) rfl)) rfl
theorem bt276 : Cond.selects RX1 yX1_mayBeTold yX1_mayBeTold ∈ BT := bt_of (in_t2 (List.mem_of_getElem? (i := 116) rfl)) rfl
theorem bt277 : Cond.code yX1_mayBeTold cX1_mayBeTold 2 (some .boolean) ∈ BT := bt_of (in_t2 (List.mem_of_getElem? (i := 117) rfl)) rfl
theorem vl_X7_106 (M : Mth) (h : mO M = RX7) : VLk M mX1_mayBeTold 106 1 1 := ⟨by rw [h]; exact bt274, bt275, bt276, bt103, bt277, ⟨by decide +kernel, by decide +kernel⟩, by decide +kernel, by decide, TX1, 12, rfl⟩
theorem bt278 : Cond.methodLink RX7 109 yX1_add ∈ BT := bt_of (in_t2 (List.mem_of_getElem? (i := 118) rfl)) rfl
theorem bt279 : Cond.instanceMethod yX1_add ∈ BT := bt_of (in_t2 (List.mem_of_getElem? (i := 119) rfl)) rfl
theorem bt280 : Cond.selects RX1 yX1_add yX1_add ∈ BT := bt_of (in_t2 (List.mem_of_getElem? (i := 120) rfl)) rfl
theorem bt281 : Cond.code yX1_add cX1_add 4 (some .boolean) ∈ BT := bt_of (in_t2 (List.mem_of_getElem? (i := 121) rfl)) rfl
theorem vl_X7_109 (M : Mth) (h : mO M = RX7) : VLk M mX1_add 109 1 3 := ⟨by rw [h]; exact bt278, bt279, bt280, bt103, bt281, ⟨by decide +kernel, by decide +kernel⟩, by decide +kernel, by decide, TX1, 12, rfl⟩
theorem bt282 : Cond.methodLink RX7 112 yX1_reckonTurns ∈ BT := bt_of (in_t2 (List.mem_of_getElem? (i := 122) rfl)) rfl
theorem bt283 : Cond.instanceMethod yX1_reckonTurns ∈ BT := bt_of (in_t2 (List.mem_of_getElem? (i := 123) rfl)) rfl
theorem bt284 : Cond.selects RX1 yX1_reckonTurns yX1_reckonTurns ∈ BT := bt_of (in_t2 (List.mem_of_getElem? (i := 124) rfl)) rfl
theorem bt285 : Cond.code yX1_reckonTurns cX1_reckonTurns 3 none ∈ BT := bt_of (in_t2 (List.mem_of_getElem? (i := 125) rfl)) rfl
theorem vl_X7_112 (M : Mth) (h : mO M = RX7) : VLk M mX1_reckonTurns 112 1 0 := ⟨by rw [h]; exact bt282, bt283, bt284, bt103, bt285, ⟨by decide +kernel, by decide +kernel⟩, by decide +kernel, by decide, TX1, 12, rfl⟩
theorem bt286 : Cond.fieldLink RX7 115 "TurningVillage$Gales" "number" "I" ∈ BT := bt_of (in_t1 (List.mem_of_getElem? (i := 82) rfl)) rfl
theorem fl_X7_115 : FLk RX7 115 1 0 := ⟨RX1, TX1, 12, rfl, by decide, bt286, iB_X1⟩
theorem bt287 : Cond.methodLink RX7 118 yX7_isSheet ∈ BT := bt_of (in_t2 (List.mem_of_getElem? (i := 135) rfl)) rfl
theorem bt288 : Cond.static yX7_isSheet ∈ BT := bt_of (in_t2 (List.mem_of_getElem? (i := 136) rfl)) rfl
theorem bt289 : Cond.code yX7_isSheet cX7_isSheet 1 (some .boolean) ∈ BT := bt_of (in_t2 (List.mem_of_getElem? (i := 137) rfl)) rfl
theorem sl_X7_118 (M : Mth) (h : mO M = RX7) : SLk M mX7_isSheet 118 1 := ⟨by rw [h]; exact bt287, bt288, bt187, bt289, ⟨by decide +kernel, by decide +kernel⟩, by decide +kernel, by decide⟩
theorem bt290 : Cond.fieldLink RX7 58 "TurningVillage" "sheets" "[LTurningVillage$Sheet;" ∈ BT := bt_of (in_t2 (List.mem_of_getElem? (i := 8) rfl)) rfl
theorem fl_X7_58 : FLk RX7 58 7 7 := ⟨RX7, TX7, 9, rfl, by decide, bt290, iB_X7⟩
theorem bt291 : Cond.fieldLink RX7 121 "TurningVillage$Sheet" "lost" "Z" ∈ BT := bt_of (in_t1 (List.mem_of_getElem? (i := 225) rfl)) rfl
theorem fl_X7_121 : FLk RX7 121 4 0 := ⟨RX4, TX4, 4, rfl, by decide, bt291, iB_X4⟩
theorem bt292 : Cond.methodLink RX7 125 yX7_found ∈ BT := bt_of (in_t2 (List.mem_of_getElem? (i := 138) rfl)) rfl
theorem bt293 : Cond.instanceMethod yX7_found ∈ BT := bt_of (in_t2 (List.mem_of_getElem? (i := 140) rfl)) rfl
theorem bt294 : Cond.selects RX7 yX7_found yX7_found ∈ BT := bt_of (in_s1 (n := 9) (List.mem_of_getElem? (i := 9) rfl)) rfl
theorem bt295 : Cond.code yX7_found cX7_found 2 (some .int) ∈ BT := bt_of (in_t2 (List.mem_of_getElem? (i := 141) rfl)) rfl
theorem vl_X7_125 (M : Mth) (h : mO M = RX7) : VLk M mX7_found 125 7 1 := ⟨by rw [h]; exact bt292, bt293, bt294, bt187, bt295, ⟨by decide +kernel, by decide +kernel⟩, by decide +kernel, by decide, TX7, 9, rfl⟩
theorem bt296 : Cond.fieldLink RX7 128 "TurningVillage$Sheet" "size" "I" ∈ BT := bt_of (in_t1 (List.mem_of_getElem? (i := 229) rfl)) rfl
theorem fl_X7_128 : FLk RX7 128 4 2 := ⟨RX4, TX4, 4, rfl, by decide, bt296, iB_X4⟩
theorem bt297 : Cond.fieldLink RX7 131 "TurningVillage$Sheet" "items" "[I" ∈ BT := bt_of (in_t1 (List.mem_of_getElem? (i := 231) rfl)) rfl
theorem fl_X7_131 : FLk RX7 131 4 3 := ⟨RX4, TX4, 4, rfl, by decide, bt297, iB_X4⟩
theorem bt298 : Cond.methodLink RX7 134 yX7_gale ∈ BT := bt_of (in_t2 (List.mem_of_getElem? (i := 142) rfl)) rfl
theorem bt299 : Cond.instanceMethod yX7_gale ∈ BT := bt_of (in_t2 (List.mem_of_getElem? (i := 111) rfl)) rfl
theorem bt300 : Cond.selects RX7 yX7_gale yX7_gale ∈ BT := bt_of (in_t2 (List.mem_of_getElem? (i := 112) rfl)) rfl
theorem bt301 : Cond.code yX7_gale cX7_gale 4 (some .int) ∈ BT := bt_of (in_t2 (List.mem_of_getElem? (i := 113) rfl)) rfl
theorem vl_X7_134 (M : Mth) (h : mO M = RX7) : VLk M mX7_gale 134 7 3 := ⟨by rw [h]; exact bt298, bt299, bt300, bt187, bt301, ⟨by decide +kernel, by decide +kernel⟩, by decide +kernel, by decide, TX7, 9, rfl⟩
theorem bt302 : Cond.methodLink RX7 138 yX1_isTaken ∈ BT := bt_of (in_t2 (List.mem_of_getElem? (i := 147) rfl)) rfl
theorem bt303 : Cond.instanceMethod yX1_isTaken ∈ BT := bt_of (in_t2 (List.mem_of_getElem? (i := 148) rfl)) rfl
theorem bt304 : Cond.selects RX1 yX1_isTaken yX1_isTaken ∈ BT := bt_of (in_t2 (List.mem_of_getElem? (i := 149) rfl)) rfl
theorem bt305 : Cond.code yX1_isTaken cX1_isTaken 2 (some .boolean) ∈ BT := bt_of (in_t2 (List.mem_of_getElem? (i := 150) rfl)) rfl
theorem vl_X7_138 (M : Mth) (h : mO M = RX7) : VLk M mX1_isTaken 138 1 1 := ⟨by rw [h]; exact bt302, bt303, bt304, bt103, bt305, ⟨by decide +kernel, by decide +kernel⟩, by decide +kernel, by decide, TX1, 12, rfl⟩
theorem bt306 : Cond.methodLink RX7 141 yX1_remove ∈ BT := bt_of (in_t2 (List.mem_of_getElem? (i := 151) rfl)) rfl
theorem bt307 : Cond.instanceMethod yX1_remove ∈ BT := bt_of (in_t2 (List.mem_of_getElem? (i := 152) rfl)) rfl
theorem bt308 : Cond.selects RX1 yX1_remove yX1_remove ∈ BT := bt_of (in_t2 (List.mem_of_getElem? (i := 153) rfl)) rfl
theorem bt309 : Cond.code yX1_remove cX1_remove 3 none ∈ BT := bt_of (in_t2 (List.mem_of_getElem? (i := 154) rfl)) rfl
theorem vl_X7_141 (M : Mth) (h : mO M = RX7) : VLk M mX1_remove 141 1 2 := ⟨by rw [h]; exact bt306, bt307, bt308, bt103, bt309, ⟨by decide +kernel, by decide +kernel⟩, by decide +kernel, by decide, TX1, 12, rfl⟩
theorem bt310 : Cond.methodLink RX7 145 yX1_change ∈ BT := bt_of (in_t2 (List.mem_of_getElem? (i := 159) rfl)) rfl
theorem bt311 : Cond.instanceMethod yX1_change ∈ BT := bt_of (in_t2 (List.mem_of_getElem? (i := 160) rfl)) rfl
theorem bt312 : Cond.selects RX1 yX1_change yX1_change ∈ BT := bt_of (in_t2 (List.mem_of_getElem? (i := 161) rfl)) rfl
theorem bt313 : Cond.code yX1_change cX1_change 4 (some .int) ∈ BT := bt_of (in_t2 (List.mem_of_getElem? (i := 162) rfl)) rfl
theorem vl_X7_145 (M : Mth) (h : mO M = RX7) : VLk M mX1_change 145 1 2 := ⟨by rw [h]; exact bt310, bt311, bt312, bt103, bt313, ⟨by decide +kernel, by decide +kernel⟩, by decide +kernel, by decide, TX1, 12, rfl⟩
theorem bt314 : Cond.methodLink RX7 149 yX7_isThing ∈ BT := bt_of (in_t2 (List.mem_of_getElem? (i := 179) rfl)) rfl
theorem bt315 : Cond.static yX7_isThing ∈ BT := bt_of (in_t2 (List.mem_of_getElem? (i := 180) rfl)) rfl
theorem bt316 : Cond.code yX7_isThing cX7_isThing 1 (some .boolean) ∈ BT := bt_of (in_t2 (List.mem_of_getElem? (i := 181) rfl)) rfl
theorem sl_X7_149 (M : Mth) (h : mO M = RX7) : SLk M mX7_isThing 149 1 := ⟨by rw [h]; exact bt314, bt315, bt187, bt316, ⟨by decide +kernel, by decide +kernel⟩, by decide +kernel, by decide⟩
theorem bt317 : Cond.methodLink RX7 152 yX7_isSpan ∈ BT := bt_of (in_t2 (List.mem_of_getElem? (i := 182) rfl)) rfl
theorem bt318 : Cond.static yX7_isSpan ∈ BT := bt_of (in_t2 (List.mem_of_getElem? (i := 183) rfl)) rfl
theorem bt319 : Cond.code yX7_isSpan cX7_isSpan 2 (some .boolean) ∈ BT := bt_of (in_t2 (List.mem_of_getElem? (i := 184) rfl)) rfl
theorem sl_X7_152 (M : Mth) (h : mO M = RX7) : SLk M mX7_isSpan 152 2 := ⟨by rw [h]; exact bt317, bt318, bt187, bt319, ⟨by decide +kernel, by decide +kernel⟩, by decide +kernel, by decide⟩
theorem bt320 : Cond.constantLong RX7 155 (-9223372036854775806) ∈ BT := bt_of (in_t2 (List.mem_of_getElem? (i := 185) rfl)) rfl
theorem bt321 : Cond.methodLink RX7 157 yX1_tally ∈ BT := bt_of (in_t2 (List.mem_of_getElem? (i := 186) rfl)) rfl
theorem bt322 : Cond.instanceMethod yX1_tally ∈ BT := bt_of (in_t2 (List.mem_of_getElem? (i := 187) rfl)) rfl
theorem bt323 : Cond.selects RX1 yX1_tally yX1_tally ∈ BT := bt_of (in_t2 (List.mem_of_getElem? (i := 188) rfl)) rfl
theorem bt324 : Cond.code yX1_tally cX1_tally 4 none ∈ BT := bt_of (in_t2 (List.mem_of_getElem? (i := 189) rfl)) rfl
theorem vl_X7_157 (M : Mth) (h : mO M = RX7) : VLk M mX1_tally 157 1 2 := ⟨by rw [h]; exact bt321, bt322, bt323, bt103, bt324, ⟨by decide +kernel, by decide +kernel⟩, by decide +kernel, by decide, TX1, 12, rfl⟩
theorem bt325 : Cond.methodLink RX7 160 yX7_daysWith ∈ BT := bt_of (in_t2 (List.mem_of_getElem? (i := 190) rfl)) rfl
theorem bt326 : Cond.instanceMethod yX7_daysWith ∈ BT := bt_of (in_t2 (List.mem_of_getElem? (i := 192) rfl)) rfl
theorem bt327 : Cond.selects RX7 yX7_daysWith yX7_daysWith ∈ BT := bt_of (in_s1 (n := 9) (List.mem_of_getElem? (i := 10) rfl)) rfl
theorem bt328 : Cond.code yX7_daysWith cX7_daysWith 5 (some .int) ∈ BT := bt_of (in_t2 (List.mem_of_getElem? (i := 193) rfl)) rfl
theorem vl_X7_160 (M : Mth) (h : mO M = RX7) : VLk M mX7_daysWith 160 7 2 := ⟨by rw [h]; exact bt325, bt326, bt327, bt187, bt328, ⟨by decide +kernel, by decide +kernel⟩, by decide +kernel, by decide, TX7, 9, rfl⟩
theorem bt329 : Cond.methodLink RX7 163 yX7_lowestTerms ∈ BT := bt_of (in_t2 (List.mem_of_getElem? (i := 194) rfl)) rfl
theorem bt330 : Cond.static yX7_lowestTerms ∈ BT := bt_of (in_t2 (List.mem_of_getElem? (i := 195) rfl)) rfl
theorem bt331 : Cond.code yX7_lowestTerms cX7_lowestTerms 12 (some .long) ∈ BT := bt_of (in_t2 (List.mem_of_getElem? (i := 196) rfl)) rfl
theorem sl_X7_163 (M : Mth) (h : mO M = RX7) : SLk M mX7_lowestTerms 163 3 := ⟨by rw [h]; exact bt329, bt330, bt187, bt331, ⟨by decide +kernel, by decide +kernel⟩, by decide +kernel, by decide⟩
theorem bt332 : Cond.fieldLink RX7 167 "TurningVillage$Gales" "daysOfTurn" "[I" ∈ BT := bt_of (in_t1 (List.mem_of_getElem? (i := 97) rfl)) rfl
theorem fl_X7_167 : FLk RX7 167 1 10 := ⟨RX1, TX1, 12, rfl, by decide, bt332, iB_X1⟩
theorem bt333 : Cond.methodLink RX7 170 yJ9_min_7cf53 ∈ BT := bt_of (in_t2 (List.mem_of_getElem? (i := 205) rfl)) rfl
theorem sl_X7_170 (M : Mth) (h : mO M = RX7) : SLk M mJ9_min_7cf53 170 2 := ⟨by rw [h]; exact bt333, bt140, bt141, bt142, ⟨by decide +kernel, by decide +kernel⟩, by decide +kernel, by decide⟩
theorem bt334 : Cond.methodLink RX7 175 yX1_findFirstDays ∈ BT := bt_of (in_t2 (List.mem_of_getElem? (i := 212) rfl)) rfl
theorem bt335 : Cond.instanceMethod yX1_findFirstDays ∈ BT := bt_of (in_t2 (List.mem_of_getElem? (i := 213) rfl)) rfl
theorem bt336 : Cond.selects RX1 yX1_findFirstDays yX1_findFirstDays ∈ BT := bt_of (in_t2 (List.mem_of_getElem? (i := 214) rfl)) rfl
theorem bt337 : Cond.code yX1_findFirstDays cX1_findFirstDays 3 none ∈ BT := bt_of (in_t2 (List.mem_of_getElem? (i := 215) rfl)) rfl
theorem vl_X7_175 (M : Mth) (h : mO M = RX7) : VLk M mX1_findFirstDays 175 1 1 := ⟨by rw [h]; exact bt334, bt335, bt336, bt103, bt337, ⟨by decide +kernel, by decide +kernel⟩, by decide +kernel, by decide, TX1, 12, rfl⟩
theorem bt338 : Cond.methodLink RX7 179 yX3_canWork ∈ BT := bt_of (in_t2 (List.mem_of_getElem? (i := 216) rfl)) rfl
theorem bt339 : Cond.instanceMethod yX3_canWork ∈ BT := bt_of (in_t2 (List.mem_of_getElem? (i := 217) rfl)) rfl
theorem bt340 : Cond.selects RX3 yX3_canWork yX3_canWork ∈ BT := bt_of (in_t2 (List.mem_of_getElem? (i := 218) rfl)) rfl
theorem bt341 : Cond.code yX3_canWork cX3_canWork 5 (some .boolean) ∈ BT := bt_of (in_t2 (List.mem_of_getElem? (i := 219) rfl)) rfl
theorem vl_X7_179 (M : Mth) (h : mO M = RX7) : VLk M mX3_canWork 179 3 4 := ⟨by rw [h]; exact bt338, bt339, bt340, bt148, bt341, ⟨by decide +kernel, by decide +kernel⟩, by decide +kernel, by decide, TX3, 11, rfl⟩
theorem bt342 : Cond.fieldLink RX7 183 "TurningVillage$Gales" "firstDays" "[I" ∈ BT := bt_of (in_t1 (List.mem_of_getElem? (i := 99) rfl)) rfl
theorem fl_X7_183 : FLk RX7 183 1 11 := ⟨RX1, TX1, 12, rfl, by decide, bt342, iB_X1⟩
theorem bt343 : Cond.fieldLink RX7 28 "TurningVillage" "chance" "LTurningVillage$Chance;" ∈ BT := bt_of (in_t2 (List.mem_of_getElem? (i := 3) rfl)) rfl
theorem fl_X7_28 : FLk RX7 28 7 2 := ⟨RX7, TX7, 9, rfl, by decide, bt343, iB_X7⟩
theorem bt344 : Cond.methodLink RX7 186 yX0_begin ∈ BT := bt_of (in_t2 (List.mem_of_getElem? (i := 224) rfl)) rfl
theorem bt345 : Cond.instanceMethod yX0_begin ∈ BT := bt_of (in_t2 (List.mem_of_getElem? (i := 225) rfl)) rfl
theorem bt346 : Cond.selects RX0 yX0_begin yX0_begin ∈ BT := bt_of (in_t2 (List.mem_of_getElem? (i := 226) rfl)) rfl
theorem bt347 : Cond.initialized RX0 ∈ BT := bt_of (in_t1 (List.mem_of_getElem? (i := 4) rfl)) rfl
theorem bt348 : Cond.code yX0_begin cX0_begin 2 none ∈ BT := bt_of (in_t2 (List.mem_of_getElem? (i := 227) rfl)) rfl
theorem vl_X7_186 (M : Mth) (h : mO M = RX7) : VLk M mX0_begin 186 0 1 := ⟨by rw [h]; exact bt344, bt345, bt346, bt347, bt348, ⟨by decide +kernel, by decide +kernel⟩, by decide +kernel, by decide, TX0, 2, rfl⟩
theorem bt349 : Cond.methodLink RX7 189 yX0_oneDay ∈ BT := bt_of (in_t2 (List.mem_of_getElem? (i := 231) rfl)) rfl
theorem bt350 : Cond.instanceMethod yX0_oneDay ∈ BT := bt_of (in_t2 (List.mem_of_getElem? (i := 232) rfl)) rfl
theorem bt351 : Cond.selects RX0 yX0_oneDay yX0_oneDay ∈ BT := bt_of (in_t2 (List.mem_of_getElem? (i := 233) rfl)) rfl
theorem bt352 : Cond.code yX0_oneDay cX0_oneDay 7 none ∈ BT := bt_of (in_t2 (List.mem_of_getElem? (i := 234) rfl)) rfl
theorem vl_X7_189 (M : Mth) (h : mO M = RX7) : VLk M mX0_oneDay 189 0 1 := ⟨by rw [h]; exact bt349, bt350, bt351, bt347, bt352, ⟨by decide +kernel, by decide +kernel⟩, by decide +kernel, by decide, TX0, 2, rfl⟩
theorem bt353 : Cond.fieldLink RX7 192 "TurningVillage$Chance" "weights" "[J" ∈ BT := bt_of (in_t1 (List.mem_of_getElem? (i := 132) rfl)) rfl
theorem fl_X7_192 : FLk RX7 192 0 0 := ⟨RX0, TX0, 2, rfl, by decide, bt353, iB_X0⟩
theorem bt354 : Cond.fieldLink RX7 196 "TurningVillage$Chance" "all" "J" ∈ BT := bt_of (in_t1 (List.mem_of_getElem? (i := 134) rfl)) rfl
theorem fl_X7_196 : FLk RX7 196 0 1 := ⟨RX0, TX0, 2, rfl, by decide, bt354, iB_X0⟩
theorem bt355 : Cond.methodLink RX7 200 yX0_left ∈ BT := bt_of (in_t2 (List.mem_of_getElem? (i := 236) rfl)) rfl
theorem bt356 : Cond.instanceMethod yX0_left ∈ BT := bt_of (in_t2 (List.mem_of_getElem? (i := 237) rfl)) rfl
theorem bt357 : Cond.selects RX0 yX0_left yX0_left ∈ BT := bt_of (in_t2 (List.mem_of_getElem? (i := 238) rfl)) rfl
theorem bt358 : Cond.code yX0_left cX0_left 4 (some .long) ∈ BT := bt_of (in_t2 (List.mem_of_getElem? (i := 239) rfl)) rfl
theorem vl_X7_200 (M : Mth) (h : mO M = RX7) : VLk M mX0_left 200 0 0 := ⟨by rw [h]; exact bt355, bt356, bt357, bt347, bt358, ⟨by decide +kernel, by decide +kernel⟩, by decide +kernel, by decide, TX0, 2, rfl⟩
theorem bt359 : Cond.methodLink RX7 204 yX7_walkTo ∈ BT := bt_of (in_t3 (List.mem_of_getElem? (i := 4) rfl)) rfl
theorem bt360 : Cond.instanceMethod yX7_walkTo ∈ BT := bt_of (in_t3 (List.mem_of_getElem? (i := 6) rfl)) rfl
theorem bt361 : Cond.selects RX7 yX7_walkTo yX7_walkTo ∈ BT := bt_of (in_s1 (n := 9) (List.mem_of_getElem? (i := 11) rfl)) rfl
theorem bt362 : Cond.code yX7_walkTo cX7_walkTo 5 (some .int) ∈ BT := bt_of (in_t3 (List.mem_of_getElem? (i := 7) rfl)) rfl
theorem vl_X7_204 (M : Mth) (h : mO M = RX7) : VLk M mX7_walkTo 204 7 3 := ⟨by rw [h]; exact bt359, bt360, bt361, bt187, bt362, ⟨by decide +kernel, by decide +kernel⟩, by decide +kernel, by decide, TX7, 9, rfl⟩
theorem bt363 : Cond.fieldLink RX7 35 "TurningVillage" "walker" "LTurningVillage$Walker;" ∈ BT := bt_of (in_t2 (List.mem_of_getElem? (i := 4) rfl)) rfl
theorem fl_X7_35 : FLk RX7 35 7 3 := ⟨RX7, TX7, 9, rfl, by decide, bt363, iB_X7⟩
theorem bt364 : Cond.methodLink RX7 207 yX6_stepsTo ∈ BT := bt_of (in_t3 (List.mem_of_getElem? (i := 34) rfl)) rfl
theorem bt365 : Cond.instanceMethod yX6_stepsTo ∈ BT := bt_of (in_t3 (List.mem_of_getElem? (i := 35) rfl)) rfl
theorem bt366 : Cond.selects RX6 yX6_stepsTo yX6_stepsTo ∈ BT := bt_of (in_t3 (List.mem_of_getElem? (i := 36) rfl)) rfl
theorem bt367 : Cond.code yX6_stepsTo cX6_stepsTo 2 (some .int) ∈ BT := bt_of (in_t3 (List.mem_of_getElem? (i := 37) rfl)) rfl
theorem vl_X7_207 (M : Mth) (h : mO M = RX7) : VLk M mX6_stepsTo 207 6 1 := ⟨by rw [h]; exact bt364, bt365, bt366, bt238, bt367, ⟨by decide +kernel, by decide +kernel⟩, by decide +kernel, by decide, TX6, 2, rfl⟩
theorem bt368 : Cond.methodLink RX7 210 yX6_begin ∈ BT := bt_of (in_t3 (List.mem_of_getElem? (i := 8) rfl)) rfl
theorem bt369 : Cond.instanceMethod yX6_begin ∈ BT := bt_of (in_t3 (List.mem_of_getElem? (i := 9) rfl)) rfl
theorem bt370 : Cond.selects RX6 yX6_begin yX6_begin ∈ BT := bt_of (in_t3 (List.mem_of_getElem? (i := 10) rfl)) rfl
theorem bt371 : Cond.code yX6_begin cX6_begin 2 none ∈ BT := bt_of (in_t3 (List.mem_of_getElem? (i := 11) rfl)) rfl
theorem vl_X7_210 (M : Mth) (h : mO M = RX7) : VLk M mX6_begin 210 6 1 := ⟨by rw [h]; exact bt368, bt369, bt370, bt238, bt371, ⟨by decide +kernel, by decide +kernel⟩, by decide +kernel, by decide, TX6, 2, rfl⟩
theorem bt372 : Cond.fieldLink RX7 39 "TurningVillage" "companion" "LTurningVillage$Walker;" ∈ BT := bt_of (in_t2 (List.mem_of_getElem? (i := 5) rfl)) rfl
theorem fl_X7_39 : FLk RX7 39 7 4 := ⟨RX7, TX7, 9, rfl, by decide, bt372, iB_X7⟩
theorem bt373 : Cond.methodLink RX7 211 yX6_oneDay ∈ BT := bt_of (in_t3 (List.mem_of_getElem? (i := 13) rfl)) rfl
theorem bt374 : Cond.instanceMethod yX6_oneDay ∈ BT := bt_of (in_t3 (List.mem_of_getElem? (i := 14) rfl)) rfl
theorem bt375 : Cond.selects RX6 yX6_oneDay yX6_oneDay ∈ BT := bt_of (in_t3 (List.mem_of_getElem? (i := 15) rfl)) rfl
theorem bt376 : Cond.code yX6_oneDay cX6_oneDay 5 none ∈ BT := bt_of (in_t3 (List.mem_of_getElem? (i := 16) rfl)) rfl
theorem vl_X7_211 (M : Mth) (h : mO M = RX7) : VLk M mX6_oneDay 211 6 2 := ⟨by rw [h]; exact bt373, bt374, bt375, bt238, bt376, ⟨by decide +kernel, by decide +kernel⟩, by decide +kernel, by decide, TX6, 2, rfl⟩
theorem bt377 : Cond.methodLink RX7 214 yX6_isOn ∈ BT := bt_of (in_t3 (List.mem_of_getElem? (i := 26) rfl)) rfl
theorem bt378 : Cond.instanceMethod yX6_isOn ∈ BT := bt_of (in_t3 (List.mem_of_getElem? (i := 27) rfl)) rfl
theorem bt379 : Cond.selects RX6 yX6_isOn yX6_isOn ∈ BT := bt_of (in_t3 (List.mem_of_getElem? (i := 28) rfl)) rfl
theorem bt380 : Cond.code yX6_isOn cX6_isOn 2 (some .boolean) ∈ BT := bt_of (in_t3 (List.mem_of_getElem? (i := 29) rfl)) rfl
theorem vl_X7_214 (M : Mth) (h : mO M = RX7) : VLk M mX6_isOn 214 6 1 := ⟨by rw [h]; exact bt377, bt378, bt379, bt238, bt380, ⟨by decide +kernel, by decide +kernel⟩, by decide +kernel, by decide, TX6, 2, rfl⟩
theorem bt381 : Cond.fieldLink RX7 45 "TurningVillage" "tenants" "LTurningVillage$Tenants;" ∈ BT := bt_of (in_t2 (List.mem_of_getElem? (i := 6) rfl)) rfl
theorem fl_X7_45 : FLk RX7 45 7 5 := ⟨RX7, TX7, 9, rfl, by decide, bt381, iB_X7⟩
theorem bt382 : Cond.methodLink RX7 217 yX5_changeWish ∈ BT := bt_of (in_t3 (List.mem_of_getElem? (i := 46) rfl)) rfl
theorem bt383 : Cond.instanceMethod yX5_changeWish ∈ BT := bt_of (in_t3 (List.mem_of_getElem? (i := 47) rfl)) rfl
theorem bt384 : Cond.selects RX5 yX5_changeWish yX5_changeWish ∈ BT := bt_of (in_t3 (List.mem_of_getElem? (i := 48) rfl)) rfl
theorem bt385 : Cond.code yX5_changeWish cX5_changeWish 6 (some .int) ∈ BT := bt_of (in_t3 (List.mem_of_getElem? (i := 49) rfl)) rfl
theorem vl_X7_217 (M : Mth) (h : mO M = RX7) : VLk M mX5_changeWish 217 5 3 := ⟨by rw [h]; exact bt382, bt383, bt384, bt205, bt385, ⟨by decide +kernel, by decide +kernel⟩, by decide +kernel, by decide, TX5, 5, rfl⟩
theorem bt386 : Cond.fieldLink RX7 220 "TurningVillage$Tenants" "rows" "[I" ∈ BT := bt_of (in_t1 (List.mem_of_getElem? (i := 161) rfl)) rfl
theorem fl_X7_220 : FLk RX7 220 5 0 := ⟨RX5, TX5, 5, rfl, by decide, bt386, iB_X5⟩
theorem bt387 : Cond.methodLink RX7 223 yX5_joyIn ∈ BT := bt_of (in_t3 (List.mem_of_getElem? (i := 58) rfl)) rfl
theorem vl_X7_223 (M : Mth) (h : mO M = RX7) : VLk M mX5_joyIn 223 5 4 := ⟨by rw [h]; exact bt387, bt203, bt204, bt205, bt206, ⟨by decide +kernel, by decide +kernel⟩, by decide +kernel, by decide, TX5, 5, rfl⟩
theorem bt388 : Cond.methodLink RX7 227 yX7_reckonJoys ∈ BT := bt_of (in_t3 (List.mem_of_getElem? (i := 66) rfl)) rfl
theorem bt389 : Cond.instanceMethod yX7_reckonJoys ∈ BT := bt_of (in_t3 (List.mem_of_getElem? (i := 68) rfl)) rfl
theorem bt390 : Cond.selects RX7 yX7_reckonJoys yX7_reckonJoys ∈ BT := bt_of (in_s1 (n := 9) (List.mem_of_getElem? (i := 13) rfl)) rfl
theorem bt391 : Cond.code yX7_reckonJoys cX7_reckonJoys 3 none ∈ BT := bt_of (in_t3 (List.mem_of_getElem? (i := 69) rfl)) rfl
theorem vl_X7_227 (M : Mth) (h : mO M = RX7) : VLk M mX7_reckonJoys 227 7 2 := ⟨by rw [h]; exact bt388, bt389, bt390, bt187, bt391, ⟨by decide +kernel, by decide +kernel⟩, by decide +kernel, by decide, TX7, 9, rfl⟩
theorem bt392 : Cond.methodLink RX7 230 yX5_changeUntilNobodyWould ∈ BT := bt_of (in_t3 (List.mem_of_getElem? (i := 75) rfl)) rfl
theorem bt393 : Cond.instanceMethod yX5_changeUntilNobodyWould ∈ BT := bt_of (in_t3 (List.mem_of_getElem? (i := 76) rfl)) rfl
theorem bt394 : Cond.selects RX5 yX5_changeUntilNobodyWould yX5_changeUntilNobodyWould ∈ BT := bt_of (in_t3 (List.mem_of_getElem? (i := 77) rfl)) rfl
theorem bt395 : Cond.code yX5_changeUntilNobodyWould cX5_changeUntilNobodyWould 2 (some .int) ∈ BT := bt_of (in_t3 (List.mem_of_getElem? (i := 78) rfl)) rfl
theorem vl_X7_230 (M : Mth) (h : mO M = RX7) : VLk M mX5_changeUntilNobodyWould 230 5 0 := ⟨by rw [h]; exact bt392, bt393, bt394, bt205, bt395, ⟨by decide +kernel, by decide +kernel⟩, by decide +kernel, by decide, TX5, 5, rfl⟩
theorem bt396 : Cond.methodLink RX7 233 yX5_findBest ∈ BT := bt_of (in_t3 (List.mem_of_getElem? (i := 91) rfl)) rfl
theorem bt397 : Cond.instanceMethod yX5_findBest ∈ BT := bt_of (in_t3 (List.mem_of_getElem? (i := 92) rfl)) rfl
theorem bt398 : Cond.selects RX5 yX5_findBest yX5_findBest ∈ BT := bt_of (in_t3 (List.mem_of_getElem? (i := 93) rfl)) rfl
theorem bt399 : Cond.code yX5_findBest cX5_findBest 5 none ∈ BT := bt_of (in_t3 (List.mem_of_getElem? (i := 94) rfl)) rfl
theorem vl_X7_233 (M : Mth) (h : mO M = RX7) : VLk M mX5_findBest 233 5 0 := ⟨by rw [h]; exact bt396, bt397, bt398, bt205, bt399, ⟨by decide +kernel, by decide +kernel⟩, by decide +kernel, by decide, TX5, 5, rfl⟩
theorem bt400 : Cond.methodLink RX7 236 yX5_bestJoy ∈ BT := bt_of (in_t3 (List.mem_of_getElem? (i := 112) rfl)) rfl
theorem bt401 : Cond.instanceMethod yX5_bestJoy ∈ BT := bt_of (in_t3 (List.mem_of_getElem? (i := 113) rfl)) rfl
theorem bt402 : Cond.selects RX5 yX5_bestJoy yX5_bestJoy ∈ BT := bt_of (in_t3 (List.mem_of_getElem? (i := 114) rfl)) rfl
theorem bt403 : Cond.code yX5_bestJoy cX5_bestJoy 1 (some .int) ∈ BT := bt_of (in_t3 (List.mem_of_getElem? (i := 115) rfl)) rfl
theorem vl_X7_236 (M : Mth) (h : mO M = RX7) : VLk M mX5_bestJoy 236 5 0 := ⟨by rw [h]; exact bt400, bt401, bt402, bt205, bt403, ⟨by decide +kernel, by decide +kernel⟩, by decide +kernel, by decide, TX5, 5, rfl⟩
theorem bt404 : Cond.fieldLink RX7 239 "TurningVillage$Tenants" "bestRows" "[I" ∈ BT := bt_of (in_t1 (List.mem_of_getElem? (i := 166) rfl)) rfl
theorem fl_X7_239 : FLk RX7 239 5 4 := ⟨RX5, TX5, 5, rfl, by decide, bt404, iB_X5⟩
theorem bt405 : Cond.methodLink RX7 242 yX5_envious ∈ BT := bt_of (in_t3 (List.mem_of_getElem? (i := 120) rfl)) rfl
theorem bt406 : Cond.instanceMethod yX5_envious ∈ BT := bt_of (in_t3 (List.mem_of_getElem? (i := 121) rfl)) rfl
theorem bt407 : Cond.selects RX5 yX5_envious yX5_envious ∈ BT := bt_of (in_t3 (List.mem_of_getElem? (i := 122) rfl)) rfl
theorem bt408 : Cond.code yX5_envious cX5_envious 5 (some .int) ∈ BT := bt_of (in_t3 (List.mem_of_getElem? (i := 123) rfl)) rfl
theorem vl_X7_242 (M : Mth) (h : mO M = RX7) : VLk M mX5_envious 242 5 0 := ⟨by rw [h]; exact bt405, bt406, bt407, bt205, bt408, ⟨by decide +kernel, by decide +kernel⟩, by decide +kernel, by decide, TX5, 5, rfl⟩
theorem bt409 : Cond.fieldLink RX7 52 "TurningVillage" "harvest" "LTurningVillage$Harvest;" ∈ BT := bt_of (in_t2 (List.mem_of_getElem? (i := 7) rfl)) rfl
theorem fl_X7_52 : FLk RX7 52 7 6 := ⟨RX7, TX7, 9, rfl, by decide, bt409, iB_X7⟩
theorem bt410 : Cond.fieldLink RX7 245 "TurningVillage$Harvest" "known" "[I" ∈ BT := bt_of (in_t1 (List.mem_of_getElem? (i := 185) rfl)) rfl
theorem fl_X7_245 : FLk RX7 245 2 0 := ⟨RX2, TX2, 9, rfl, by decide, bt410, iB_X2⟩
theorem bt411 : Cond.fieldLink RX7 248 "TurningVillage$Gales" "begin" "I" ∈ BT := bt_of (in_t1 (List.mem_of_getElem? (i := 93) rfl)) rfl
theorem fl_X7_248 : FLk RX7 248 1 8 := ⟨RX1, TX1, 12, rfl, by decide, bt411, iB_X1⟩
theorem bt412 : Cond.methodLink RX7 250 yX2_search ∈ BT := bt_of (in_t3 (List.mem_of_getElem? (i := 132) rfl)) rfl
theorem bt413 : Cond.instanceMethod yX2_search ∈ BT := bt_of (in_t3 (List.mem_of_getElem? (i := 133) rfl)) rfl
theorem bt414 : Cond.selects RX2 yX2_search yX2_search ∈ BT := bt_of (in_t3 (List.mem_of_getElem? (i := 134) rfl)) rfl
theorem bt415 : Cond.code yX2_search cX2_search 9 none ∈ BT := bt_of (in_t3 (List.mem_of_getElem? (i := 135) rfl)) rfl
theorem vl_X7_250 (M : Mth) (h : mO M = RX7) : VLk M mX2_search 250 2 3 := ⟨by rw [h]; exact bt412, bt413, bt414, bt114, bt415, ⟨by decide +kernel, by decide +kernel⟩, by decide +kernel, by decide, TX2, 9, rfl⟩
theorem bt416 : Cond.fieldLink RX7 254 "TurningVillage$Harvest" "fitting" "I" ∈ BT := bt_of (in_t1 (List.mem_of_getElem? (i := 191) rfl)) rfl
theorem fl_X7_254 : FLk RX7 254 2 5 := ⟨RX2, TX2, 9, rfl, by decide, bt416, iB_X2⟩
theorem bt417 : Cond.fieldLink RX7 257 "TurningVillage$Harvest" "first" "I" ∈ BT := bt_of (in_t1 (List.mem_of_getElem? (i := 193) rfl)) rfl
theorem fl_X7_257 : FLk RX7 257 2 6 := ⟨RX2, TX2, 9, rfl, by decide, bt417, iB_X2⟩
theorem bt418 : Cond.fieldLink RX7 260 "TurningVillage$Harvest" "sureWith" "I" ∈ BT := bt_of (in_t1 (List.mem_of_getElem? (i := 195) rfl)) rfl
theorem fl_X7_260 : FLk RX7 260 2 7 := ⟨RX2, TX2, 9, rfl, by decide, bt418, iB_X2⟩
theorem bt419 : Cond.fieldLink RX7 263 "TurningVillage$Harvest" "sureWithout" "I" ∈ BT := bt_of (in_t1 (List.mem_of_getElem? (i := 197) rfl)) rfl
theorem fl_X7_263 : FLk RX7 263 2 8 := ⟨RX2, TX2, 9, rfl, by decide, bt419, iB_X2⟩
theorem bt420 : Cond.methodLink RX7 266 yX7_longestWait ∈ BT := bt_of (in_t3 (List.mem_of_getElem? (i := 158) rfl)) rfl
theorem bt421 : Cond.instanceMethod yX7_longestWait ∈ BT := bt_of (in_t3 (List.mem_of_getElem? (i := 160) rfl)) rfl
theorem bt422 : Cond.selects RX7 yX7_longestWait yX7_longestWait ∈ BT := bt_of (in_s2 (n := 9) (List.mem_of_getElem? (i := 5) rfl)) rfl
theorem bt423 : Cond.code yX7_longestWait cX7_longestWait 8 (some .int) ∈ BT := bt_of (in_t3 (List.mem_of_getElem? (i := 161) rfl)) rfl
theorem vl_X7_266 (M : Mth) (h : mO M = RX7) : VLk M mX7_longestWait 266 7 2 := ⟨by rw [h]; exact bt420, bt421, bt422, bt187, bt423, ⟨by decide +kernel, by decide +kernel⟩, by decide +kernel, by decide, TX7, 9, rfl⟩
theorem bt424 : Cond.methodLink RX7 269 yX7_isForm ∈ BT := bt_of (in_t3 (List.mem_of_getElem? (i := 171) rfl)) rfl
theorem bt425 : Cond.static yX7_isForm ∈ BT := bt_of (in_t3 (List.mem_of_getElem? (i := 172) rfl)) rfl
theorem bt426 : Cond.code yX7_isForm cX7_isForm 1 (some .boolean) ∈ BT := bt_of (in_t3 (List.mem_of_getElem? (i := 173) rfl)) rfl
theorem sl_X7_269 (M : Mth) (h : mO M = RX7) : SLk M mX7_isForm 269 1 := ⟨by rw [h]; exact bt424, bt425, bt187, bt426, ⟨by decide +kernel, by decide +kernel⟩, by decide +kernel, by decide⟩
theorem bt427 : Cond.methodLink RX7 272 yX4_renew ∈ BT := bt_of (in_t3 (List.mem_of_getElem? (i := 174) rfl)) rfl
theorem bt428 : Cond.instanceMethod yX4_renew ∈ BT := bt_of (in_t3 (List.mem_of_getElem? (i := 175) rfl)) rfl
theorem bt429 : Cond.selects RX4 yX4_renew yX4_renew ∈ BT := bt_of (in_t3 (List.mem_of_getElem? (i := 176) rfl)) rfl
theorem bt430 : Cond.initialized RX4 ∈ BT := bt_of (in_t1 (List.mem_of_getElem? (i := 8) rfl)) rfl
theorem bt431 : Cond.code yX4_renew cX4_renew 3 none ∈ BT := bt_of (in_t3 (List.mem_of_getElem? (i := 177) rfl)) rfl
theorem vl_X7_272 (M : Mth) (h : mO M = RX7) : VLk M mX4_renew 272 4 2 := ⟨by rw [h]; exact bt427, bt428, bt429, bt430, bt431, ⟨by decide +kernel, by decide +kernel⟩, by decide +kernel, by decide, TX4, 4, rfl⟩
theorem fp_X7_121 : FPk RX7 121 4 0 .boolean := ⟨RX4, TX4, 4, tyX4, rfl, by decide, bt291, iB_X4, tyX4_ok, nmX4, rfl, by decide +kernel⟩
theorem bt432 : Cond.methodLink RX7 275 yX4_findingAt ∈ BT := bt_of (in_t3 (List.mem_of_getElem? (i := 187) rfl)) rfl
theorem bt433 : Cond.instanceMethod yX4_findingAt ∈ BT := bt_of (in_t3 (List.mem_of_getElem? (i := 188) rfl)) rfl
theorem bt434 : Cond.selects RX4 yX4_findingAt yX4_findingAt ∈ BT := bt_of (in_t3 (List.mem_of_getElem? (i := 189) rfl)) rfl
theorem bt435 : Cond.code yX4_findingAt cX4_findingAt 3 (some .int) ∈ BT := bt_of (in_t3 (List.mem_of_getElem? (i := 190) rfl)) rfl
theorem vl_X7_275 (M : Mth) (h : mO M = RX7) : VLk M mX4_findingAt 275 4 2 := ⟨by rw [h]; exact bt432, bt433, bt434, bt430, bt435, ⟨by decide +kernel, by decide +kernel⟩, by decide +kernel, by decide, TX4, 4, rfl⟩
theorem bt436 : Cond.methodLink RX7 278 yX4_keep ∈ BT := bt_of (in_t3 (List.mem_of_getElem? (i := 191) rfl)) rfl
theorem bt437 : Cond.instanceMethod yX4_keep ∈ BT := bt_of (in_t3 (List.mem_of_getElem? (i := 192) rfl)) rfl
theorem bt438 : Cond.selects RX4 yX4_keep yX4_keep ∈ BT := bt_of (in_t3 (List.mem_of_getElem? (i := 193) rfl)) rfl
theorem bt439 : Cond.code yX4_keep cX4_keep 3 none ∈ BT := bt_of (in_t3 (List.mem_of_getElem? (i := 194) rfl)) rfl
theorem vl_X7_278 (M : Mth) (h : mO M = RX7) : VLk M mX4_keep 278 4 2 := ⟨by rw [h]; exact bt436, bt437, bt438, bt430, bt439, ⟨by decide +kernel, by decide +kernel⟩, by decide +kernel, by decide, TX4, 4, rfl⟩
theorem bt440 : Cond.constant RX7 283 (-2147483648) ∈ BT := bt_of (in_t3 (List.mem_of_getElem? (i := 199) rfl)) rfl
theorem bt441 : Cond.fieldLink RX7 284 "TurningVillage" "finding" "I" ∈ BT := bt_of (in_t2 (List.mem_of_getElem? (i := 9) rfl)) rfl
theorem fp_X7_284 : FPk RX7 284 7 8 .int := ⟨RX7, TX7, 9, tyX7, rfl, by decide, bt441, iB_X7, tyX7_ok, nmX7, rfl, by decide +kernel⟩
theorem bt442 : Cond.fieldLink RX7 287 "TurningVillage$Sheet" "form" "I" ∈ BT := bt_of (in_t1 (List.mem_of_getElem? (i := 227) rfl)) rfl
theorem fl_X7_287 : FLk RX7 287 4 1 := ⟨RX4, TX4, 4, rfl, by decide, bt442, iB_X4⟩
theorem bt443 : Cond.methodLink RX7 290 yX4_has ∈ BT := bt_of (in_t3 (List.mem_of_getElem? (i := 204) rfl)) rfl
theorem bt444 : Cond.instanceMethod yX4_has ∈ BT := bt_of (in_t3 (List.mem_of_getElem? (i := 205) rfl)) rfl
theorem bt445 : Cond.selects RX4 yX4_has yX4_has ∈ BT := bt_of (in_t3 (List.mem_of_getElem? (i := 206) rfl)) rfl
theorem bt446 : Cond.code yX4_has cX4_has 3 (some .boolean) ∈ BT := bt_of (in_t3 (List.mem_of_getElem? (i := 207) rfl)) rfl
theorem vl_X7_290 (M : Mth) (h : mO M = RX7) : VLk M mX4_has 290 4 2 := ⟨by rw [h]; exact bt443, bt444, bt445, bt430, bt446, ⟨by decide +kernel, by decide +kernel⟩, by decide +kernel, by decide, TX4, 4, rfl⟩
theorem bt447 : Cond.methodLink RX7 293 arraycopyName ∈ BT := bt_of (in_t3 (List.mem_of_getElem? (i := 208) rfl)) rfl
theorem bt448 : Cond.methodLink RX7 299 yX1_counting ∈ BT := bt_of (in_t3 (List.mem_of_getElem? (i := 217) rfl)) rfl
theorem bt449 : Cond.instanceMethod yX1_counting ∈ BT := bt_of (in_t3 (List.mem_of_getElem? (i := 218) rfl)) rfl
theorem bt450 : Cond.selects RX1 yX1_counting yX1_counting ∈ BT := bt_of (in_t3 (List.mem_of_getElem? (i := 219) rfl)) rfl
theorem bt451 : Cond.code yX1_counting cX1_counting 3 (some .int) ∈ BT := bt_of (in_t3 (List.mem_of_getElem? (i := 220) rfl)) rfl
theorem vl_X7_299 (M : Mth) (h : mO M = RX7) : VLk M mX1_counting 299 1 0 := ⟨by rw [h]; exact bt448, bt449, bt450, bt103, bt451, ⟨by decide +kernel, by decide +kernel⟩, by decide +kernel, by decide, TX1, 12, rfl⟩
theorem bt452 : Cond.fieldLink RX7 302 "TurningVillage$Land" "length" "I" ∈ BT := bt_of (in_t1 (List.mem_of_getElem? (i := 30) rfl)) rfl
theorem fl_X7_302 : FLk RX7 302 3 1 := ⟨RX3, TX3, 11, rfl, by decide, bt452, iB_X3⟩
theorem bt453 : Cond.methodLink RX7 305 yX3_closedPaths ∈ BT := bt_of (in_t3 (List.mem_of_getElem? (i := 221) rfl)) rfl
theorem bt454 : Cond.instanceMethod yX3_closedPaths ∈ BT := bt_of (in_t3 (List.mem_of_getElem? (i := 222) rfl)) rfl
theorem bt455 : Cond.selects RX3 yX3_closedPaths yX3_closedPaths ∈ BT := bt_of (in_t3 (List.mem_of_getElem? (i := 223) rfl)) rfl
theorem bt456 : Cond.code yX3_closedPaths cX3_closedPaths 3 (some .int) ∈ BT := bt_of (in_t3 (List.mem_of_getElem? (i := 224) rfl)) rfl
theorem vl_X7_305 (M : Mth) (h : mO M = RX7) : VLk M mX3_closedPaths 305 3 0 := ⟨by rw [h]; exact bt453, bt454, bt455, bt148, bt456, ⟨by decide +kernel, by decide +kernel⟩, by decide +kernel, by decide, TX3, 11, rfl⟩
theorem bt457 : Cond.fieldLink RX7 308 "TurningVillage$Gales" "asOf" "I" ∈ BT := bt_of (in_t1 (List.mem_of_getElem? (i := 89) rfl)) rfl
theorem fl_X7_308 : FLk RX7 308 1 6 := ⟨RX1, TX1, 12, rfl, by decide, bt457, iB_X1⟩
theorem bt458 : Cond.fieldLink RX7 311 "TurningVillage$Gales" "wing" "I" ∈ BT := bt_of (in_t1 (List.mem_of_getElem? (i := 91) rfl)) rfl
theorem fl_X7_311 : FLk RX7 311 1 7 := ⟨RX1, TX1, 12, rfl, by decide, bt458, iB_X1⟩
theorem bt459 : Cond.methodLink RX7 314 yX5_inOwnRow ∈ BT := bt_of (in_t3 (List.mem_of_getElem? (i := 225) rfl)) rfl
theorem bt460 : Cond.instanceMethod yX5_inOwnRow ∈ BT := bt_of (in_t3 (List.mem_of_getElem? (i := 226) rfl)) rfl
theorem bt461 : Cond.selects RX5 yX5_inOwnRow yX5_inOwnRow ∈ BT := bt_of (in_t3 (List.mem_of_getElem? (i := 227) rfl)) rfl
theorem bt462 : Cond.code yX5_inOwnRow cX5_inOwnRow 3 (some .int) ∈ BT := bt_of (in_t3 (List.mem_of_getElem? (i := 228) rfl)) rfl
theorem vl_X7_314 (M : Mth) (h : mO M = RX7) : VLk M mX5_inOwnRow 314 5 0 := ⟨by rw [h]; exact bt459, bt460, bt461, bt205, bt462, ⟨by decide +kernel, by decide +kernel⟩, by decide +kernel, by decide, TX5, 5, rfl⟩
theorem fl_X7_284 : FLk RX7 284 7 8 := ⟨RX7, TX7, 9, rfl, by decide, bt441, iB_X7⟩
theorem bt463 : Cond.constantLong RX7 317 (17) ∈ BT := bt_of (in_t3 (List.mem_of_getElem? (i := 233) rfl)) rfl
theorem bt464 : Cond.constantLong RX7 319 (31) ∈ BT := bt_of (in_t3 (List.mem_of_getElem? (i := 234) rfl)) rfl
theorem bt465 : Cond.methodLink RX7 321 yX7_count ∈ BT := bt_of (in_t3 (List.mem_of_getElem? (i := 235) rfl)) rfl
theorem bt466 : Cond.instanceMethod yX7_count ∈ BT := bt_of (in_t3 (List.mem_of_getElem? (i := 214) rfl)) rfl
theorem bt467 : Cond.selects RX7 yX7_count yX7_count ∈ BT := bt_of (in_t3 (List.mem_of_getElem? (i := 215) rfl)) rfl
theorem bt468 : Cond.code yX7_count cX7_count 2 (some .int) ∈ BT := bt_of (in_t3 (List.mem_of_getElem? (i := 216) rfl)) rfl
theorem vl_X7_321 (M : Mth) (h : mO M = RX7) : VLk M mX7_count 321 7 1 := ⟨by rw [h]; exact bt465, bt466, bt467, bt187, bt468, ⟨by decide +kernel, by decide +kernel⟩, by decide +kernel, by decide, TX7, 9, rfl⟩
theorem bt469 : Cond.methodLink RX7 324 yX7_digestPlaces ∈ BT := bt_of (in_t3 (List.mem_of_getElem? (i := 236) rfl)) rfl
theorem bt470 : Cond.instanceMethod yX7_digestPlaces ∈ BT := bt_of (in_t3 (List.mem_of_getElem? (i := 238) rfl)) rfl
theorem bt471 : Cond.selects RX7 yX7_digestPlaces yX7_digestPlaces ∈ BT := bt_of (in_s2 (n := 9) (List.mem_of_getElem? (i := 6) rfl)) rfl
theorem bt472 : Cond.code yX7_digestPlaces cX7_digestPlaces 6 (some .long) ∈ BT := bt_of (in_t3 (List.mem_of_getElem? (i := 239) rfl)) rfl
theorem vl_X7_324 (M : Mth) (h : mO M = RX7) : VLk M mX7_digestPlaces 324 7 1 := ⟨by rw [h]; exact bt469, bt470, bt471, bt187, bt472, ⟨by decide +kernel, by decide +kernel⟩, by decide +kernel, by decide, TX7, 9, rfl⟩
theorem bt473 : Cond.methodLink RX7 328 yX7_digestRows ∈ BT := bt_of (in_t4 (List.mem_of_getElem? (i := 1) rfl)) rfl
theorem bt474 : Cond.instanceMethod yX7_digestRows ∈ BT := bt_of (in_t4 (List.mem_of_getElem? (i := 3) rfl)) rfl
theorem bt475 : Cond.selects RX7 yX7_digestRows yX7_digestRows ∈ BT := bt_of (in_s2 (n := 9) (List.mem_of_getElem? (i := 7) rfl)) rfl
theorem bt476 : Cond.code yX7_digestRows cX7_digestRows 6 (some .long) ∈ BT := bt_of (in_t4 (List.mem_of_getElem? (i := 4) rfl)) rfl
theorem vl_X7_328 (M : Mth) (h : mO M = RX7) : VLk M mX7_digestRows 328 7 1 := ⟨by rw [h]; exact bt473, bt474, bt475, bt187, bt476, ⟨by decide +kernel, by decide +kernel⟩, by decide +kernel, by decide, TX7, 9, rfl⟩
theorem bt477 : Cond.methodLink RX7 331 yX7_ahead ∈ BT := bt_of (in_t4 (List.mem_of_getElem? (i := 10) rfl)) rfl
theorem bt478 : Cond.instanceMethod yX7_ahead ∈ BT := bt_of (in_t2 (List.mem_of_getElem? (i := 202) rfl)) rfl
theorem bt479 : Cond.selects RX7 yX7_ahead yX7_ahead ∈ BT := bt_of (in_t2 (List.mem_of_getElem? (i := 203) rfl)) rfl
theorem bt480 : Cond.code yX7_ahead cX7_ahead 10 (some .int) ∈ BT := bt_of (in_t2 (List.mem_of_getElem? (i := 204) rfl)) rfl
theorem vl_X7_331 (M : Mth) (h : mO M = RX7) : VLk M mX7_ahead 331 7 4 := ⟨by rw [h]; exact bt477, bt478, bt479, bt187, bt480, ⟨by decide +kernel, by decide +kernel⟩, by decide +kernel, by decide, TX7, 9, rfl⟩
theorem bt481 : Cond.methodLink RX7 335 yX7_digestTenants ∈ BT := bt_of (in_t4 (List.mem_of_getElem? (i := 11) rfl)) rfl
theorem bt482 : Cond.instanceMethod yX7_digestTenants ∈ BT := bt_of (in_t4 (List.mem_of_getElem? (i := 13) rfl)) rfl
theorem bt483 : Cond.selects RX7 yX7_digestTenants yX7_digestTenants ∈ BT := bt_of (in_s2 (n := 9) (List.mem_of_getElem? (i := 8) rfl)) rfl
theorem bt484 : Cond.code yX7_digestTenants cX7_digestTenants 6 (some .long) ∈ BT := bt_of (in_t4 (List.mem_of_getElem? (i := 14) rfl)) rfl
theorem vl_X7_335 (M : Mth) (h : mO M = RX7) : VLk M mX7_digestTenants 335 7 1 := ⟨by rw [h]; exact bt481, bt482, bt483, bt187, bt484, ⟨by decide +kernel, by decide +kernel⟩, by decide +kernel, by decide, TX7, 9, rfl⟩
theorem bt485 : Cond.methodLink RX7 338 yX7_history ∈ BT := bt_of (in_t4 (List.mem_of_getElem? (i := 15) rfl)) rfl
theorem bt486 : Cond.instanceMethod yX7_history ∈ BT := bt_of (in_t3 (List.mem_of_getElem? (i := 129) rfl)) rfl
theorem bt487 : Cond.selects RX7 yX7_history yX7_history ∈ BT := bt_of (in_t3 (List.mem_of_getElem? (i := 130) rfl)) rfl
theorem bt488 : Cond.code yX7_history cX7_history 4 (some .int) ∈ BT := bt_of (in_t3 (List.mem_of_getElem? (i := 131) rfl)) rfl
theorem vl_X7_338 (M : Mth) (h : mO M = RX7) : VLk M mX7_history 338 7 3 := ⟨by rw [h]; exact bt485, bt486, bt487, bt187, bt488, ⟨by decide +kernel, by decide +kernel⟩, by decide +kernel, by decide, TX7, 9, rfl⟩
theorem bt489 : Cond.methodLink RX7 341 yX7_dig ∈ BT := bt_of (in_t4 (List.mem_of_getElem? (i := 16) rfl)) rfl
theorem bt490 : Cond.instanceMethod yX7_dig ∈ BT := bt_of (in_t3 (List.mem_of_getElem? (i := 164) rfl)) rfl
theorem bt491 : Cond.selects RX7 yX7_dig yX7_dig ∈ BT := bt_of (in_t3 (List.mem_of_getElem? (i := 165) rfl)) rfl
theorem bt492 : Cond.code yX7_dig cX7_dig 7 (some .int) ∈ BT := bt_of (in_t3 (List.mem_of_getElem? (i := 166) rfl)) rfl
theorem vl_X7_341 (M : Mth) (h : mO M = RX7) : VLk M mX7_dig 341 7 2 := ⟨by rw [h]; exact bt489, bt490, bt491, bt187, bt492, ⟨by decide +kernel, by decide +kernel⟩, by decide +kernel, by decide, TX7, 9, rfl⟩
theorem bt493 : Cond.methodLink RX7 344 yX7_meet ∈ BT := bt_of (in_t4 (List.mem_of_getElem? (i := 17) rfl)) rfl
theorem bt494 : Cond.instanceMethod yX7_meet ∈ BT := bt_of (in_t3 (List.mem_of_getElem? (i := 39) rfl)) rfl
theorem bt495 : Cond.selects RX7 yX7_meet yX7_meet ∈ BT := bt_of (in_t3 (List.mem_of_getElem? (i := 40) rfl)) rfl
theorem bt496 : Cond.code yX7_meet cX7_meet 7 (some .int) ∈ BT := bt_of (in_t3 (List.mem_of_getElem? (i := 41) rfl)) rfl
theorem vl_X7_344 (M : Mth) (h : mO M = RX7) : VLk M mX7_meet 344 7 4 := ⟨by rw [h]; exact bt493, bt494, bt495, bt187, bt496, ⟨by decide +kernel, by decide +kernel⟩, by decide +kernel, by decide, TX7, 9, rfl⟩
theorem bt497 : Cond.methodLink RX7 347 yX7_place ∈ BT := bt_of (in_t4 (List.mem_of_getElem? (i := 0) rfl)) rfl
theorem bt498 : Cond.instanceMethod yX7_place ∈ BT := bt_of (in_t2 (List.mem_of_getElem? (i := 92) rfl)) rfl
theorem bt499 : Cond.selects RX7 yX7_place yX7_place ∈ BT := bt_of (in_t2 (List.mem_of_getElem? (i := 93) rfl)) rfl
theorem bt500 : Cond.code yX7_place cX7_place 3 (some .int) ∈ BT := bt_of (in_t2 (List.mem_of_getElem? (i := 94) rfl)) rfl
theorem vl_X7_347 (M : Mth) (h : mO M = RX7) : VLk M mX7_place 347 7 2 := ⟨by rw [h]; exact bt497, bt498, bt499, bt187, bt500, ⟨by decide +kernel, by decide +kernel⟩, by decide +kernel, by decide, TX7, 9, rfl⟩
theorem bt501 : Cond.methodLink RX7 350 yX7_door ∈ BT := bt_of (in_t4 (List.mem_of_getElem? (i := 5) rfl)) rfl
theorem bt502 : Cond.instanceMethod yX7_door ∈ BT := bt_of (in_t2 (List.mem_of_getElem? (i := 172) rfl)) rfl
theorem bt503 : Cond.selects RX7 yX7_door yX7_door ∈ BT := bt_of (in_t2 (List.mem_of_getElem? (i := 173) rfl)) rfl
theorem bt504 : Cond.code yX7_door cX7_door 5 (some .int) ∈ BT := bt_of (in_t2 (List.mem_of_getElem? (i := 174) rfl)) rfl
theorem vl_X7_350 (M : Mth) (h : mO M = RX7) : VLk M mX7_door 350 7 3 := ⟨by rw [h]; exact bt501, bt502, bt503, bt187, bt504, ⟨by decide +kernel, by decide +kernel⟩, by decide +kernel, by decide, TX7, 9, rfl⟩
theorem bt505 : Cond.methodLink RX7 353 yX7_shine ∈ BT := bt_of (in_t4 (List.mem_of_getElem? (i := 6) rfl)) rfl
theorem bt506 : Cond.instanceMethod yX7_shine ∈ BT := bt_of (in_t2 (List.mem_of_getElem? (i := 198) rfl)) rfl
theorem bt507 : Cond.selects RX7 yX7_shine yX7_shine ∈ BT := bt_of (in_t2 (List.mem_of_getElem? (i := 199) rfl)) rfl
theorem bt508 : Cond.code yX7_shine cX7_shine 6 (some .int) ∈ BT := bt_of (in_t2 (List.mem_of_getElem? (i := 200) rfl)) rfl
theorem vl_X7_353 (M : Mth) (h : mO M = RX7) : VLk M mX7_shine 353 7 3 := ⟨by rw [h]; exact bt505, bt506, bt507, bt187, bt508, ⟨by decide +kernel, by decide +kernel⟩, by decide +kernel, by decide, TX7, 9, rfl⟩
theorem bt509 : Cond.methodLink RX7 356 yX7_soon ∈ BT := bt_of (in_t4 (List.mem_of_getElem? (i := 7) rfl)) rfl
theorem bt510 : Cond.instanceMethod yX7_soon ∈ BT := bt_of (in_t3 (List.mem_of_getElem? (i := 1) rfl)) rfl
theorem bt511 : Cond.selects RX7 yX7_soon yX7_soon ∈ BT := bt_of (in_t3 (List.mem_of_getElem? (i := 2) rfl)) rfl
theorem bt512 : Cond.code yX7_soon cX7_soon 4 (some .int) ∈ BT := bt_of (in_t3 (List.mem_of_getElem? (i := 3) rfl)) rfl
theorem vl_X7_356 (M : Mth) (h : mO M = RX7) : VLk M mX7_soon 356 7 3 := ⟨by rw [h]; exact bt509, bt510, bt511, bt187, bt512, ⟨by decide +kernel, by decide +kernel⟩, by decide +kernel, by decide, TX7, 9, rfl⟩
theorem bt513 : Cond.methodLink RX7 359 yX7_carried ∈ BT := bt_of (in_t4 (List.mem_of_getElem? (i := 8) rfl)) rfl
theorem bt514 : Cond.instanceMethod yX7_carried ∈ BT := bt_of (in_t3 (List.mem_of_getElem? (i := 31) rfl)) rfl
theorem bt515 : Cond.selects RX7 yX7_carried yX7_carried ∈ BT := bt_of (in_t3 (List.mem_of_getElem? (i := 32) rfl)) rfl
theorem bt516 : Cond.code yX7_carried cX7_carried 4 (some .int) ∈ BT := bt_of (in_t3 (List.mem_of_getElem? (i := 33) rfl)) rfl
theorem vl_X7_359 (M : Mth) (h : mO M = RX7) : VLk M mX7_carried 359 7 3 := ⟨by rw [h]; exact bt513, bt514, bt515, bt187, bt516, ⟨by decide +kernel, by decide +kernel⟩, by decide +kernel, by decide, TX7, 9, rfl⟩
theorem bt517 : Cond.methodLink RX7 362 yX7_waits ∈ BT := bt_of (in_t4 (List.mem_of_getElem? (i := 9) rfl)) rfl
theorem bt518 : Cond.instanceMethod yX7_waits ∈ BT := bt_of (in_t3 (List.mem_of_getElem? (i := 155) rfl)) rfl
theorem bt519 : Cond.selects RX7 yX7_waits yX7_waits ∈ BT := bt_of (in_t3 (List.mem_of_getElem? (i := 156) rfl)) rfl
theorem bt520 : Cond.code yX7_waits cX7_waits 3 (some .int) ∈ BT := bt_of (in_t3 (List.mem_of_getElem? (i := 157) rfl)) rfl
theorem vl_X7_362 (M : Mth) (h : mO M = RX7) : VLk M mX7_waits 362 7 2 := ⟨by rw [h]; exact bt517, bt518, bt519, bt187, bt520, ⟨by decide +kernel, by decide +kernel⟩, by decide +kernel, by decide, TX7, 9, rfl⟩
theorem bt521 : Cond.methodLink RX7 365 yX5_reckonJoys ∈ BT := bt_of (in_t3 (List.mem_of_getElem? (i := 70) rfl)) rfl
theorem bt522 : Cond.instanceMethod yX5_reckonJoys ∈ BT := bt_of (in_t3 (List.mem_of_getElem? (i := 71) rfl)) rfl
theorem bt523 : Cond.selects RX5 yX5_reckonJoys yX5_reckonJoys ∈ BT := bt_of (in_t3 (List.mem_of_getElem? (i := 72) rfl)) rfl
theorem bt524 : Cond.code yX5_reckonJoys cX5_reckonJoys 5 none ∈ BT := bt_of (in_t3 (List.mem_of_getElem? (i := 73) rfl)) rfl
theorem vl_X7_365 (M : Mth) (h : mO M = RX7) : VLk M mX5_reckonJoys 365 5 2 := ⟨by rw [h]; exact bt521, bt522, bt523, bt205, bt524, ⟨by decide +kernel, by decide +kernel⟩, by decide +kernel, by decide, TX5, 5, rfl⟩
theorem bt525 : Cond.methodLink RX7 368 yJ9_max_7cf53 ∈ BT := bt_of (in_t3 (List.mem_of_getElem? (i := 162) rfl)) rfl
theorem sl_X7_368 (M : Mth) (h : mO M = RX7) : SLk M mJ9_max_7cf53 368 2 := ⟨by rw [h]; exact bt525, bt224, bt141, bt225, ⟨by decide +kernel, by decide +kernel⟩, by decide +kernel, by decide⟩
theorem bt526 : Cond.constantLong RX8 87 (-9223372036854775808) ∈ BT := bt_of (in_t5 (List.mem_of_getElem? (i := 4) rfl)) rfl
theorem bt527 : Cond.methodLink RX8 89 yX8_in ∈ BT := bt_of (in_t4 (List.mem_of_getElem? (i := 120) rfl)) rfl
theorem bt528 : Cond.static yX8_in ∈ BT := bt_of (in_t4 (List.mem_of_getElem? (i := 121) rfl)) rfl
theorem bt529 : Cond.initialized RX8 ∈ BT := bt_of (in_t1 (List.mem_of_getElem? (i := 9) rfl)) rfl
theorem bt530 : Cond.code yX8_in cX8_in 3 (some .boolean) ∈ BT := bt_of (in_t4 (List.mem_of_getElem? (i := 122) rfl)) rfl
theorem sl_X8_89 (M : Mth) (h : mO M = RX8) : SLk M mX8_in 89 3 := ⟨by rw [h]; exact bt527, bt528, bt529, bt530, ⟨by decide +kernel, by decide +kernel⟩, by decide +kernel, by decide⟩
theorem bt531 : Cond.fieldLink RX8 93 "TurningVillageModel" "typed" "I" ∈ BT := bt_of (in_t4 (List.mem_of_getElem? (i := 24) rfl)) rfl
theorem fl_X8_93 : FLk RX8 93 8 0 := ⟨RX8, TX8, 30, rfl, by decide, bt531, iB_X8⟩
theorem bt532 : Cond.fieldLink RX8 7 "TurningVillageModel" "text" "[I" ∈ BT := bt_of (in_t4 (List.mem_of_getElem? (i := 25) rfl)) rfl
theorem fl_X8_7 : FLk RX8 7 8 1 := ⟨RX8, TX8, 30, rfl, by decide, bt532, iB_X8⟩
theorem fp_X8_93 : FPk RX8 93 8 0 .int := ⟨RX8, TX8, 30, tyX8, rfl, by decide, bt531, iB_X8, tyX8_ok, nmX8, rfl, by decide +kernel⟩
theorem bt533 : Cond.fieldLink RX8 97 "TurningVillageModel" "bridges" "I" ∈ BT := bt_of (in_t4 (List.mem_of_getElem? (i := 28) rfl)) rfl
theorem fl_X8_97 : FLk RX8 97 8 4 := ⟨RX8, TX8, 30, rfl, by decide, bt533, iB_X8⟩
theorem bt534 : Cond.fieldLink RX8 19 "TurningVillageModel" "bridge" "[I" ∈ BT := bt_of (in_t4 (List.mem_of_getElem? (i := 29) rfl)) rfl
theorem fl_X8_19 : FLk RX8 19 8 5 := ⟨RX8, TX8, 30, rfl, by decide, bt534, iB_X8⟩
theorem fp_X8_97 : FPk RX8 97 8 4 .int := ⟨RX8, TX8, 30, tyX8, rfl, by decide, bt533, iB_X8, tyX8_ok, nmX8, rfl, by decide +kernel⟩
theorem bt535 : Cond.fieldLink RX8 16 "TurningVillageModel" "closed" "[I" ∈ BT := bt_of (in_t4 (List.mem_of_getElem? (i := 27) rfl)) rfl
theorem fl_X8_16 : FLk RX8 16 8 3 := ⟨RX8, TX8, 30, rfl, by decide, bt535, iB_X8⟩
theorem bt536 : Cond.fieldLink RX8 13 "TurningVillageModel" "things" "[I" ∈ BT := bt_of (in_t4 (List.mem_of_getElem? (i := 26) rfl)) rfl
theorem fl_X8_13 : FLk RX8 13 8 2 := ⟨RX8, TX8, 30, rfl, by decide, bt536, iB_X8⟩
theorem bt537 : Cond.methodLink RX8 100 yX8_byteAt ∈ BT := bt_of (in_t4 (List.mem_of_getElem? (i := 139) rfl)) rfl
theorem bt538 : Cond.instanceMethod yX8_byteAt ∈ BT := bt_of (in_t4 (List.mem_of_getElem? (i := 141) rfl)) rfl
theorem bt539 : Cond.selects RX8 yX8_byteAt yX8_byteAt ∈ BT := bt_of (in_s2 (n := 30) (List.mem_of_getElem? (i := 11) rfl)) rfl
theorem bt540 : Cond.code yX8_byteAt cX8_byteAt 2 (some .int) ∈ BT := bt_of (in_t4 (List.mem_of_getElem? (i := 142) rfl)) rfl
theorem vl_X8_100 (M : Mth) (h : mO M = RX8) : VLk M mX8_byteAt 100 8 1 := ⟨by rw [h]; exact bt537, bt538, bt539, bt529, bt540, ⟨by decide +kernel, by decide +kernel⟩, by decide +kernel, by decide, TX8, 30, rfl⟩
theorem bt541 : Cond.methodLink RX8 104 yX8_thingOf ∈ BT := bt_of (in_t4 (List.mem_of_getElem? (i := 143) rfl)) rfl
theorem bt542 : Cond.static yX8_thingOf ∈ BT := bt_of (in_t4 (List.mem_of_getElem? (i := 144) rfl)) rfl
theorem bt543 : Cond.code yX8_thingOf cX8_thingOf 1 (some .int) ∈ BT := bt_of (in_t4 (List.mem_of_getElem? (i := 145) rfl)) rfl
theorem sl_X8_104 (M : Mth) (h : mO M = RX8) : SLk M mX8_thingOf 104 1 := ⟨by rw [h]; exact bt541, bt542, bt529, bt543, ⟨by decide +kernel, by decide +kernel⟩, by decide +kernel, by decide⟩
theorem bt544 : Cond.methodLink RX8 107 yX8_mayBe ∈ BT := bt_of (in_t4 (List.mem_of_getElem? (i := 146) rfl)) rfl
theorem bt545 : Cond.instanceMethod yX8_mayBe ∈ BT := bt_of (in_t4 (List.mem_of_getElem? (i := 148) rfl)) rfl
theorem bt546 : Cond.selects RX8 yX8_mayBe yX8_mayBe ∈ BT := bt_of (in_s2 (n := 30) (List.mem_of_getElem? (i := 12) rfl)) rfl
theorem bt547 : Cond.code yX8_mayBe cX8_mayBe 4 (some .boolean) ∈ BT := bt_of (in_t4 (List.mem_of_getElem? (i := 149) rfl)) rfl
theorem vl_X8_107 (M : Mth) (h : mO M = RX8) : VLk M mX8_mayBe 107 8 2 := ⟨by rw [h]; exact bt544, bt545, bt546, bt529, bt547, ⟨by decide +kernel, by decide +kernel⟩, by decide +kernel, by decide, TX8, 30, rfl⟩
theorem bt548 : Cond.methodLink RX8 111 yX8_reads ∈ BT := bt_of (in_t4 (List.mem_of_getElem? (i := 135) rfl)) rfl
theorem bt549 : Cond.instanceMethod yX8_reads ∈ BT := bt_of (in_t4 (List.mem_of_getElem? (i := 137) rfl)) rfl
theorem bt550 : Cond.selects RX8 yX8_reads yX8_reads ∈ BT := bt_of (in_s2 (n := 30) (List.mem_of_getElem? (i := 10) rfl)) rfl
theorem bt551 : Cond.code yX8_reads cX8_reads 4 (some .int) ∈ BT := bt_of (in_t4 (List.mem_of_getElem? (i := 138) rfl)) rfl
theorem vl_X8_111 (M : Mth) (h : mO M = RX8) : VLk M mX8_reads 111 8 0 := ⟨by rw [h]; exact bt548, bt549, bt550, bt529, bt551, ⟨by decide +kernel, by decide +kernel⟩, by decide +kernel, by decide, TX8, 30, rfl⟩
theorem bt552 : Cond.methodLink RX8 115 yX8_faultNow ∈ BT := bt_of (in_t4 (List.mem_of_getElem? (i := 131) rfl)) rfl
theorem bt553 : Cond.instanceMethod yX8_faultNow ∈ BT := bt_of (in_t4 (List.mem_of_getElem? (i := 133) rfl)) rfl
theorem bt554 : Cond.selects RX8 yX8_faultNow yX8_faultNow ∈ BT := bt_of (in_s2 (n := 30) (List.mem_of_getElem? (i := 9) rfl)) rfl
theorem bt555 : Cond.code yX8_faultNow cX8_faultNow 3 (some .int) ∈ BT := bt_of (in_t4 (List.mem_of_getElem? (i := 134) rfl)) rfl
theorem vl_X8_115 (M : Mth) (h : mO M = RX8) : VLk M mX8_faultNow 115 8 0 := ⟨by rw [h]; exact bt552, bt553, bt554, bt529, bt555, ⟨by decide +kernel, by decide +kernel⟩, by decide +kernel, by decide, TX8, 30, rfl⟩
theorem bt556 : Cond.fieldLink RX8 22 "TurningVillageModel" "suns" "[I" ∈ BT := bt_of (in_t4 (List.mem_of_getElem? (i := 30) rfl)) rfl
theorem fl_X8_22 : FLk RX8 22 8 6 := ⟨RX8, TX8, 30, rfl, by decide, bt556, iB_X8⟩
theorem bt557 : Cond.methodLink RX8 118 yX8_isEighth ∈ BT := bt_of (in_t4 (List.mem_of_getElem? (i := 154) rfl)) rfl
theorem bt558 : Cond.static yX8_isEighth ∈ BT := bt_of (in_t4 (List.mem_of_getElem? (i := 155) rfl)) rfl
theorem bt559 : Cond.code yX8_isEighth cX8_isEighth 1 (some .boolean) ∈ BT := bt_of (in_t4 (List.mem_of_getElem? (i := 156) rfl)) rfl
theorem sl_X8_118 (M : Mth) (h : mO M = RX8) : SLk M mX8_isEighth 118 1 := ⟨by rw [h]; exact bt557, bt558, bt529, bt559, ⟨by decide +kernel, by decide +kernel⟩, by decide +kernel, by decide⟩
theorem bt560 : Cond.methodLink RX8 122 yX8_placeOf ∈ BT := bt_of (in_t4 (List.mem_of_getElem? (i := 157) rfl)) rfl
theorem bt561 : Cond.instanceMethod yX8_placeOf ∈ BT := bt_of (in_t4 (List.mem_of_getElem? (i := 159) rfl)) rfl
theorem bt562 : Cond.selects RX8 yX8_placeOf yX8_placeOf ∈ BT := bt_of (in_s2 (n := 30) (List.mem_of_getElem? (i := 13) rfl)) rfl
theorem bt563 : Cond.code yX8_placeOf cX8_placeOf 4 (some .int) ∈ BT := bt_of (in_t4 (List.mem_of_getElem? (i := 160) rfl)) rfl
theorem vl_X8_122 (M : Mth) (h : mO M = RX8) : VLk M mX8_placeOf 122 8 2 := ⟨by rw [h]; exact bt560, bt561, bt562, bt529, bt563, ⟨by decide +kernel, by decide +kernel⟩, by decide +kernel, by decide, TX8, 30, rfl⟩
theorem bt564 : Cond.fieldLink RX8 126 "TurningVillageModel" "lastTime" "I" ∈ BT := bt_of (in_t4 (List.mem_of_getElem? (i := 36) rfl)) rfl
theorem fl_X8_126 : FLk RX8 126 8 12 := ⟨RX8, TX8, 30, rfl, by decide, bt564, iB_X8⟩
theorem bt565 : Cond.fieldLink RX8 129 "TurningVillageModel" "gales" "I" ∈ BT := bt_of (in_t4 (List.mem_of_getElem? (i := 31) rfl)) rfl
theorem fl_X8_129 : FLk RX8 129 8 7 := ⟨RX8, TX8, 30, rfl, by decide, bt565, iB_X8⟩
theorem bt566 : Cond.fieldLink RX8 25 "TurningVillageModel" "galeDay" "[I" ∈ BT := bt_of (in_t4 (List.mem_of_getElem? (i := 32) rfl)) rfl
theorem fl_X8_25 : FLk RX8 25 8 8 := ⟨RX8, TX8, 30, rfl, by decide, bt566, iB_X8⟩
theorem bt567 : Cond.fieldLink RX8 28 "TurningVillageModel" "galeFrom" "[I" ∈ BT := bt_of (in_t4 (List.mem_of_getElem? (i := 33) rfl)) rfl
theorem fl_X8_28 : FLk RX8 28 8 9 := ⟨RX8, TX8, 30, rfl, by decide, bt567, iB_X8⟩
theorem bt568 : Cond.fieldLink RX8 31 "TurningVillageModel" "galeTime" "[I" ∈ BT := bt_of (in_t4 (List.mem_of_getElem? (i := 34) rfl)) rfl
theorem fl_X8_31 : FLk RX8 31 8 10 := ⟨RX8, TX8, 30, rfl, by decide, bt568, iB_X8⟩
theorem bt569 : Cond.fieldLink RX8 34 "TurningVillageModel" "galeBack" "[I" ∈ BT := bt_of (in_t4 (List.mem_of_getElem? (i := 35) rfl)) rfl
theorem fl_X8_34 : FLk RX8 34 8 11 := ⟨RX8, TX8, 30, rfl, by decide, bt569, iB_X8⟩
theorem fp_X8_126 : FPk RX8 126 8 12 .int := ⟨RX8, TX8, 30, tyX8, rfl, by decide, bt564, iB_X8, tyX8_ok, nmX8, rfl, by decide +kernel⟩
theorem fp_X8_129 : FPk RX8 129 8 7 .int := ⟨RX8, TX8, 30, tyX8, rfl, by decide, bt565, iB_X8, tyX8_ok, nmX8, rfl, by decide +kernel⟩
theorem bt570 : Cond.methodLink RX8 132 yX8_galeMore ∈ BT := bt_of (in_t4 (List.mem_of_getElem? (i := 169) rfl)) rfl
theorem bt571 : Cond.instanceMethod yX8_galeMore ∈ BT := bt_of (in_t4 (List.mem_of_getElem? (i := 171) rfl)) rfl
theorem bt572 : Cond.selects RX8 yX8_galeMore yX8_galeMore ∈ BT := bt_of (in_s2 (n := 30) (List.mem_of_getElem? (i := 14) rfl)) rfl
theorem bt573 : Cond.code yX8_galeMore cX8_galeMore 4 (some .int) ∈ BT := bt_of (in_t4 (List.mem_of_getElem? (i := 172) rfl)) rfl
theorem vl_X8_132 (M : Mth) (h : mO M = RX8) : VLk M mX8_galeMore 132 8 3 := ⟨by rw [h]; exact bt570, bt571, bt572, bt529, bt573, ⟨by decide +kernel, by decide +kernel⟩, by decide +kernel, by decide, TX8, 30, rfl⟩
theorem bt574 : Cond.methodLink RX8 136 yX8_isSheet ∈ BT := bt_of (in_t4 (List.mem_of_getElem? (i := 177) rfl)) rfl
theorem bt575 : Cond.static yX8_isSheet ∈ BT := bt_of (in_t4 (List.mem_of_getElem? (i := 178) rfl)) rfl
theorem bt576 : Cond.code yX8_isSheet cX8_isSheet 1 (some .boolean) ∈ BT := bt_of (in_t4 (List.mem_of_getElem? (i := 179) rfl)) rfl
theorem sl_X8_136 (M : Mth) (h : mO M = RX8) : SLk M mX8_isSheet 136 1 := ⟨by rw [h]; exact bt574, bt575, bt529, bt576, ⟨by decide +kernel, by decide +kernel⟩, by decide +kernel, by decide⟩
theorem bt577 : Cond.fieldLink RX8 71 "TurningVillageModel" "isThere" "[Z" ∈ BT := bt_of (in_t4 (List.mem_of_getElem? (i := 48) rfl)) rfl
theorem fl_X8_71 : FLk RX8 71 8 24 := ⟨RX8, TX8, 30, rfl, by decide, bt577, iB_X8⟩
theorem bt578 : Cond.methodLink RX8 139 yX8_meets ∈ BT := bt_of (in_t4 (List.mem_of_getElem? (i := 180) rfl)) rfl
theorem bt579 : Cond.instanceMethod yX8_meets ∈ BT := bt_of (in_t4 (List.mem_of_getElem? (i := 182) rfl)) rfl
theorem bt580 : Cond.selects RX8 yX8_meets yX8_meets ∈ BT := bt_of (in_s2 (n := 30) (List.mem_of_getElem? (i := 15) rfl)) rfl
theorem bt581 : Cond.code yX8_meets cX8_meets 2 (some .int) ∈ BT := bt_of (in_t4 (List.mem_of_getElem? (i := 183) rfl)) rfl
theorem vl_X8_139 (M : Mth) (h : mO M = RX8) : VLk M mX8_meets 139 8 1 := ⟨by rw [h]; exact bt578, bt579, bt580, bt529, bt581, ⟨by decide +kernel, by decide +kernel⟩, by decide +kernel, by decide, TX8, 30, rfl⟩
theorem bt582 : Cond.fieldLink RX8 78 "TurningVillageModel" "sizes" "[I" ∈ BT := bt_of (in_t4 (List.mem_of_getElem? (i := 50) rfl)) rfl
theorem fl_X8_78 : FLk RX8 78 8 26 := ⟨RX8, TX8, 30, rfl, by decide, bt582, iB_X8⟩
theorem bt583 : Cond.fieldLink RX8 81 "TurningVillageModel" "items" "[I" ∈ BT := bt_of (in_t4 (List.mem_of_getElem? (i := 51) rfl)) rfl
theorem fl_X8_81 : FLk RX8 81 8 27 := ⟨RX8, TX8, 30, rfl, by decide, bt583, iB_X8⟩
theorem bt584 : Cond.fieldLink RX8 37 "TurningVillageModel" "setting" "[I" ∈ BT := bt_of (in_t4 (List.mem_of_getElem? (i := 37) rfl)) rfl
theorem fl_X8_37 : FLk RX8 37 8 13 := ⟨RX8, TX8, 30, rfl, by decide, bt584, iB_X8⟩
theorem bt585 : Cond.fieldLink RX8 40 "TurningVillageModel" "turns" "[I" ∈ BT := bt_of (in_t4 (List.mem_of_getElem? (i := 38) rfl)) rfl
theorem fl_X8_40 : FLk RX8 40 8 14 := ⟨RX8, TX8, 30, rfl, by decide, bt585, iB_X8⟩
theorem bt586 : Cond.methodLink RX8 142 yX8_doesCount ∈ BT := bt_of (in_t4 (List.mem_of_getElem? (i := 207) rfl)) rfl
theorem bt587 : Cond.instanceMethod yX8_doesCount ∈ BT := bt_of (in_t4 (List.mem_of_getElem? (i := 209) rfl)) rfl
theorem bt588 : Cond.selects RX8 yX8_doesCount yX8_doesCount ∈ BT := bt_of (in_s3 (n := 30) (List.mem_of_getElem? (i := 2) rfl)) rfl
theorem bt589 : Cond.code yX8_doesCount cX8_doesCount 2 (some .boolean) ∈ BT := bt_of (in_t4 (List.mem_of_getElem? (i := 210) rfl)) rfl
theorem vl_X8_142 (M : Mth) (h : mO M = RX8) : VLk M mX8_doesCount 142 8 1 := ⟨by rw [h]; exact bt586, bt587, bt588, bt529, bt589, ⟨by decide +kernel, by decide +kernel⟩, by decide +kernel, by decide, TX8, 30, rfl⟩
theorem bt590 : Cond.methodLink RX8 145 yX8_lays ∈ BT := bt_of (in_t4 (List.mem_of_getElem? (i := 203) rfl)) rfl
theorem bt591 : Cond.instanceMethod yX8_lays ∈ BT := bt_of (in_t4 (List.mem_of_getElem? (i := 205) rfl)) rfl
theorem bt592 : Cond.selects RX8 yX8_lays yX8_lays ∈ BT := bt_of (in_s3 (n := 30) (List.mem_of_getElem? (i := 1) rfl)) rfl
theorem bt593 : Cond.code yX8_lays cX8_lays 4 none ∈ BT := bt_of (in_t4 (List.mem_of_getElem? (i := 206) rfl)) rfl
theorem vl_X8_145 (M : Mth) (h : mO M = RX8) : VLk M mX8_lays 145 8 0 := ⟨by rw [h]; exact bt590, bt591, bt592, bt529, bt593, ⟨by decide +kernel, by decide +kernel⟩, by decide +kernel, by decide, TX8, 30, rfl⟩
theorem bt594 : Cond.methodLink RX8 148 yX8_isDay ∈ BT := bt_of (in_t4 (List.mem_of_getElem? (i := 196) rfl)) rfl
theorem bt595 : Cond.static yX8_isDay ∈ BT := bt_of (in_t4 (List.mem_of_getElem? (i := 197) rfl)) rfl
theorem bt596 : Cond.code yX8_isDay cX8_isDay 1 (some .boolean) ∈ BT := bt_of (in_t4 (List.mem_of_getElem? (i := 198) rfl)) rfl
theorem sl_X8_148 (M : Mth) (h : mO M = RX8) : SLk M mX8_isDay 148 1 := ⟨by rw [h]; exact bt594, bt595, bt529, bt596, ⟨by decide +kernel, by decide +kernel⟩, by decide +kernel, by decide⟩
theorem bt597 : Cond.methodLink RX8 151 yX8_turnOf ∈ BT := bt_of (in_t4 (List.mem_of_getElem? (i := 199) rfl)) rfl
theorem bt598 : Cond.instanceMethod yX8_turnOf ∈ BT := bt_of (in_t4 (List.mem_of_getElem? (i := 201) rfl)) rfl
theorem bt599 : Cond.selects RX8 yX8_turnOf yX8_turnOf ∈ BT := bt_of (in_s3 (n := 30) (List.mem_of_getElem? (i := 0) rfl)) rfl
theorem bt600 : Cond.code yX8_turnOf cX8_turnOf 2 (some .int) ∈ BT := bt_of (in_t4 (List.mem_of_getElem? (i := 202) rfl)) rfl
theorem vl_X8_151 (M : Mth) (h : mO M = RX8) : VLk M mX8_turnOf 151 8 1 := ⟨by rw [h]; exact bt597, bt598, bt599, bt529, bt600, ⟨by decide +kernel, by decide +kernel⟩, by decide +kernel, by decide, TX8, 30, rfl⟩
theorem bt601 : Cond.methodLink RX8 154 yX8_isOver ∈ BT := bt_of (in_t4 (List.mem_of_getElem? (i := 215) rfl)) rfl
theorem bt602 : Cond.instanceMethod yX8_isOver ∈ BT := bt_of (in_t4 (List.mem_of_getElem? (i := 217) rfl)) rfl
theorem bt603 : Cond.selects RX8 yX8_isOver yX8_isOver ∈ BT := bt_of (in_s3 (n := 30) (List.mem_of_getElem? (i := 3) rfl)) rfl
theorem bt604 : Cond.code yX8_isOver cX8_isOver 7 (some .boolean) ∈ BT := bt_of (in_t4 (List.mem_of_getElem? (i := 218) rfl)) rfl
theorem vl_X8_154 (M : Mth) (h : mO M = RX8) : VLk M mX8_isOver 154 8 3 := ⟨by rw [h]; exact bt601, bt602, bt603, bt529, bt604, ⟨by decide +kernel, by decide +kernel⟩, by decide +kernel, by decide, TX8, 30, rfl⟩
theorem bt605 : Cond.methodLink RX8 157 yX8_doorAt ∈ BT := bt_of (in_t4 (List.mem_of_getElem? (i := 227) rfl)) rfl
theorem bt606 : Cond.instanceMethod yX8_doorAt ∈ BT := bt_of (in_t4 (List.mem_of_getElem? (i := 229) rfl)) rfl
theorem bt607 : Cond.selects RX8 yX8_doorAt yX8_doorAt ∈ BT := bt_of (in_s3 (n := 30) (List.mem_of_getElem? (i := 5) rfl)) rfl
theorem bt608 : Cond.code yX8_doorAt cX8_doorAt 3 (some .int) ∈ BT := bt_of (in_t4 (List.mem_of_getElem? (i := 230) rfl)) rfl
theorem vl_X8_157 (M : Mth) (h : mO M = RX8) : VLk M mX8_doorAt 157 8 2 := ⟨by rw [h]; exact bt605, bt606, bt607, bt529, bt608, ⟨by decide +kernel, by decide +kernel⟩, by decide +kernel, by decide, TX8, 30, rfl⟩
theorem bt609 : Cond.methodLink RX8 160 yX8_doorOf ∈ BT := bt_of (in_t4 (List.mem_of_getElem? (i := 223) rfl)) rfl
theorem bt610 : Cond.instanceMethod yX8_doorOf ∈ BT := bt_of (in_t4 (List.mem_of_getElem? (i := 225) rfl)) rfl
theorem bt611 : Cond.selects RX8 yX8_doorOf yX8_doorOf ∈ BT := bt_of (in_s3 (n := 30) (List.mem_of_getElem? (i := 4) rfl)) rfl
theorem bt612 : Cond.code yX8_doorOf cX8_doorOf 5 (some .int) ∈ BT := bt_of (in_t4 (List.mem_of_getElem? (i := 226) rfl)) rfl
theorem vl_X8_160 (M : Mth) (h : mO M = RX8) : VLk M mX8_doorOf 160 8 3 := ⟨by rw [h]; exact bt609, bt610, bt611, bt529, bt612, ⟨by decide +kernel, by decide +kernel⟩, by decide +kernel, by decide, TX8, 30, rfl⟩
theorem bt613 : Cond.methodLink RX8 163 yX8_isThing ∈ BT := bt_of (in_t4 (List.mem_of_getElem? (i := 235) rfl)) rfl
theorem bt614 : Cond.static yX8_isThing ∈ BT := bt_of (in_t4 (List.mem_of_getElem? (i := 236) rfl)) rfl
theorem bt615 : Cond.code yX8_isThing cX8_isThing 1 (some .boolean) ∈ BT := bt_of (in_t4 (List.mem_of_getElem? (i := 237) rfl)) rfl
theorem sl_X8_163 (M : Mth) (h : mO M = RX8) : SLk M mX8_isThing 163 1 := ⟨by rw [h]; exact bt613, bt614, bt529, bt615, ⟨by decide +kernel, by decide +kernel⟩, by decide +kernel, by decide⟩
theorem bt616 : Cond.methodLink RX8 166 yX8_isSpan ∈ BT := bt_of (in_t4 (List.mem_of_getElem? (i := 238) rfl)) rfl
theorem bt617 : Cond.static yX8_isSpan ∈ BT := bt_of (in_t4 (List.mem_of_getElem? (i := 239) rfl)) rfl
theorem bt618 : Cond.code yX8_isSpan cX8_isSpan 2 (some .boolean) ∈ BT := bt_of (in_t5 (List.mem_of_getElem? (i := 0) rfl)) rfl
theorem sl_X8_166 (M : Mth) (h : mO M = RX8) : SLk M mX8_isSpan 166 2 := ⟨by rw [h]; exact bt616, bt617, bt529, bt618, ⟨by decide +kernel, by decide +kernel⟩, by decide +kernel, by decide⟩
theorem bt619 : Cond.methodLink RX8 169 yX8_no ∈ BT := bt_of (in_t5 (List.mem_of_getElem? (i := 1) rfl)) rfl
theorem bt620 : Cond.static yX8_no ∈ BT := bt_of (in_t5 (List.mem_of_getElem? (i := 2) rfl)) rfl
theorem bt621 : Cond.code yX8_no cX8_no 1 (some .long) ∈ BT := bt_of (in_t5 (List.mem_of_getElem? (i := 3) rfl)) rfl
theorem sl_X8_169 (M : Mth) (h : mO M = RX8) : SLk M mX8_no 169 1 := ⟨by rw [h]; exact bt619, bt620, bt529, bt621, ⟨by decide +kernel, by decide +kernel⟩, by decide +kernel, by decide⟩
theorem bt622 : Cond.methodLink RX8 173 yX8_daysOf ∈ BT := bt_of (in_t5 (List.mem_of_getElem? (i := 5) rfl)) rfl
theorem bt623 : Cond.instanceMethod yX8_daysOf ∈ BT := bt_of (in_t5 (List.mem_of_getElem? (i := 7) rfl)) rfl
theorem bt624 : Cond.selects RX8 yX8_daysOf yX8_daysOf ∈ BT := bt_of (in_s3 (n := 30) (List.mem_of_getElem? (i := 6) rfl)) rfl
theorem bt625 : Cond.code yX8_daysOf cX8_daysOf 7 (some .int) ∈ BT := bt_of (in_t5 (List.mem_of_getElem? (i := 8) rfl)) rfl
theorem vl_X8_173 (M : Mth) (h : mO M = RX8) : VLk M mX8_daysOf 173 8 4 := ⟨by rw [h]; exact bt622, bt623, bt624, bt529, bt625, ⟨by decide +kernel, by decide +kernel⟩, by decide +kernel, by decide, TX8, 30, rfl⟩
theorem bt626 : Cond.methodLink RX8 177 yX8_lowest ∈ BT := bt_of (in_t5 (List.mem_of_getElem? (i := 9) rfl)) rfl
theorem bt627 : Cond.static yX8_lowest ∈ BT := bt_of (in_t5 (List.mem_of_getElem? (i := 10) rfl)) rfl
theorem bt628 : Cond.code yX8_lowest cX8_lowest 11 (some .long) ∈ BT := bt_of (in_t5 (List.mem_of_getElem? (i := 11) rfl)) rfl
theorem sl_X8_177 (M : Mth) (h : mO M = RX8) : SLk M mX8_lowest 177 3 := ⟨by rw [h]; exact bt626, bt627, bt529, bt628, ⟨by decide +kernel, by decide +kernel⟩, by decide +kernel, by decide⟩
theorem bt629 : Cond.methodLink RX8 181 yX8_shineOf ∈ BT := bt_of (in_t5 (List.mem_of_getElem? (i := 16) rfl)) rfl
theorem bt630 : Cond.instanceMethod yX8_shineOf ∈ BT := bt_of (in_t5 (List.mem_of_getElem? (i := 18) rfl)) rfl
theorem bt631 : Cond.selects RX8 yX8_shineOf yX8_shineOf ∈ BT := bt_of (in_s3 (n := 30) (List.mem_of_getElem? (i := 7) rfl)) rfl
theorem bt632 : Cond.code yX8_shineOf cX8_shineOf 6 (some .int) ∈ BT := bt_of (in_t5 (List.mem_of_getElem? (i := 19) rfl)) rfl
theorem vl_X8_181 (M : Mth) (h : mO M = RX8) : VLk M mX8_shineOf 181 8 3 := ⟨by rw [h]; exact bt629, bt630, bt631, bt529, bt632, ⟨by decide +kernel, by decide +kernel⟩, by decide +kernel, by decide, TX8, 30, rfl⟩
theorem bt633 : Cond.methodLink RX8 184 yX8_aheadOf ∈ BT := bt_of (in_t5 (List.mem_of_getElem? (i := 24) rfl)) rfl
theorem bt634 : Cond.instanceMethod yX8_aheadOf ∈ BT := bt_of (in_t5 (List.mem_of_getElem? (i := 26) rfl)) rfl
theorem bt635 : Cond.selects RX8 yX8_aheadOf yX8_aheadOf ∈ BT := bt_of (in_s3 (n := 30) (List.mem_of_getElem? (i := 8) rfl)) rfl
theorem bt636 : Cond.code yX8_aheadOf cX8_aheadOf 9 (some .int) ∈ BT := bt_of (in_t5 (List.mem_of_getElem? (i := 27) rfl)) rfl
theorem vl_X8_184 (M : Mth) (h : mO M = RX8) : VLk M mX8_aheadOf 184 8 4 := ⟨by rw [h]; exact bt633, bt634, bt635, bt529, bt636, ⟨by decide +kernel, by decide +kernel⟩, by decide +kernel, by decide, TX8, 30, rfl⟩
theorem bt637 : Cond.methodLink RX8 187 yX8_works ∈ BT := bt_of (in_t5 (List.mem_of_getElem? (i := 32) rfl)) rfl
theorem bt638 : Cond.instanceMethod yX8_works ∈ BT := bt_of (in_t5 (List.mem_of_getElem? (i := 34) rfl)) rfl
theorem bt639 : Cond.selects RX8 yX8_works yX8_works ∈ BT := bt_of (in_s3 (n := 30) (List.mem_of_getElem? (i := 9) rfl)) rfl
theorem bt640 : Cond.code yX8_works cX8_works 5 (some .boolean) ∈ BT := bt_of (in_t5 (List.mem_of_getElem? (i := 35) rfl)) rfl
theorem vl_X8_187 (M : Mth) (h : mO M = RX8) : VLk M mX8_works 187 8 4 := ⟨by rw [h]; exact bt637, bt638, bt639, bt529, bt640, ⟨by decide +kernel, by decide +kernel⟩, by decide +kernel, by decide, TX8, 30, rfl⟩
theorem bt641 : Cond.fieldLink RX8 43 "TurningVillageModel" "chance" "[J" ∈ BT := bt_of (in_t4 (List.mem_of_getElem? (i := 39) rfl)) rfl
theorem fl_X8_43 : FLk RX8 43 8 15 := ⟨RX8, TX8, 30, rfl, by decide, bt641, iB_X8⟩
theorem bt642 : Cond.constantLong RX8 191 (16) ∈ BT := bt_of (in_t5 (List.mem_of_getElem? (i := 40) rfl)) rfl
theorem bt643 : Cond.fieldLink RX8 47 "TurningVillageModel" "steps" "[I" ∈ BT := bt_of (in_t4 (List.mem_of_getElem? (i := 40) rfl)) rfl
theorem fl_X8_47 : FLk RX8 47 8 16 := ⟨RX8, TX8, 30, rfl, by decide, bt643, iB_X8⟩
theorem bt644 : Cond.constant RX8 193 (100000) ∈ BT := bt_of (in_t5 (List.mem_of_getElem? (i := 53) rfl)) rfl
theorem bt645 : Cond.methodLink RX8 194 yX8_isStep ∈ BT := bt_of (in_t5 (List.mem_of_getElem? (i := 58) rfl)) rfl
theorem bt646 : Cond.instanceMethod yX8_isStep ∈ BT := bt_of (in_t5 (List.mem_of_getElem? (i := 60) rfl)) rfl
theorem bt647 : Cond.selects RX8 yX8_isStep yX8_isStep ∈ BT := bt_of (in_s3 (n := 30) (List.mem_of_getElem? (i := 13) rfl)) rfl
theorem bt648 : Cond.code yX8_isStep cX8_isStep 6 (some .boolean) ∈ BT := bt_of (in_t5 (List.mem_of_getElem? (i := 61) rfl)) rfl
theorem vl_X8_194 (M : Mth) (h : mO M = RX8) : VLk M mX8_isStep 194 8 3 := ⟨by rw [h]; exact bt645, bt646, bt647, bt529, bt648, ⟨by decide +kernel, by decide +kernel⟩, by decide +kernel, by decide, TX8, 30, rfl⟩
theorem bt649 : Cond.fieldLink RX8 50 "TurningVillageModel" "then" "[I" ∈ BT := bt_of (in_t4 (List.mem_of_getElem? (i := 41) rfl)) rfl
theorem fl_X8_50 : FLk RX8 50 8 17 := ⟨RX8, TX8, 30, rfl, by decide, bt649, iB_X8⟩
theorem bt650 : Cond.methodLink RX8 197 yX8_begins ∈ BT := bt_of (in_t5 (List.mem_of_getElem? (i := 49) rfl)) rfl
theorem bt651 : Cond.instanceMethod yX8_begins ∈ BT := bt_of (in_t5 (List.mem_of_getElem? (i := 51) rfl)) rfl
theorem bt652 : Cond.selects RX8 yX8_begins yX8_begins ∈ BT := bt_of (in_s3 (n := 30) (List.mem_of_getElem? (i := 11) rfl)) rfl
theorem bt653 : Cond.code yX8_begins cX8_begins 4 none ∈ BT := bt_of (in_t5 (List.mem_of_getElem? (i := 52) rfl)) rfl
theorem vl_X8_197 (M : Mth) (h : mO M = RX8) : VLk M mX8_begins 197 8 2 := ⟨by rw [h]; exact bt650, bt651, bt652, bt529, bt653, ⟨by decide +kernel, by decide +kernel⟩, by decide +kernel, by decide, TX8, 30, rfl⟩
theorem bt654 : Cond.methodLink RX8 201 yX8_goes ∈ BT := bt_of (in_t5 (List.mem_of_getElem? (i := 54) rfl)) rfl
theorem bt655 : Cond.instanceMethod yX8_goes ∈ BT := bt_of (in_t5 (List.mem_of_getElem? (i := 56) rfl)) rfl
theorem bt656 : Cond.selects RX8 yX8_goes yX8_goes ∈ BT := bt_of (in_s3 (n := 30) (List.mem_of_getElem? (i := 12) rfl)) rfl
theorem bt657 : Cond.code yX8_goes cX8_goes 7 none ∈ BT := bt_of (in_t5 (List.mem_of_getElem? (i := 57) rfl)) rfl
theorem vl_X8_201 (M : Mth) (h : mO M = RX8) : VLk M mX8_goes 201 8 2 := ⟨by rw [h]; exact bt654, bt655, bt656, bt529, bt657, ⟨by decide +kernel, by decide +kernel⟩, by decide +kernel, by decide, TX8, 30, rfl⟩
theorem bt658 : Cond.methodLink RX8 204 yX8_soonOf ∈ BT := bt_of (in_t5 (List.mem_of_getElem? (i := 45) rfl)) rfl
theorem bt659 : Cond.instanceMethod yX8_soonOf ∈ BT := bt_of (in_t5 (List.mem_of_getElem? (i := 47) rfl)) rfl
theorem bt660 : Cond.selects RX8 yX8_soonOf yX8_soonOf ∈ BT := bt_of (in_s3 (n := 30) (List.mem_of_getElem? (i := 10) rfl)) rfl
theorem bt661 : Cond.code yX8_soonOf cX8_soonOf 6 (some .int) ∈ BT := bt_of (in_t5 (List.mem_of_getElem? (i := 48) rfl)) rfl
theorem vl_X8_204 (M : Mth) (h : mO M = RX8) : VLk M mX8_soonOf 204 8 4 := ⟨by rw [h]; exact bt658, bt659, bt660, bt529, bt661, ⟨by decide +kernel, by decide +kernel⟩, by decide +kernel, by decide, TX8, 30, rfl⟩
theorem bt662 : Cond.methodLink RX8 207 yX8_meetOf ∈ BT := bt_of (in_t5 (List.mem_of_getElem? (i := 70) rfl)) rfl
theorem bt663 : Cond.instanceMethod yX8_meetOf ∈ BT := bt_of (in_t5 (List.mem_of_getElem? (i := 72) rfl)) rfl
theorem bt664 : Cond.selects RX8 yX8_meetOf yX8_meetOf ∈ BT := bt_of (in_s3 (n := 30) (List.mem_of_getElem? (i := 14) rfl)) rfl
theorem bt665 : Cond.code yX8_meetOf cX8_meetOf 7 (some .int) ∈ BT := bt_of (in_t5 (List.mem_of_getElem? (i := 73) rfl)) rfl
theorem vl_X8_207 (M : Mth) (h : mO M = RX8) : VLk M mX8_meetOf 207 8 4 := ⟨by rw [h]; exact bt662, bt663, bt664, bt529, bt665, ⟨by decide +kernel, by decide +kernel⟩, by decide +kernel, by decide, TX8, 30, rfl⟩
theorem bt666 : Cond.fieldLink RX8 53 "TurningVillageModel" "wishes" "[I" ∈ BT := bt_of (in_t4 (List.mem_of_getElem? (i := 42) rfl)) rfl
theorem fl_X8_53 : FLk RX8 53 8 18 := ⟨RX8, TX8, 30, rfl, by decide, bt666, iB_X8⟩
theorem bt667 : Cond.fieldLink RX8 56 "TurningVillageModel" "lives" "[I" ∈ BT := bt_of (in_t4 (List.mem_of_getElem? (i := 43) rfl)) rfl
theorem fl_X8_56 : FLk RX8 56 8 19 := ⟨RX8, TX8, 30, rfl, by decide, bt667, iB_X8⟩
theorem bt668 : Cond.fieldLink RX8 59 "TurningVillageModel" "joys" "[I" ∈ BT := bt_of (in_t4 (List.mem_of_getElem? (i := 44) rfl)) rfl
theorem fl_X8_59 : FLk RX8 59 8 20 := ⟨RX8, TX8, 30, rfl, by decide, bt668, iB_X8⟩
theorem bt669 : Cond.methodLink RX8 210 yX8_laysJoy ∈ BT := bt_of (in_t5 (List.mem_of_getElem? (i := 86) rfl)) rfl
theorem bt670 : Cond.instanceMethod yX8_laysJoy ∈ BT := bt_of (in_t5 (List.mem_of_getElem? (i := 88) rfl)) rfl
theorem bt671 : Cond.selects RX8 yX8_laysJoy yX8_laysJoy ∈ BT := bt_of (in_s3 (n := 30) (List.mem_of_getElem? (i := 15) rfl)) rfl
theorem bt672 : Cond.code yX8_laysJoy cX8_laysJoy 7 none ∈ BT := bt_of (in_t5 (List.mem_of_getElem? (i := 89) rfl)) rfl
theorem vl_X8_210 (M : Mth) (h : mO M = RX8) : VLk M mX8_laysJoy 210 8 2 := ⟨by rw [h]; exact bt669, bt670, bt671, bt529, bt672, ⟨by decide +kernel, by decide +kernel⟩, by decide +kernel, by decide, TX8, 30, rfl⟩
theorem bt673 : Cond.methodLink RX8 213 yX8_ones ∈ BT := bt_of (in_t5 (List.mem_of_getElem? (i := 102) rfl)) rfl
theorem bt674 : Cond.static yX8_ones ∈ BT := bt_of (in_t5 (List.mem_of_getElem? (i := 103) rfl)) rfl
theorem bt675 : Cond.code yX8_ones cX8_ones 3 (some .int) ∈ BT := bt_of (in_t5 (List.mem_of_getElem? (i := 104) rfl)) rfl
theorem sl_X8_213 (M : Mth) (h : mO M = RX8) : SLk M mX8_ones 213 1 := ⟨by rw [h]; exact bt673, bt674, bt529, bt675, ⟨by decide +kernel, by decide +kernel⟩, by decide +kernel, by decide⟩
theorem bt676 : Cond.methodLink RX8 216 yX8_isIn ∈ BT := bt_of (in_t5 (List.mem_of_getElem? (i := 105) rfl)) rfl
theorem bt677 : Cond.static yX8_isIn ∈ BT := bt_of (in_t5 (List.mem_of_getElem? (i := 106) rfl)) rfl
theorem bt678 : Cond.code yX8_isIn cX8_isIn 2 (some .boolean) ∈ BT := bt_of (in_t5 (List.mem_of_getElem? (i := 107) rfl)) rfl
theorem sl_X8_216 (M : Mth) (h : mO M = RX8) : SLk M mX8_isIn 216 2 := ⟨by rw [h]; exact bt676, bt677, bt529, bt678, ⟨by decide +kernel, by decide +kernel⟩, by decide +kernel, by decide⟩
theorem bt679 : Cond.fieldLink RX8 62 "TurningVillageModel" "mostBehind" "[I" ∈ BT := bt_of (in_t4 (List.mem_of_getElem? (i := 45) rfl)) rfl
theorem fl_X8_62 : FLk RX8 62 8 21 := ⟨RX8, TX8, 30, rfl, by decide, bt679, iB_X8⟩
theorem bt680 : Cond.methodLink RX8 219 yX8_bestOf ∈ BT := bt_of (in_t5 (List.mem_of_getElem? (i := 98) rfl)) rfl
theorem bt681 : Cond.instanceMethod yX8_bestOf ∈ BT := bt_of (in_t5 (List.mem_of_getElem? (i := 100) rfl)) rfl
theorem bt682 : Cond.selects RX8 yX8_bestOf yX8_bestOf ∈ BT := bt_of (in_s4 (n := 30) (List.mem_of_getElem? (i := 0) rfl)) rfl
theorem bt683 : Cond.code yX8_bestOf cX8_bestOf 9 (some .int) ∈ BT := bt_of (in_t5 (List.mem_of_getElem? (i := 101) rfl)) rfl
theorem vl_X8_219 (M : Mth) (h : mO M = RX8) : VLk M mX8_bestOf 219 8 3 := ⟨by rw [h]; exact bt680, bt681, bt682, bt529, bt683, ⟨by decide +kernel, by decide +kernel⟩, by decide +kernel, by decide, TX8, 30, rfl⟩
theorem bt684 : Cond.methodLink RX8 222 yX8_envyOf ∈ BT := bt_of (in_t5 (List.mem_of_getElem? (i := 112) rfl)) rfl
theorem bt685 : Cond.instanceMethod yX8_envyOf ∈ BT := bt_of (in_t5 (List.mem_of_getElem? (i := 114) rfl)) rfl
theorem bt686 : Cond.selects RX8 yX8_envyOf yX8_envyOf ∈ BT := bt_of (in_s4 (n := 30) (List.mem_of_getElem? (i := 1) rfl)) rfl
theorem bt687 : Cond.code yX8_envyOf cX8_envyOf 7 (some .int) ∈ BT := bt_of (in_t5 (List.mem_of_getElem? (i := 115) rfl)) rfl
theorem vl_X8_222 (M : Mth) (h : mO M = RX8) : VLk M mX8_envyOf 222 8 2 := ⟨by rw [h]; exact bt684, bt685, bt686, bt529, bt687, ⟨by decide +kernel, by decide +kernel⟩, by decide +kernel, by decide, TX8, 30, rfl⟩
theorem bt688 : Cond.fieldLink RX8 65 "TurningVillageModel" "reaped" "[I" ∈ BT := bt_of (in_t4 (List.mem_of_getElem? (i := 46) rfl)) rfl
theorem fl_X8_65 : FLk RX8 65 8 22 := ⟨RX8, TX8, 30, rfl, by decide, bt688, iB_X8⟩
theorem bt689 : Cond.fieldLink RX8 68 "TurningVillageModel" "fields" "[I" ∈ BT := bt_of (in_t4 (List.mem_of_getElem? (i := 47) rfl)) rfl
theorem fl_X8_68 : FLk RX8 68 8 23 := ⟨RX8, TX8, 30, rfl, by decide, bt689, iB_X8⟩
theorem bt690 : Cond.methodLink RX8 225 yX8_historyOf ∈ BT := bt_of (in_t5 (List.mem_of_getElem? (i := 124) rfl)) rfl
theorem bt691 : Cond.instanceMethod yX8_historyOf ∈ BT := bt_of (in_t5 (List.mem_of_getElem? (i := 126) rfl)) rfl
theorem bt692 : Cond.selects RX8 yX8_historyOf yX8_historyOf ∈ BT := bt_of (in_s4 (n := 30) (List.mem_of_getElem? (i := 2) rfl)) rfl
theorem bt693 : Cond.code yX8_historyOf cX8_historyOf 12 (some .int) ∈ BT := bt_of (in_t5 (List.mem_of_getElem? (i := 127) rfl)) rfl
theorem vl_X8_225 (M : Mth) (h : mO M = RX8) : VLk M mX8_historyOf 225 8 3 := ⟨by rw [h]; exact bt690, bt691, bt692, bt529, bt693, ⟨by decide +kernel, by decide +kernel⟩, by decide +kernel, by decide, TX8, 30, rfl⟩
theorem bt694 : Cond.methodLink RX8 228 yX8_waitsOf ∈ BT := bt_of (in_t5 (List.mem_of_getElem? (i := 132) rfl)) rfl
theorem bt695 : Cond.instanceMethod yX8_waitsOf ∈ BT := bt_of (in_t5 (List.mem_of_getElem? (i := 134) rfl)) rfl
theorem bt696 : Cond.selects RX8 yX8_waitsOf yX8_waitsOf ∈ BT := bt_of (in_s4 (n := 30) (List.mem_of_getElem? (i := 3) rfl)) rfl
theorem bt697 : Cond.code yX8_waitsOf cX8_waitsOf 6 (some .int) ∈ BT := bt_of (in_t5 (List.mem_of_getElem? (i := 135) rfl)) rfl
theorem vl_X8_228 (M : Mth) (h : mO M = RX8) : VLk M mX8_waitsOf 228 8 2 := ⟨by rw [h]; exact bt694, bt695, bt696, bt529, bt697, ⟨by decide +kernel, by decide +kernel⟩, by decide +kernel, by decide, TX8, 30, rfl⟩
theorem bt698 : Cond.methodLink RX8 231 yX8_digOf ∈ BT := bt_of (in_t5 (List.mem_of_getElem? (i := 140) rfl)) rfl
theorem bt699 : Cond.instanceMethod yX8_digOf ∈ BT := bt_of (in_t5 (List.mem_of_getElem? (i := 142) rfl)) rfl
theorem bt700 : Cond.selects RX8 yX8_digOf yX8_digOf ∈ BT := bt_of (in_s4 (n := 30) (List.mem_of_getElem? (i := 4) rfl)) rfl
theorem bt701 : Cond.code yX8_digOf cX8_digOf 8 (some .int) ∈ BT := bt_of (in_t5 (List.mem_of_getElem? (i := 143) rfl)) rfl
theorem vl_X8_231 (M : Mth) (h : mO M = RX8) : VLk M mX8_digOf 231 8 2 := ⟨by rw [h]; exact bt698, bt699, bt700, bt529, bt701, ⟨by decide +kernel, by decide +kernel⟩, by decide +kernel, by decide, TX8, 30, rfl⟩
theorem bt702 : Cond.fieldLink RX8 234 "TurningVillageModel" "finding" "I" ∈ BT := bt_of (in_t4 (List.mem_of_getElem? (i := 53) rfl)) rfl
theorem fp_X8_234 : FPk RX8 234 8 29 .int := ⟨RX8, TX8, 30, tyX8, rfl, by decide, bt702, iB_X8, tyX8_ok, nmX8, rfl, by decide +kernel⟩
theorem bt703 : Cond.fieldLink RX8 75 "TurningVillageModel" "forms" "[I" ∈ BT := bt_of (in_t4 (List.mem_of_getElem? (i := 49) rfl)) rfl
theorem fl_X8_75 : FLk RX8 75 8 25 := ⟨RX8, TX8, 30, rfl, by decide, bt703, iB_X8⟩
theorem bt704 : Cond.methodLink RX8 237 yX8_lacks ∈ BT := bt_of (in_t5 (List.mem_of_getElem? (i := 156) rfl)) rfl
theorem bt705 : Cond.instanceMethod yX8_lacks ∈ BT := bt_of (in_t5 (List.mem_of_getElem? (i := 158) rfl)) rfl
theorem bt706 : Cond.selects RX8 yX8_lacks yX8_lacks ∈ BT := bt_of (in_s4 (n := 30) (List.mem_of_getElem? (i := 5) rfl)) rfl
theorem bt707 : Cond.code yX8_lacks cX8_lacks 4 (some .int) ∈ BT := bt_of (in_t5 (List.mem_of_getElem? (i := 159) rfl)) rfl
theorem vl_X8_237 (M : Mth) (h : mO M = RX8) : VLk M mX8_lacks 237 8 3 := ⟨by rw [h]; exact bt704, bt705, bt706, bt529, bt707, ⟨by decide +kernel, by decide +kernel⟩, by decide +kernel, by decide, TX8, 30, rfl⟩
theorem bt708 : Cond.methodLink RX8 240 yX8_keep ∈ BT := bt_of (in_t5 (List.mem_of_getElem? (i := 160) rfl)) rfl
theorem bt709 : Cond.instanceMethod yX8_keep ∈ BT := bt_of (in_t5 (List.mem_of_getElem? (i := 162) rfl)) rfl
theorem bt710 : Cond.selects RX8 yX8_keep yX8_keep ∈ BT := bt_of (in_s4 (n := 30) (List.mem_of_getElem? (i := 6) rfl)) rfl
theorem bt711 : Cond.code yX8_keep cX8_keep 4 none ∈ BT := bt_of (in_t5 (List.mem_of_getElem? (i := 163) rfl)) rfl
theorem vl_X8_240 (M : Mth) (h : mO M = RX8) : VLk M mX8_keep 240 8 3 := ⟨by rw [h]; exact bt708, bt709, bt710, bt529, bt711, ⟨by decide +kernel, by decide +kernel⟩, by decide +kernel, by decide, TX8, 30, rfl⟩
theorem bt712 : Cond.constant RX8 244 (-2147483648) ∈ BT := bt_of (in_t5 (List.mem_of_getElem? (i := 168) rfl)) rfl
theorem bt713 : Cond.fieldLink RX8 84 "TurningVillageModel" "moved" "[I" ∈ BT := bt_of (in_t4 (List.mem_of_getElem? (i := 52) rfl)) rfl
theorem fl_X8_84 : FLk RX8 84 8 28 := ⟨RX8, TX8, 30, rfl, by decide, bt713, iB_X8⟩
theorem bt714 : Cond.methodLink RX8 245 yX8_sumOf ∈ BT := bt_of (in_t5 (List.mem_of_getElem? (i := 181) rfl)) rfl
theorem bt715 : Cond.instanceMethod yX8_sumOf ∈ BT := bt_of (in_t5 (List.mem_of_getElem? (i := 183) rfl)) rfl
theorem bt716 : Cond.selects RX8 yX8_sumOf yX8_sumOf ∈ BT := bt_of (in_s4 (n := 30) (List.mem_of_getElem? (i := 7) rfl)) rfl
theorem bt717 : Cond.code yX8_sumOf cX8_sumOf 5 (some .int) ∈ BT := bt_of (in_t5 (List.mem_of_getElem? (i := 184) rfl)) rfl
theorem vl_X8_245 (M : Mth) (h : mO M = RX8) : VLk M mX8_sumOf 245 8 1 := ⟨by rw [h]; exact bt714, bt715, bt716, bt529, bt717, ⟨by decide +kernel, by decide +kernel⟩, by decide +kernel, by decide, TX8, 30, rfl⟩
theorem fl_X8_234 : FLk RX8 234 8 29 := ⟨RX8, TX8, 30, rfl, by decide, bt702, iB_X8⟩
theorem bt718 : Cond.constantLong RX8 248 (17) ∈ BT := bt_of (in_t5 (List.mem_of_getElem? (i := 189) rfl)) rfl
theorem bt719 : Cond.constantLong RX8 250 (31) ∈ BT := bt_of (in_t5 (List.mem_of_getElem? (i := 190) rfl)) rfl
theorem bt720 : Cond.methodLink RX8 252 yX8_count ∈ BT := bt_of (in_t5 (List.mem_of_getElem? (i := 191) rfl)) rfl
theorem bt721 : Cond.instanceMethod yX8_count ∈ BT := bt_of (in_t5 (List.mem_of_getElem? (i := 178) rfl)) rfl
theorem bt722 : Cond.selects RX8 yX8_count yX8_count ∈ BT := bt_of (in_t5 (List.mem_of_getElem? (i := 179) rfl)) rfl
theorem bt723 : Cond.code yX8_count cX8_count 2 (some .int) ∈ BT := bt_of (in_t5 (List.mem_of_getElem? (i := 180) rfl)) rfl
theorem vl_X8_252 (M : Mth) (h : mO M = RX8) : VLk M mX8_count 252 8 1 := ⟨by rw [h]; exact bt720, bt721, bt722, bt529, bt723, ⟨by decide +kernel, by decide +kernel⟩, by decide +kernel, by decide, TX8, 30, rfl⟩
theorem bt724 : Cond.constant RJ6 264 (65536) ∈ BT := bt_of (in_t3 (List.mem_of_getElem? (i := 144) rfl)) rfl
theorem bt725 : Cond.constant RJ6 265 (1431655765) ∈ BT := bt_of (in_t3 (List.mem_of_getElem? (i := 98) rfl)) rfl
theorem bt726 : Cond.constant RJ6 266 (858993459) ∈ BT := bt_of (in_t3 (List.mem_of_getElem? (i := 99) rfl)) rfl
theorem bt727 : Cond.constant RJ6 267 (252645135) ∈ BT := bt_of (in_t3 (List.mem_of_getElem? (i := 100) rfl)) rfl
theorem bt728 : Cond.static arraycopyName ∈ BT := bt_of (in_t3 (List.mem_of_getElem? (i := 18) rfl)) rfl
theorem bt729 : Cond.native arraycopyName ∈ BT := bt_of (in_t3 (List.mem_of_getElem? (i := 19) rfl)) rfl
theorem bt730 : Cond.initialized RJ10 ∈ BT := bt_of (in_t1 (List.mem_of_getElem? (i := 12) rfl)) rfl
theorem acpy : Cond.static arraycopyName ∈ BT ∧ Cond.native arraycopyName ∈ BT ∧ Cond.initialized RJ10 ∈ BT := ⟨bt728, bt729, bt730⟩
theorem sh0 : Sh 0 (.inr (7, [3, 12, 20, 22, 25, 28, 34, 40, 0])) := ⟨by decide, rfl⟩
theorem sh1 : Sh 1 (.inr (3, [4, 0, 0, 5, 6, 7, 0, 8, 9, 10, 11])) := ⟨by decide, rfl⟩
theorem sh2 : Sh 2 (.inl (0, 60)) := ⟨by decide, rfl⟩
theorem sh3 : Sh 3 (.inl (0, 8)) := ⟨by decide, rfl⟩
theorem sh4 : Sh 4 (.inl (0, 8)) := ⟨by decide, rfl⟩
theorem sh5 : Sh 5 (.inl (0, 8)) := ⟨by decide, rfl⟩
theorem sh6 : Sh 6 (.inl (0, 4)) := ⟨by decide, rfl⟩
theorem sh7 : Sh 7 (.inl (0, 4)) := ⟨by decide, rfl⟩
theorem sh8 : Sh 8 (.inl (0, 4)) := ⟨by decide, rfl⟩
theorem sh9 : Sh 9 (.inl (0, 4)) := ⟨by decide, rfl⟩
theorem sh10 : Sh 10 (.inr (1, [0, 13, 14, 15, 16, 0, 0, 0, 0, 17, 18, 19])) := ⟨by decide, rfl⟩
theorem sh11 : Sh 11 (.inl (0, 60)) := ⟨by decide, rfl⟩
theorem sh12 : Sh 12 (.inl (0, 60)) := ⟨by decide, rfl⟩
theorem sh13 : Sh 13 (.inl (0, 60)) := ⟨by decide, rfl⟩
theorem sh14 : Sh 14 (.inl (0, 60)) := ⟨by decide, rfl⟩
theorem sh15 : Sh 15 (.inl (0, 100)) := ⟨by decide, rfl⟩
theorem sh16 : Sh 16 (.inl (0, 8)) := ⟨by decide, rfl⟩
theorem sh17 : Sh 17 (.inl (0, 8)) := ⟨by decide, rfl⟩
theorem sh18 : Sh 18 (.inr (0, [21, 1])) := ⟨by decide, rfl⟩
theorem sh19 : Sh 19 (.inl (1, 8)) := ⟨by decide, rfl⟩
theorem sh20 : Sh 20 (.inr (6, [23, 24])) := ⟨by decide, rfl⟩
theorem sh21 : Sh 21 (.inl (0, 16)) := ⟨by decide, rfl⟩
theorem sh22 : Sh 22 (.inl (0, 16)) := ⟨by decide, rfl⟩
theorem sh23 : Sh 23 (.inr (6, [26, 27])) := ⟨by decide, rfl⟩
theorem sh24 : Sh 24 (.inl (0, 16)) := ⟨by decide, rfl⟩
theorem sh25 : Sh 25 (.inl (0, 16)) := ⟨by decide, rfl⟩
theorem sh26 : Sh 26 (.inr (5, [29, 30, 31, 32, 33])) := ⟨by decide, rfl⟩
theorem sh27 : Sh 27 (.inl (0, 8)) := ⟨by decide, rfl⟩
theorem sh28 : Sh 28 (.inl (0, 40)) := ⟨by decide, rfl⟩
theorem sh29 : Sh 29 (.inl (0, 64)) := ⟨by decide, rfl⟩
theorem sh30 : Sh 30 (.inl (0, 256)) := ⟨by decide, rfl⟩
theorem sh31 : Sh 31 (.inl (0, 8)) := ⟨by decide, rfl⟩
theorem sh32 : Sh 32 (.inr (2, [35, 36, 37, 38, 39, 0, 0, 0, 0])) := ⟨by decide, rfl⟩
theorem sh33 : Sh 33 (.inl (0, 8)) := ⟨by decide, rfl⟩
theorem sh34 : Sh 34 (.inl (1, 8)) := ⟨by decide, rfl⟩
theorem sh35 : Sh 35 (.inl (0, 13)) := ⟨by decide, rfl⟩
theorem sh36 : Sh 36 (.inl (0, 13)) := ⟨by decide, rfl⟩
theorem sh37 : Sh 37 (.inl (1, 13)) := ⟨by decide, rfl⟩
theorem sh38 : Sh 38 (.inl (42, 4)) := ⟨by decide, rfl⟩
theorem sh39 : Sh 39 (.inr (4, [0, 0, 0, 45])) := ⟨by decide, rfl⟩
theorem sh40 : Sh 40 (.inr (4, [0, 0, 0, 46])) := ⟨by decide, rfl⟩
theorem sh41 : Sh 41 (.inr (4, [0, 0, 0, 47])) := ⟨by decide, rfl⟩
theorem sh42 : Sh 42 (.inr (4, [0, 0, 0, 48])) := ⟨by decide, rfl⟩
theorem sh43 : Sh 43 (.inl (0, 60)) := ⟨by decide, rfl⟩
theorem sh44 : Sh 44 (.inl (0, 60)) := ⟨by decide, rfl⟩
theorem sh45 : Sh 45 (.inl (0, 60)) := ⟨by decide, rfl⟩
theorem sh46 : Sh 46 (.inl (0, 60)) := ⟨by decide, rfl⟩
theorem sh47 : Sh 47 (.inr (8, [0, 50, 51, 52, 0, 53, 54, 0, 55, 56, 57, 58, 0, 59, 60, 61, 62, 63, 64, 65, 66, 67, 68, 69, 70, 71, 72, 73, 74, 0])) := ⟨by decide, rfl⟩
theorem sh48 : Sh 48 (.inl (0, 60)) := ⟨by decide, rfl⟩
theorem sh49 : Sh 49 (.inl (0, 8)) := ⟨by decide, rfl⟩
theorem sh50 : Sh 50 (.inl (0, 8)) := ⟨by decide, rfl⟩
theorem sh51 : Sh 51 (.inl (0, 16)) := ⟨by decide, rfl⟩
theorem sh52 : Sh 52 (.inl (0, 8)) := ⟨by decide, rfl⟩
theorem sh53 : Sh 53 (.inl (0, 60)) := ⟨by decide, rfl⟩
theorem sh54 : Sh 54 (.inl (0, 60)) := ⟨by decide, rfl⟩
theorem sh55 : Sh 55 (.inl (0, 60)) := ⟨by decide, rfl⟩
theorem sh56 : Sh 56 (.inl (0, 60)) := ⟨by decide, rfl⟩
theorem sh57 : Sh 57 (.inl (0, 3)) := ⟨by decide, rfl⟩
theorem sh58 : Sh 58 (.inl (0, 100)) := ⟨by decide, rfl⟩
theorem sh59 : Sh 59 (.inl (1, 16)) := ⟨by decide, rfl⟩
theorem sh60 : Sh 60 (.inl (0, 32)) := ⟨by decide, rfl⟩
theorem sh61 : Sh 61 (.inl (0, 16)) := ⟨by decide, rfl⟩
theorem sh62 : Sh 62 (.inl (0, 40)) := ⟨by decide, rfl⟩
theorem sh63 : Sh 63 (.inl (0, 8)) := ⟨by decide, rfl⟩
theorem sh64 : Sh 64 (.inl (0, 64)) := ⟨by decide, rfl⟩
theorem sh65 : Sh 65 (.inl (0, 256)) := ⟨by decide, rfl⟩
theorem sh66 : Sh 66 (.inl (0, 8)) := ⟨by decide, rfl⟩
theorem sh67 : Sh 67 (.inl (0, 8)) := ⟨by decide, rfl⟩
theorem sh68 : Sh 68 (.inl (2, 4)) := ⟨by decide, rfl⟩
theorem sh69 : Sh 69 (.inl (0, 4)) := ⟨by decide, rfl⟩
theorem sh70 : Sh 70 (.inl (0, 4)) := ⟨by decide, rfl⟩
theorem sh71 : Sh 71 (.inl (0, 240)) := ⟨by decide, rfl⟩
theorem sh72 : Sh 72 (.inl (0, 60)) := ⟨by decide, rfl⟩
theorem sh_sheet {t : Nat} (h : t < 4) : Sh (39 + t) (.inr (4, [0, 0, 0, 43 + t + 2])) := by
  match t, h with
  | 0, _ => exact ⟨by decide, rfl⟩
  | 1, _ => exact ⟨by decide, rfl⟩
  | 2, _ => exact ⟨by decide, rfl⟩
  | 3, _ => exact ⟨by decide, rfl⟩
  | n + 4, h => exact absurd h (by omega)
theorem sh_items {t : Nat} (h : t < 4) : Sh (43 + t) (.inl (0, 60)) := by
  match t, h with
  | 0, _ => exact ⟨by decide, rfl⟩
  | 1, _ => exact ⟨by decide, rfl⟩
  | 2, _ => exact ⟨by decide, rfl⟩
  | 3, _ => exact ⟨by decide, rfl⟩
  | n + 4, h => exact absurd h (by omega)
