theorem bt773 : Cond.methodLink RL 13 yX7_type ∈ BT := bt_of (in_t2 (List.mem_of_getElem? (i := 29) rfl)) rfl
theorem bt774 : Cond.instanceMethod yX7_type ∈ BT := bt_of (in_t2 (List.mem_of_getElem? (i := 30) rfl)) rfl
theorem bt775 : Cond.selects RX7 yX7_type yX7_type ∈ BT := bt_of (in_t2 (List.mem_of_getElem? (i := 31) rfl)) rfl
theorem bt776 : Cond.code yX7_type cX7_type 2 (some .int) ∈ BT := bt_of (in_t2 (List.mem_of_getElem? (i := 32) rfl)) rfl
theorem vl_L_13 (M : Mth) (h : mO M = RL) : VLk M mX7_type 13 7 1 := ⟨by rw [h]; exact bt773, bt774, bt775, bt187, bt776, ⟨by decide +kernel, by decide +kernel⟩, by decide +kernel, by decide, TX7, 9, rfl⟩
theorem bt777 : Cond.methodLink RL 17 yX8_type ∈ BT := bt_of (in_t4 (List.mem_of_getElem? (i := 113) rfl)) rfl
theorem bt778 : Cond.instanceMethod yX8_type ∈ BT := bt_of (in_t4 (List.mem_of_getElem? (i := 114) rfl)) rfl
theorem bt779 : Cond.selects RX8 yX8_type yX8_type ∈ BT := bt_of (in_t4 (List.mem_of_getElem? (i := 115) rfl)) rfl
theorem bt780 : Cond.code yX8_type cX8_type 2 (some .int) ∈ BT := bt_of (in_t4 (List.mem_of_getElem? (i := 116) rfl)) rfl
theorem vl_L_17 (M : Mth) (h : mO M = RL) : VLk M mX8_type 17 8 1 := ⟨by rw [h]; exact bt777, bt778, bt779, bt527, bt780, ⟨by decide +kernel, by decide +kernel⟩, by decide +kernel, by decide, TX8, 30, rfl⟩
theorem bt781 : Cond.methodLink RL 18 yX7_wipe ∈ BT := bt_of (in_t2 (List.mem_of_getElem? (i := 79) rfl)) rfl
theorem bt782 : Cond.instanceMethod yX7_wipe ∈ BT := bt_of (in_t2 (List.mem_of_getElem? (i := 80) rfl)) rfl
theorem bt783 : Cond.selects RX7 yX7_wipe yX7_wipe ∈ BT := bt_of (in_t2 (List.mem_of_getElem? (i := 81) rfl)) rfl
theorem bt784 : Cond.code yX7_wipe cX7_wipe 1 (some .int) ∈ BT := bt_of (in_t2 (List.mem_of_getElem? (i := 82) rfl)) rfl
theorem vl_L_18 (M : Mth) (h : mO M = RL) : VLk M mX7_wipe 18 7 0 := ⟨by rw [h]; exact bt781, bt782, bt783, bt187, bt784, ⟨by decide +kernel, by decide +kernel⟩, by decide +kernel, by decide, TX7, 9, rfl⟩
theorem bt785 : Cond.methodLink RL 22 yX8_wipe ∈ BT := bt_of (in_t4 (List.mem_of_getElem? (i := 120) rfl)) rfl
theorem bt786 : Cond.instanceMethod yX8_wipe ∈ BT := bt_of (in_t4 (List.mem_of_getElem? (i := 121) rfl)) rfl
theorem bt787 : Cond.selects RX8 yX8_wipe yX8_wipe ∈ BT := bt_of (in_t4 (List.mem_of_getElem? (i := 122) rfl)) rfl
theorem bt788 : Cond.code yX8_wipe cX8_wipe 2 (some .int) ∈ BT := bt_of (in_t4 (List.mem_of_getElem? (i := 123) rfl)) rfl
theorem vl_L_22 (M : Mth) (h : mO M = RL) : VLk M mX8_wipe 22 8 0 := ⟨by rw [h]; exact bt785, bt786, bt787, bt527, bt788, ⟨by decide +kernel, by decide +kernel⟩, by decide +kernel, by decide, TX8, 30, rfl⟩
theorem bt789 : Cond.methodLink RL 23 yX7_fault ∈ BT := bt_of (in_t2 (List.mem_of_getElem? (i := 87) rfl)) rfl
theorem bt790 : Cond.instanceMethod yX7_fault ∈ BT := bt_of (in_t2 (List.mem_of_getElem? (i := 88) rfl)) rfl
theorem bt791 : Cond.selects RX7 yX7_fault yX7_fault ∈ BT := bt_of (in_t2 (List.mem_of_getElem? (i := 89) rfl)) rfl
theorem bt792 : Cond.code yX7_fault cX7_fault 1 (some .int) ∈ BT := bt_of (in_t2 (List.mem_of_getElem? (i := 90) rfl)) rfl
theorem vl_L_23 (M : Mth) (h : mO M = RL) : VLk M mX7_fault 23 7 0 := ⟨by rw [h]; exact bt789, bt790, bt791, bt187, bt792, ⟨by decide +kernel, by decide +kernel⟩, by decide +kernel, by decide, TX7, 9, rfl⟩
theorem bt793 : Cond.methodLink RL 26 yX8_fault ∈ BT := bt_of (in_t4 (List.mem_of_getElem? (i := 124) rfl)) rfl
theorem bt794 : Cond.instanceMethod yX8_fault ∈ BT := bt_of (in_t4 (List.mem_of_getElem? (i := 125) rfl)) rfl
theorem bt795 : Cond.selects RX8 yX8_fault yX8_fault ∈ BT := bt_of (in_t4 (List.mem_of_getElem? (i := 126) rfl)) rfl
theorem bt796 : Cond.code yX8_fault cX8_fault 1 (some .int) ∈ BT := bt_of (in_t4 (List.mem_of_getElem? (i := 127) rfl)) rfl
theorem vl_L_26 (M : Mth) (h : mO M = RL) : VLk M mX8_fault 26 8 0 := ⟨by rw [h]; exact bt793, bt794, bt795, bt527, bt796, ⟨by decide +kernel, by decide +kernel⟩, by decide +kernel, by decide, TX8, 30, rfl⟩
theorem bt797 : Cond.methodLink RL 27 yX7_place ∈ BT := bt_of (in_t2 (List.mem_of_getElem? (i := 91) rfl)) rfl
theorem vl_L_27 (M : Mth) (h : mO M = RL) : VLk M mX7_place 27 7 2 := ⟨by rw [h]; exact bt797, bt496, bt497, bt187, bt498, ⟨by decide +kernel, by decide +kernel⟩, by decide +kernel, by decide, TX7, 9, rfl⟩
theorem bt798 : Cond.methodLink RL 31 yX8_place ∈ BT := bt_of (in_t4 (List.mem_of_getElem? (i := 147) rfl)) rfl
theorem bt799 : Cond.instanceMethod yX8_place ∈ BT := bt_of (in_t4 (List.mem_of_getElem? (i := 148) rfl)) rfl
theorem bt800 : Cond.selects RX8 yX8_place yX8_place ∈ BT := bt_of (in_t4 (List.mem_of_getElem? (i := 149) rfl)) rfl
theorem bt801 : Cond.code yX8_place cX8_place 3 (some .int) ∈ BT := bt_of (in_t4 (List.mem_of_getElem? (i := 150) rfl)) rfl
theorem vl_L_31 (M : Mth) (h : mO M = RL) : VLk M mX8_place 31 8 2 := ⟨by rw [h]; exact bt798, bt799, bt800, bt527, bt801, ⟨by decide +kernel, by decide +kernel⟩, by decide +kernel, by decide, TX8, 30, rfl⟩
theorem bt802 : Cond.methodLink RL 32 yX7_bridge ∈ BT := bt_of (in_t2 (List.mem_of_getElem? (i := 95) rfl)) rfl
theorem bt803 : Cond.instanceMethod yX7_bridge ∈ BT := bt_of (in_t2 (List.mem_of_getElem? (i := 96) rfl)) rfl
theorem bt804 : Cond.selects RX7 yX7_bridge yX7_bridge ∈ BT := bt_of (in_t2 (List.mem_of_getElem? (i := 97) rfl)) rfl
theorem bt805 : Cond.code yX7_bridge cX7_bridge 5 (some .int) ∈ BT := bt_of (in_t2 (List.mem_of_getElem? (i := 98) rfl)) rfl
theorem vl_L_32 (M : Mth) (h : mO M = RL) : VLk M mX7_bridge 32 7 3 := ⟨by rw [h]; exact bt802, bt803, bt804, bt187, bt805, ⟨by decide +kernel, by decide +kernel⟩, by decide +kernel, by decide, TX7, 9, rfl⟩
theorem bt806 : Cond.methodLink RL 36 yX8_bridge ∈ BT := bt_of (in_t4 (List.mem_of_getElem? (i := 208) rfl)) rfl
theorem bt807 : Cond.instanceMethod yX8_bridge ∈ BT := bt_of (in_t4 (List.mem_of_getElem? (i := 209) rfl)) rfl
theorem bt808 : Cond.selects RX8 yX8_bridge yX8_bridge ∈ BT := bt_of (in_t4 (List.mem_of_getElem? (i := 210) rfl)) rfl
theorem bt809 : Cond.code yX8_bridge cX8_bridge 4 (some .int) ∈ BT := bt_of (in_t4 (List.mem_of_getElem? (i := 211) rfl)) rfl
theorem vl_L_36 (M : Mth) (h : mO M = RL) : VLk M mX8_bridge 36 8 3 := ⟨by rw [h]; exact bt806, bt807, bt808, bt527, bt809, ⟨by decide +kernel, by decide +kernel⟩, by decide +kernel, by decide, TX8, 30, rfl⟩
theorem bt810 : Cond.methodLink RL 37 yX7_gale ∈ BT := bt_of (in_t2 (List.mem_of_getElem? (i := 110) rfl)) rfl
theorem vl_L_37 (M : Mth) (h : mO M = RL) : VLk M mX7_gale 37 7 3 := ⟨by rw [h]; exact bt810, bt297, bt298, bt187, bt299, ⟨by decide +kernel, by decide +kernel⟩, by decide +kernel, by decide, TX7, 9, rfl⟩
theorem bt811 : Cond.methodLink RL 40 yX8_gale ∈ BT := bt_of (in_t4 (List.mem_of_getElem? (i := 162) rfl)) rfl
theorem bt812 : Cond.instanceMethod yX8_gale ∈ BT := bt_of (in_t4 (List.mem_of_getElem? (i := 163) rfl)) rfl
theorem bt813 : Cond.selects RX8 yX8_gale yX8_gale ∈ BT := bt_of (in_t4 (List.mem_of_getElem? (i := 164) rfl)) rfl
theorem bt814 : Cond.code yX8_gale cX8_gale 4 (some .int) ∈ BT := bt_of (in_t4 (List.mem_of_getElem? (i := 165) rfl)) rfl
theorem vl_L_40 (M : Mth) (h : mO M = RL) : VLk M mX8_gale 40 8 3 := ⟨by rw [h]; exact bt811, bt812, bt813, bt527, bt814, ⟨by decide +kernel, by decide +kernel⟩, by decide +kernel, by decide, TX8, 30, rfl⟩
theorem bt815 : Cond.methodLink RL 41 yX7_read ∈ BT := bt_of (in_t2 (List.mem_of_getElem? (i := 131) rfl)) rfl
theorem bt816 : Cond.instanceMethod yX7_read ∈ BT := bt_of (in_t2 (List.mem_of_getElem? (i := 132) rfl)) rfl
theorem bt817 : Cond.selects RX7 yX7_read yX7_read ∈ BT := bt_of (in_t2 (List.mem_of_getElem? (i := 133) rfl)) rfl
theorem bt818 : Cond.code yX7_read cX7_read 6 (some .int) ∈ BT := bt_of (in_t2 (List.mem_of_getElem? (i := 134) rfl)) rfl
theorem vl_L_41 (M : Mth) (h : mO M = RL) : VLk M mX7_read 41 7 2 := ⟨by rw [h]; exact bt815, bt816, bt817, bt187, bt818, ⟨by decide +kernel, by decide +kernel⟩, by decide +kernel, by decide, TX7, 9, rfl⟩
theorem bt819 : Cond.methodLink RL 44 yX8_read ∈ BT := bt_of (in_t4 (List.mem_of_getElem? (i := 170) rfl)) rfl
theorem bt820 : Cond.instanceMethod yX8_read ∈ BT := bt_of (in_t4 (List.mem_of_getElem? (i := 171) rfl)) rfl
theorem bt821 : Cond.selects RX8 yX8_read yX8_read ∈ BT := bt_of (in_t4 (List.mem_of_getElem? (i := 172) rfl)) rfl
theorem bt822 : Cond.code yX8_read cX8_read 4 (some .int) ∈ BT := bt_of (in_t4 (List.mem_of_getElem? (i := 173) rfl)) rfl
theorem vl_L_44 (M : Mth) (h : mO M = RL) : VLk M mX8_read 44 8 2 := ⟨by rw [h]; exact bt819, bt820, bt821, bt527, bt822, ⟨by decide +kernel, by decide +kernel⟩, by decide +kernel, by decide, TX8, 30, rfl⟩
theorem bt823 : Cond.methodLink RL 45 yX7_takeBack ∈ BT := bt_of (in_t2 (List.mem_of_getElem? (i := 143) rfl)) rfl
theorem bt824 : Cond.instanceMethod yX7_takeBack ∈ BT := bt_of (in_t2 (List.mem_of_getElem? (i := 144) rfl)) rfl
theorem bt825 : Cond.selects RX7 yX7_takeBack yX7_takeBack ∈ BT := bt_of (in_t2 (List.mem_of_getElem? (i := 145) rfl)) rfl
theorem bt826 : Cond.code yX7_takeBack cX7_takeBack 3 (some .int) ∈ BT := bt_of (in_t2 (List.mem_of_getElem? (i := 146) rfl)) rfl
theorem vl_L_45 (M : Mth) (h : mO M = RL) : VLk M mX7_takeBack 45 7 2 := ⟨by rw [h]; exact bt823, bt824, bt825, bt187, bt826, ⟨by decide +kernel, by decide +kernel⟩, by decide +kernel, by decide, TX7, 9, rfl⟩
theorem bt827 : Cond.methodLink RL 48 yX8_takeBack ∈ BT := bt_of (in_t4 (List.mem_of_getElem? (i := 181) rfl)) rfl
theorem bt828 : Cond.instanceMethod yX8_takeBack ∈ BT := bt_of (in_t4 (List.mem_of_getElem? (i := 182) rfl)) rfl
theorem bt829 : Cond.selects RX8 yX8_takeBack yX8_takeBack ∈ BT := bt_of (in_t4 (List.mem_of_getElem? (i := 183) rfl)) rfl
theorem bt830 : Cond.code yX8_takeBack cX8_takeBack 3 (some .int) ∈ BT := bt_of (in_t4 (List.mem_of_getElem? (i := 184) rfl)) rfl
theorem vl_L_48 (M : Mth) (h : mO M = RL) : VLk M mX8_takeBack 48 8 2 := ⟨by rw [h]; exact bt827, bt828, bt829, bt527, bt830, ⟨by decide +kernel, by decide +kernel⟩, by decide +kernel, by decide, TX8, 30, rfl⟩
theorem bt831 : Cond.methodLink RL 49 yX7_set ∈ BT := bt_of (in_t2 (List.mem_of_getElem? (i := 155) rfl)) rfl
theorem bt832 : Cond.instanceMethod yX7_set ∈ BT := bt_of (in_t2 (List.mem_of_getElem? (i := 156) rfl)) rfl
theorem bt833 : Cond.selects RX7 yX7_set yX7_set ∈ BT := bt_of (in_t2 (List.mem_of_getElem? (i := 157) rfl)) rfl
theorem bt834 : Cond.code yX7_set cX7_set 4 (some .int) ∈ BT := bt_of (in_t2 (List.mem_of_getElem? (i := 158) rfl)) rfl
theorem vl_L_49 (M : Mth) (h : mO M = RL) : VLk M mX7_set 49 7 2 := ⟨by rw [h]; exact bt831, bt832, bt833, bt187, bt834, ⟨by decide +kernel, by decide +kernel⟩, by decide +kernel, by decide, TX7, 9, rfl⟩
theorem bt835 : Cond.methodLink RL 52 yX8_set ∈ BT := bt_of (in_t4 (List.mem_of_getElem? (i := 185) rfl)) rfl
theorem bt836 : Cond.instanceMethod yX8_set ∈ BT := bt_of (in_t4 (List.mem_of_getElem? (i := 186) rfl)) rfl
theorem bt837 : Cond.selects RX8 yX8_set yX8_set ∈ BT := bt_of (in_t4 (List.mem_of_getElem? (i := 187) rfl)) rfl
theorem bt838 : Cond.code yX8_set cX8_set 4 (some .int) ∈ BT := bt_of (in_t4 (List.mem_of_getElem? (i := 188) rfl)) rfl
theorem vl_L_52 (M : Mth) (h : mO M = RL) : VLk M mX8_set 52 8 2 := ⟨by rw [h]; exact bt835, bt836, bt837, bt527, bt838, ⟨by decide +kernel, by decide +kernel⟩, by decide +kernel, by decide, TX8, 30, rfl⟩
theorem bt839 : Cond.methodLink RL 53 yX7_sun ∈ BT := bt_of (in_t2 (List.mem_of_getElem? (i := 163) rfl)) rfl
theorem bt840 : Cond.instanceMethod yX7_sun ∈ BT := bt_of (in_t2 (List.mem_of_getElem? (i := 164) rfl)) rfl
theorem bt841 : Cond.selects RX7 yX7_sun yX7_sun ∈ BT := bt_of (in_t2 (List.mem_of_getElem? (i := 165) rfl)) rfl
theorem bt842 : Cond.code yX7_sun cX7_sun 4 (some .int) ∈ BT := bt_of (in_t2 (List.mem_of_getElem? (i := 166) rfl)) rfl
theorem vl_L_53 (M : Mth) (h : mO M = RL) : VLk M mX7_sun 53 7 2 := ⟨by rw [h]; exact bt839, bt840, bt841, bt187, bt842, ⟨by decide +kernel, by decide +kernel⟩, by decide +kernel, by decide, TX7, 9, rfl⟩
theorem bt843 : Cond.methodLink RL 56 yX8_sun ∈ BT := bt_of (in_t4 (List.mem_of_getElem? (i := 158) rfl)) rfl
theorem bt844 : Cond.instanceMethod yX8_sun ∈ BT := bt_of (in_t4 (List.mem_of_getElem? (i := 159) rfl)) rfl
theorem bt845 : Cond.selects RX8 yX8_sun yX8_sun ∈ BT := bt_of (in_t4 (List.mem_of_getElem? (i := 160) rfl)) rfl
theorem bt846 : Cond.code yX8_sun cX8_sun 4 (some .int) ∈ BT := bt_of (in_t4 (List.mem_of_getElem? (i := 161) rfl)) rfl
theorem vl_L_56 (M : Mth) (h : mO M = RL) : VLk M mX8_sun 56 8 2 := ⟨by rw [h]; exact bt843, bt844, bt845, bt527, bt846, ⟨by decide +kernel, by decide +kernel⟩, by decide +kernel, by decide, TX8, 30, rfl⟩
theorem bt847 : Cond.methodLink RL 57 yX7_turn ∈ BT := bt_of (in_t2 (List.mem_of_getElem? (i := 167) rfl)) rfl
theorem bt848 : Cond.instanceMethod yX7_turn ∈ BT := bt_of (in_t2 (List.mem_of_getElem? (i := 168) rfl)) rfl
theorem bt849 : Cond.selects RX7 yX7_turn yX7_turn ∈ BT := bt_of (in_t2 (List.mem_of_getElem? (i := 169) rfl)) rfl
theorem bt850 : Cond.code yX7_turn cX7_turn 2 (some .int) ∈ BT := bt_of (in_t2 (List.mem_of_getElem? (i := 170) rfl)) rfl
theorem vl_L_57 (M : Mth) (h : mO M = RL) : VLk M mX7_turn 57 7 1 := ⟨by rw [h]; exact bt847, bt848, bt849, bt187, bt850, ⟨by decide +kernel, by decide +kernel⟩, by decide +kernel, by decide, TX7, 9, rfl⟩
theorem bt851 : Cond.methodLink RL 60 yX8_turn ∈ BT := bt_of (in_t4 (List.mem_of_getElem? (i := 189) rfl)) rfl
theorem bt852 : Cond.instanceMethod yX8_turn ∈ BT := bt_of (in_t4 (List.mem_of_getElem? (i := 190) rfl)) rfl
theorem bt853 : Cond.selects RX8 yX8_turn yX8_turn ∈ BT := bt_of (in_t4 (List.mem_of_getElem? (i := 191) rfl)) rfl
theorem bt854 : Cond.code yX8_turn cX8_turn 2 (some .int) ∈ BT := bt_of (in_t4 (List.mem_of_getElem? (i := 192) rfl)) rfl
theorem vl_L_60 (M : Mth) (h : mO M = RL) : VLk M mX8_turn 60 8 1 := ⟨by rw [h]; exact bt851, bt852, bt853, bt527, bt854, ⟨by decide +kernel, by decide +kernel⟩, by decide +kernel, by decide, TX8, 30, rfl⟩
theorem bt855 : Cond.methodLink RL 61 yX7_door ∈ BT := bt_of (in_t2 (List.mem_of_getElem? (i := 171) rfl)) rfl
theorem vl_L_61 (M : Mth) (h : mO M = RL) : VLk M mX7_door 61 7 3 := ⟨by rw [h]; exact bt855, bt500, bt501, bt187, bt502, ⟨by decide +kernel, by decide +kernel⟩, by decide +kernel, by decide, TX7, 9, rfl⟩
theorem bt856 : Cond.methodLink RL 64 yX8_door ∈ BT := bt_of (in_t4 (List.mem_of_getElem? (i := 216) rfl)) rfl
theorem bt857 : Cond.instanceMethod yX8_door ∈ BT := bt_of (in_t4 (List.mem_of_getElem? (i := 217) rfl)) rfl
theorem bt858 : Cond.selects RX8 yX8_door yX8_door ∈ BT := bt_of (in_t4 (List.mem_of_getElem? (i := 218) rfl)) rfl
theorem bt859 : Cond.code yX8_door cX8_door 4 (some .int) ∈ BT := bt_of (in_t4 (List.mem_of_getElem? (i := 219) rfl)) rfl
theorem vl_L_64 (M : Mth) (h : mO M = RL) : VLk M mX8_door 64 8 3 := ⟨by rw [h]; exact bt856, bt857, bt858, bt527, bt859, ⟨by decide +kernel, by decide +kernel⟩, by decide +kernel, by decide, TX8, 30, rfl⟩
theorem bt860 : Cond.methodLink RL 65 yX7_share ∈ BT := bt_of (in_t2 (List.mem_of_getElem? (i := 175) rfl)) rfl
theorem bt861 : Cond.instanceMethod yX7_share ∈ BT := bt_of (in_t2 (List.mem_of_getElem? (i := 176) rfl)) rfl
theorem bt862 : Cond.selects RX7 yX7_share yX7_share ∈ BT := bt_of (in_t2 (List.mem_of_getElem? (i := 177) rfl)) rfl
theorem bt863 : Cond.code yX7_share cX7_share 6 (some .long) ∈ BT := bt_of (in_t2 (List.mem_of_getElem? (i := 178) rfl)) rfl
theorem vl_L_65 (M : Mth) (h : mO M = RL) : VLk M mX7_share 65 7 5 := ⟨by rw [h]; exact bt860, bt861, bt862, bt187, bt863, ⟨by decide +kernel, by decide +kernel⟩, by decide +kernel, by decide, TX7, 9, rfl⟩
theorem bt864 : Cond.methodLink RL 69 yX8_share ∈ BT := bt_of (in_t4 (List.mem_of_getElem? (i := 228) rfl)) rfl
theorem bt865 : Cond.instanceMethod yX8_share ∈ BT := bt_of (in_t4 (List.mem_of_getElem? (i := 229) rfl)) rfl
theorem bt866 : Cond.selects RX8 yX8_share yX8_share ∈ BT := bt_of (in_t4 (List.mem_of_getElem? (i := 230) rfl)) rfl
theorem bt867 : Cond.code yX8_share cX8_share 6 (some .long) ∈ BT := bt_of (in_t4 (List.mem_of_getElem? (i := 231) rfl)) rfl
theorem vl_L_69 (M : Mth) (h : mO M = RL) : VLk M mX8_share 69 8 5 := ⟨by rw [h]; exact bt864, bt865, bt866, bt527, bt867, ⟨by decide +kernel, by decide +kernel⟩, by decide +kernel, by decide, TX8, 30, rfl⟩
theorem bt868 : Cond.methodLink RL 70 yX7_shine ∈ BT := bt_of (in_t2 (List.mem_of_getElem? (i := 197) rfl)) rfl
theorem vl_L_70 (M : Mth) (h : mO M = RL) : VLk M mX7_shine 70 7 3 := ⟨by rw [h]; exact bt868, bt504, bt505, bt187, bt506, ⟨by decide +kernel, by decide +kernel⟩, by decide +kernel, by decide, TX7, 9, rfl⟩
theorem bt869 : Cond.methodLink RL 73 yX8_shine ∈ BT := bt_of (in_t5 (List.mem_of_getElem? (i := 9) rfl)) rfl
theorem bt870 : Cond.instanceMethod yX8_shine ∈ BT := bt_of (in_t5 (List.mem_of_getElem? (i := 10) rfl)) rfl
theorem bt871 : Cond.selects RX8 yX8_shine yX8_shine ∈ BT := bt_of (in_t5 (List.mem_of_getElem? (i := 11) rfl)) rfl
theorem bt872 : Cond.code yX8_shine cX8_shine 4 (some .int) ∈ BT := bt_of (in_t5 (List.mem_of_getElem? (i := 12) rfl)) rfl
theorem vl_L_73 (M : Mth) (h : mO M = RL) : VLk M mX8_shine 73 8 3 := ⟨by rw [h]; exact bt869, bt870, bt871, bt527, bt872, ⟨by decide +kernel, by decide +kernel⟩, by decide +kernel, by decide, TX8, 30, rfl⟩
theorem bt873 : Cond.methodLink RL 74 yX7_ahead ∈ BT := bt_of (in_t2 (List.mem_of_getElem? (i := 201) rfl)) rfl
theorem vl_L_74 (M : Mth) (h : mO M = RL) : VLk M mX7_ahead 74 7 4 := ⟨by rw [h]; exact bt873, bt476, bt477, bt187, bt478, ⟨by decide +kernel, by decide +kernel⟩, by decide +kernel, by decide, TX7, 9, rfl⟩
theorem bt874 : Cond.methodLink RL 78 yX8_ahead ∈ BT := bt_of (in_t5 (List.mem_of_getElem? (i := 17) rfl)) rfl
theorem bt875 : Cond.instanceMethod yX8_ahead ∈ BT := bt_of (in_t5 (List.mem_of_getElem? (i := 18) rfl)) rfl
theorem bt876 : Cond.selects RX8 yX8_ahead yX8_ahead ∈ BT := bt_of (in_t5 (List.mem_of_getElem? (i := 19) rfl)) rfl
theorem bt877 : Cond.code yX8_ahead cX8_ahead 5 (some .int) ∈ BT := bt_of (in_t5 (List.mem_of_getElem? (i := 20) rfl)) rfl
theorem vl_L_78 (M : Mth) (h : mO M = RL) : VLk M mX8_ahead 78 8 4 := ⟨by rw [h]; exact bt874, bt875, bt876, bt527, bt877, ⟨by decide +kernel, by decide +kernel⟩, by decide +kernel, by decide, TX8, 30, rfl⟩
theorem bt878 : Cond.methodLink RL 79 yX7_next ∈ BT := bt_of (in_t2 (List.mem_of_getElem? (i := 208) rfl)) rfl
theorem bt879 : Cond.instanceMethod yX7_next ∈ BT := bt_of (in_t2 (List.mem_of_getElem? (i := 209) rfl)) rfl
theorem bt880 : Cond.selects RX7 yX7_next yX7_next ∈ BT := bt_of (in_t2 (List.mem_of_getElem? (i := 210) rfl)) rfl
theorem bt881 : Cond.code yX7_next cX7_next 7 (some .int) ∈ BT := bt_of (in_t2 (List.mem_of_getElem? (i := 211) rfl)) rfl
theorem vl_L_79 (M : Mth) (h : mO M = RL) : VLk M mX7_next 79 7 4 := ⟨by rw [h]; exact bt878, bt879, bt880, bt187, bt881, ⟨by decide +kernel, by decide +kernel⟩, by decide +kernel, by decide, TX7, 9, rfl⟩
theorem bt882 : Cond.methodLink RL 82 yX8_next ∈ BT := bt_of (in_t5 (List.mem_of_getElem? (i := 25) rfl)) rfl
theorem bt883 : Cond.instanceMethod yX8_next ∈ BT := bt_of (in_t5 (List.mem_of_getElem? (i := 26) rfl)) rfl
theorem bt884 : Cond.selects RX8 yX8_next yX8_next ∈ BT := bt_of (in_t5 (List.mem_of_getElem? (i := 27) rfl)) rfl
theorem bt885 : Cond.code yX8_next cX8_next 6 (some .int) ∈ BT := bt_of (in_t5 (List.mem_of_getElem? (i := 28) rfl)) rfl
theorem vl_L_82 (M : Mth) (h : mO M = RL) : VLk M mX8_next 82 8 4 := ⟨by rw [h]; exact bt882, bt883, bt884, bt527, bt885, ⟨by decide +kernel, by decide +kernel⟩, by decide +kernel, by decide, TX8, 30, rfl⟩
theorem bt886 : Cond.methodLink RL 83 yX7_likely ∈ BT := bt_of (in_t2 (List.mem_of_getElem? (i := 220) rfl)) rfl
theorem bt887 : Cond.instanceMethod yX7_likely ∈ BT := bt_of (in_t2 (List.mem_of_getElem? (i := 221) rfl)) rfl
theorem bt888 : Cond.selects RX7 yX7_likely yX7_likely ∈ BT := bt_of (in_t2 (List.mem_of_getElem? (i := 222) rfl)) rfl
theorem bt889 : Cond.code yX7_likely cX7_likely 11 (some .long) ∈ BT := bt_of (in_t2 (List.mem_of_getElem? (i := 223) rfl)) rfl
theorem vl_L_83 (M : Mth) (h : mO M = RL) : VLk M mX7_likely 83 7 7 := ⟨by rw [h]; exact bt886, bt887, bt888, bt187, bt889, ⟨by decide +kernel, by decide +kernel⟩, by decide +kernel, by decide, TX7, 9, rfl⟩
theorem bt890 : Cond.methodLink RL 87 yX8_likely ∈ BT := bt_of (in_t5 (List.mem_of_getElem? (i := 33) rfl)) rfl
theorem bt891 : Cond.instanceMethod yX8_likely ∈ BT := bt_of (in_t5 (List.mem_of_getElem? (i := 34) rfl)) rfl
theorem bt892 : Cond.selects RX8 yX8_likely yX8_likely ∈ BT := bt_of (in_t5 (List.mem_of_getElem? (i := 35) rfl)) rfl
theorem bt893 : Cond.code yX8_likely cX8_likely 13 (some .long) ∈ BT := bt_of (in_t5 (List.mem_of_getElem? (i := 36) rfl)) rfl
theorem vl_L_87 (M : Mth) (h : mO M = RL) : VLk M mX8_likely 87 8 7 := ⟨by rw [h]; exact bt890, bt891, bt892, bt527, bt893, ⟨by decide +kernel, by decide +kernel⟩, by decide +kernel, by decide, TX8, 30, rfl⟩
theorem bt894 : Cond.methodLink RL 88 yX7_soon ∈ BT := bt_of (in_t3 (List.mem_of_getElem? (i := 0) rfl)) rfl
theorem vl_L_88 (M : Mth) (h : mO M = RL) : VLk M mX7_soon 88 7 3 := ⟨by rw [h]; exact bt894, bt508, bt509, bt187, bt510, ⟨by decide +kernel, by decide +kernel⟩, by decide +kernel, by decide, TX7, 9, rfl⟩
theorem bt895 : Cond.methodLink RL 91 yX8_soon ∈ BT := bt_of (in_t5 (List.mem_of_getElem? (i := 38) rfl)) rfl
theorem bt896 : Cond.instanceMethod yX8_soon ∈ BT := bt_of (in_t5 (List.mem_of_getElem? (i := 39) rfl)) rfl
theorem bt897 : Cond.selects RX8 yX8_soon yX8_soon ∈ BT := bt_of (in_t5 (List.mem_of_getElem? (i := 40) rfl)) rfl
theorem bt898 : Cond.code yX8_soon cX8_soon 4 (some .int) ∈ BT := bt_of (in_t5 (List.mem_of_getElem? (i := 41) rfl)) rfl
theorem vl_L_91 (M : Mth) (h : mO M = RL) : VLk M mX8_soon 91 8 3 := ⟨by rw [h]; exact bt895, bt896, bt897, bt527, bt898, ⟨by decide +kernel, by decide +kernel⟩, by decide +kernel, by decide, TX8, 30, rfl⟩
theorem bt899 : Cond.methodLink RL 92 yX7_carried ∈ BT := bt_of (in_t3 (List.mem_of_getElem? (i := 30) rfl)) rfl
theorem vl_L_92 (M : Mth) (h : mO M = RL) : VLk M mX7_carried 92 7 3 := ⟨by rw [h]; exact bt899, bt512, bt513, bt187, bt514, ⟨by decide +kernel, by decide +kernel⟩, by decide +kernel, by decide, TX7, 9, rfl⟩
theorem bt900 : Cond.methodLink RL 95 yX8_carried ∈ BT := bt_of (in_t5 (List.mem_of_getElem? (i := 59) rfl)) rfl
theorem bt901 : Cond.instanceMethod yX8_carried ∈ BT := bt_of (in_t5 (List.mem_of_getElem? (i := 60) rfl)) rfl
theorem bt902 : Cond.selects RX8 yX8_carried yX8_carried ∈ BT := bt_of (in_t5 (List.mem_of_getElem? (i := 61) rfl)) rfl
theorem bt903 : Cond.code yX8_carried cX8_carried 4 (some .int) ∈ BT := bt_of (in_t5 (List.mem_of_getElem? (i := 62) rfl)) rfl
theorem vl_L_95 (M : Mth) (h : mO M = RL) : VLk M mX8_carried 95 8 3 := ⟨by rw [h]; exact bt900, bt901, bt902, bt527, bt903, ⟨by decide +kernel, by decide +kernel⟩, by decide +kernel, by decide, TX8, 30, rfl⟩
theorem bt904 : Cond.methodLink RL 96 yX7_meet ∈ BT := bt_of (in_t3 (List.mem_of_getElem? (i := 38) rfl)) rfl
theorem vl_L_96 (M : Mth) (h : mO M = RL) : VLk M mX7_meet 96 7 4 := ⟨by rw [h]; exact bt904, bt492, bt493, bt187, bt494, ⟨by decide +kernel, by decide +kernel⟩, by decide +kernel, by decide, TX7, 9, rfl⟩
theorem bt905 : Cond.methodLink RL 99 yX8_meet ∈ BT := bt_of (in_t5 (List.mem_of_getElem? (i := 63) rfl)) rfl
theorem bt906 : Cond.instanceMethod yX8_meet ∈ BT := bt_of (in_t5 (List.mem_of_getElem? (i := 64) rfl)) rfl
theorem bt907 : Cond.selects RX8 yX8_meet yX8_meet ∈ BT := bt_of (in_t5 (List.mem_of_getElem? (i := 65) rfl)) rfl
theorem bt908 : Cond.code yX8_meet cX8_meet 5 (some .int) ∈ BT := bt_of (in_t5 (List.mem_of_getElem? (i := 66) rfl)) rfl
theorem vl_L_99 (M : Mth) (h : mO M = RL) : VLk M mX8_meet 99 8 4 := ⟨by rw [h]; exact bt905, bt906, bt907, bt527, bt908, ⟨by decide +kernel, by decide +kernel⟩, by decide +kernel, by decide, TX8, 30, rfl⟩
theorem bt909 : Cond.methodLink RL 100 yX7_wish ∈ BT := bt_of (in_t3 (List.mem_of_getElem? (i := 42) rfl)) rfl
theorem bt910 : Cond.instanceMethod yX7_wish ∈ BT := bt_of (in_t3 (List.mem_of_getElem? (i := 43) rfl)) rfl
theorem bt911 : Cond.selects RX7 yX7_wish yX7_wish ∈ BT := bt_of (in_t3 (List.mem_of_getElem? (i := 44) rfl)) rfl
theorem bt912 : Cond.code yX7_wish cX7_wish 4 (some .int) ∈ BT := bt_of (in_t3 (List.mem_of_getElem? (i := 45) rfl)) rfl
theorem vl_L_100 (M : Mth) (h : mO M = RL) : VLk M mX7_wish 100 7 3 := ⟨by rw [h]; exact bt909, bt910, bt911, bt187, bt912, ⟨by decide +kernel, by decide +kernel⟩, by decide +kernel, by decide, TX7, 9, rfl⟩
theorem bt913 : Cond.methodLink RL 103 yX8_wish ∈ BT := bt_of (in_t5 (List.mem_of_getElem? (i := 71) rfl)) rfl
theorem bt914 : Cond.instanceMethod yX8_wish ∈ BT := bt_of (in_t5 (List.mem_of_getElem? (i := 72) rfl)) rfl
theorem bt915 : Cond.selects RX8 yX8_wish yX8_wish ∈ BT := bt_of (in_t5 (List.mem_of_getElem? (i := 73) rfl)) rfl
theorem bt916 : Cond.code yX8_wish cX8_wish 5 (some .int) ∈ BT := bt_of (in_t5 (List.mem_of_getElem? (i := 74) rfl)) rfl
theorem vl_L_103 (M : Mth) (h : mO M = RL) : VLk M mX8_wish 103 8 3 := ⟨by rw [h]; exact bt913, bt914, bt915, bt527, bt916, ⟨by decide +kernel, by decide +kernel⟩, by decide +kernel, by decide, TX8, 30, rfl⟩
theorem bt917 : Cond.methodLink RL 104 yX7_lives ∈ BT := bt_of (in_t3 (List.mem_of_getElem? (i := 50) rfl)) rfl
theorem bt918 : Cond.instanceMethod yX7_lives ∈ BT := bt_of (in_t3 (List.mem_of_getElem? (i := 51) rfl)) rfl
theorem bt919 : Cond.selects RX7 yX7_lives yX7_lives ∈ BT := bt_of (in_t3 (List.mem_of_getElem? (i := 52) rfl)) rfl
theorem bt920 : Cond.code yX7_lives cX7_lives 2 (some .int) ∈ BT := bt_of (in_t3 (List.mem_of_getElem? (i := 53) rfl)) rfl
theorem vl_L_104 (M : Mth) (h : mO M = RL) : VLk M mX7_lives 104 7 1 := ⟨by rw [h]; exact bt917, bt918, bt919, bt187, bt920, ⟨by decide +kernel, by decide +kernel⟩, by decide +kernel, by decide, TX7, 9, rfl⟩
theorem bt921 : Cond.methodLink RL 107 yX8_lives ∈ BT := bt_of (in_t5 (List.mem_of_getElem? (i := 75) rfl)) rfl
theorem bt922 : Cond.instanceMethod yX8_lives ∈ BT := bt_of (in_t5 (List.mem_of_getElem? (i := 76) rfl)) rfl
theorem bt923 : Cond.selects RX8 yX8_lives yX8_lives ∈ BT := bt_of (in_t5 (List.mem_of_getElem? (i := 77) rfl)) rfl
theorem bt924 : Cond.code yX8_lives cX8_lives 2 (some .int) ∈ BT := bt_of (in_t5 (List.mem_of_getElem? (i := 78) rfl)) rfl
theorem vl_L_107 (M : Mth) (h : mO M = RL) : VLk M mX8_lives 107 8 1 := ⟨by rw [h]; exact bt921, bt922, bt923, bt527, bt924, ⟨by decide +kernel, by decide +kernel⟩, by decide +kernel, by decide, TX8, 30, rfl⟩
theorem bt925 : Cond.methodLink RL 108 yX7_joy ∈ BT := bt_of (in_t3 (List.mem_of_getElem? (i := 54) rfl)) rfl
theorem bt926 : Cond.instanceMethod yX7_joy ∈ BT := bt_of (in_t3 (List.mem_of_getElem? (i := 55) rfl)) rfl
theorem bt927 : Cond.selects RX7 yX7_joy yX7_joy ∈ BT := bt_of (in_t3 (List.mem_of_getElem? (i := 56) rfl)) rfl
theorem bt928 : Cond.code yX7_joy cX7_joy 5 (some .int) ∈ BT := bt_of (in_t3 (List.mem_of_getElem? (i := 57) rfl)) rfl
theorem vl_L_108 (M : Mth) (h : mO M = RL) : VLk M mX7_joy 108 7 4 := ⟨by rw [h]; exact bt925, bt926, bt927, bt187, bt928, ⟨by decide +kernel, by decide +kernel⟩, by decide +kernel, by decide, TX7, 9, rfl⟩
theorem bt929 : Cond.methodLink RL 111 yX8_joy ∈ BT := bt_of (in_t5 (List.mem_of_getElem? (i := 79) rfl)) rfl
theorem bt930 : Cond.instanceMethod yX8_joy ∈ BT := bt_of (in_t5 (List.mem_of_getElem? (i := 80) rfl)) rfl
theorem bt931 : Cond.selects RX8 yX8_joy yX8_joy ∈ BT := bt_of (in_t5 (List.mem_of_getElem? (i := 81) rfl)) rfl
theorem bt932 : Cond.code yX8_joy cX8_joy 5 (some .int) ∈ BT := bt_of (in_t5 (List.mem_of_getElem? (i := 82) rfl)) rfl
theorem vl_L_111 (M : Mth) (h : mO M = RL) : VLk M mX8_joy 111 8 4 := ⟨by rw [h]; exact bt929, bt930, bt931, bt527, bt932, ⟨by decide +kernel, by decide +kernel⟩, by decide +kernel, by decide, TX8, 30, rfl⟩
theorem bt933 : Cond.methodLink RL 112 yX7_swap ∈ BT := bt_of (in_t3 (List.mem_of_getElem? (i := 62) rfl)) rfl
theorem bt934 : Cond.instanceMethod yX7_swap ∈ BT := bt_of (in_t3 (List.mem_of_getElem? (i := 63) rfl)) rfl
theorem bt935 : Cond.selects RX7 yX7_swap yX7_swap ∈ BT := bt_of (in_t3 (List.mem_of_getElem? (i := 64) rfl)) rfl
theorem bt936 : Cond.code yX7_swap cX7_swap 3 (some .int) ∈ BT := bt_of (in_t3 (List.mem_of_getElem? (i := 65) rfl)) rfl
theorem vl_L_112 (M : Mth) (h : mO M = RL) : VLk M mX7_swap 112 7 2 := ⟨by rw [h]; exact bt933, bt934, bt935, bt187, bt936, ⟨by decide +kernel, by decide +kernel⟩, by decide +kernel, by decide, TX7, 9, rfl⟩
theorem bt937 : Cond.methodLink RL 115 yX8_swap ∈ BT := bt_of (in_t5 (List.mem_of_getElem? (i := 87) rfl)) rfl
theorem bt938 : Cond.instanceMethod yX8_swap ∈ BT := bt_of (in_t5 (List.mem_of_getElem? (i := 88) rfl)) rfl
theorem bt939 : Cond.selects RX8 yX8_swap yX8_swap ∈ BT := bt_of (in_t5 (List.mem_of_getElem? (i := 89) rfl)) rfl
theorem bt940 : Cond.code yX8_swap cX8_swap 10 (some .int) ∈ BT := bt_of (in_t5 (List.mem_of_getElem? (i := 90) rfl)) rfl
theorem vl_L_115 (M : Mth) (h : mO M = RL) : VLk M mX8_swap 115 8 2 := ⟨by rw [h]; exact bt937, bt938, bt939, bt527, bt940, ⟨by decide +kernel, by decide +kernel⟩, by decide +kernel, by decide, TX8, 30, rfl⟩
theorem bt941 : Cond.methodLink RL 116 yX7_best ∈ BT := bt_of (in_t3 (List.mem_of_getElem? (i := 87) rfl)) rfl
theorem bt942 : Cond.instanceMethod yX7_best ∈ BT := bt_of (in_t3 (List.mem_of_getElem? (i := 88) rfl)) rfl
theorem bt943 : Cond.selects RX7 yX7_best yX7_best ∈ BT := bt_of (in_t3 (List.mem_of_getElem? (i := 89) rfl)) rfl
theorem bt944 : Cond.code yX7_best cX7_best 4 (some .int) ∈ BT := bt_of (in_t3 (List.mem_of_getElem? (i := 90) rfl)) rfl
theorem vl_L_116 (M : Mth) (h : mO M = RL) : VLk M mX7_best 116 7 3 := ⟨by rw [h]; exact bt941, bt942, bt943, bt187, bt944, ⟨by decide +kernel, by decide +kernel⟩, by decide +kernel, by decide, TX7, 9, rfl⟩
theorem bt945 : Cond.methodLink RL 119 yX8_best ∈ BT := bt_of (in_t5 (List.mem_of_getElem? (i := 91) rfl)) rfl
theorem bt946 : Cond.instanceMethod yX8_best ∈ BT := bt_of (in_t5 (List.mem_of_getElem? (i := 92) rfl)) rfl
theorem bt947 : Cond.selects RX8 yX8_best yX8_best ∈ BT := bt_of (in_t5 (List.mem_of_getElem? (i := 93) rfl)) rfl
theorem bt948 : Cond.code yX8_best cX8_best 4 (some .int) ∈ BT := bt_of (in_t5 (List.mem_of_getElem? (i := 94) rfl)) rfl
theorem vl_L_119 (M : Mth) (h : mO M = RL) : VLk M mX8_best 119 8 3 := ⟨by rw [h]; exact bt945, bt946, bt947, bt527, bt948, ⟨by decide +kernel, by decide +kernel⟩, by decide +kernel, by decide, TX8, 30, rfl⟩
theorem bt949 : Cond.methodLink RL 120 yX7_envy ∈ BT := bt_of (in_t3 (List.mem_of_getElem? (i := 116) rfl)) rfl
theorem bt950 : Cond.instanceMethod yX7_envy ∈ BT := bt_of (in_t3 (List.mem_of_getElem? (i := 117) rfl)) rfl
theorem bt951 : Cond.selects RX7 yX7_envy yX7_envy ∈ BT := bt_of (in_t3 (List.mem_of_getElem? (i := 118) rfl)) rfl
theorem bt952 : Cond.code yX7_envy cX7_envy 3 (some .int) ∈ BT := bt_of (in_t3 (List.mem_of_getElem? (i := 119) rfl)) rfl
theorem vl_L_120 (M : Mth) (h : mO M = RL) : VLk M mX7_envy 120 7 2 := ⟨by rw [h]; exact bt949, bt950, bt951, bt187, bt952, ⟨by decide +kernel, by decide +kernel⟩, by decide +kernel, by decide, TX7, 9, rfl⟩
theorem bt953 : Cond.methodLink RL 123 yX8_envy ∈ BT := bt_of (in_t5 (List.mem_of_getElem? (i := 105) rfl)) rfl
theorem bt954 : Cond.instanceMethod yX8_envy ∈ BT := bt_of (in_t5 (List.mem_of_getElem? (i := 106) rfl)) rfl
theorem bt955 : Cond.selects RX8 yX8_envy yX8_envy ∈ BT := bt_of (in_t5 (List.mem_of_getElem? (i := 107) rfl)) rfl
theorem bt956 : Cond.code yX8_envy cX8_envy 3 (some .int) ∈ BT := bt_of (in_t5 (List.mem_of_getElem? (i := 108) rfl)) rfl
theorem vl_L_123 (M : Mth) (h : mO M = RL) : VLk M mX8_envy 123 8 2 := ⟨by rw [h]; exact bt953, bt954, bt955, bt527, bt956, ⟨by decide +kernel, by decide +kernel⟩, by decide +kernel, by decide, TX8, 30, rfl⟩
theorem bt957 : Cond.methodLink RL 124 yX7_reaped ∈ BT := bt_of (in_t3 (List.mem_of_getElem? (i := 124) rfl)) rfl
theorem bt958 : Cond.instanceMethod yX7_reaped ∈ BT := bt_of (in_t3 (List.mem_of_getElem? (i := 125) rfl)) rfl
theorem bt959 : Cond.selects RX7 yX7_reaped yX7_reaped ∈ BT := bt_of (in_t3 (List.mem_of_getElem? (i := 126) rfl)) rfl
theorem bt960 : Cond.code yX7_reaped cX7_reaped 4 (some .int) ∈ BT := bt_of (in_t3 (List.mem_of_getElem? (i := 127) rfl)) rfl
theorem vl_L_124 (M : Mth) (h : mO M = RL) : VLk M mX7_reaped 124 7 2 := ⟨by rw [h]; exact bt957, bt958, bt959, bt187, bt960, ⟨by decide +kernel, by decide +kernel⟩, by decide +kernel, by decide, TX7, 9, rfl⟩
theorem bt961 : Cond.methodLink RL 127 yX8_reaped ∈ BT := bt_of (in_t5 (List.mem_of_getElem? (i := 113) rfl)) rfl
theorem bt962 : Cond.instanceMethod yX8_reaped ∈ BT := bt_of (in_t5 (List.mem_of_getElem? (i := 114) rfl)) rfl
theorem bt963 : Cond.selects RX8 yX8_reaped yX8_reaped ∈ BT := bt_of (in_t5 (List.mem_of_getElem? (i := 115) rfl)) rfl
theorem bt964 : Cond.code yX8_reaped cX8_reaped 4 (some .int) ∈ BT := bt_of (in_t5 (List.mem_of_getElem? (i := 116) rfl)) rfl
theorem vl_L_127 (M : Mth) (h : mO M = RL) : VLk M mX8_reaped 127 8 2 := ⟨by rw [h]; exact bt961, bt962, bt963, bt527, bt964, ⟨by decide +kernel, by decide +kernel⟩, by decide +kernel, by decide, TX8, 30, rfl⟩
theorem bt965 : Cond.methodLink RL 128 yX7_history ∈ BT := bt_of (in_t3 (List.mem_of_getElem? (i := 128) rfl)) rfl
theorem vl_L_128 (M : Mth) (h : mO M = RL) : VLk M mX7_history 128 7 3 := ⟨by rw [h]; exact bt965, bt484, bt485, bt187, bt486, ⟨by decide +kernel, by decide +kernel⟩, by decide +kernel, by decide, TX7, 9, rfl⟩
theorem bt966 : Cond.methodLink RL 131 yX8_history ∈ BT := bt_of (in_t5 (List.mem_of_getElem? (i := 117) rfl)) rfl
theorem bt967 : Cond.instanceMethod yX8_history ∈ BT := bt_of (in_t5 (List.mem_of_getElem? (i := 118) rfl)) rfl
theorem bt968 : Cond.selects RX8 yX8_history yX8_history ∈ BT := bt_of (in_t5 (List.mem_of_getElem? (i := 119) rfl)) rfl
theorem bt969 : Cond.code yX8_history cX8_history 4 (some .int) ∈ BT := bt_of (in_t5 (List.mem_of_getElem? (i := 120) rfl)) rfl
theorem vl_L_131 (M : Mth) (h : mO M = RL) : VLk M mX8_history 131 8 3 := ⟨by rw [h]; exact bt966, bt967, bt968, bt527, bt969, ⟨by decide +kernel, by decide +kernel⟩, by decide +kernel, by decide, TX8, 30, rfl⟩
theorem bt970 : Cond.methodLink RL 132 yX7_waits ∈ BT := bt_of (in_t3 (List.mem_of_getElem? (i := 151) rfl)) rfl
theorem vl_L_132 (M : Mth) (h : mO M = RL) : VLk M mX7_waits 132 7 2 := ⟨by rw [h]; exact bt970, bt516, bt517, bt187, bt518, ⟨by decide +kernel, by decide +kernel⟩, by decide +kernel, by decide, TX7, 9, rfl⟩
theorem bt971 : Cond.methodLink RL 135 yX8_waits ∈ BT := bt_of (in_t5 (List.mem_of_getElem? (i := 125) rfl)) rfl
theorem bt972 : Cond.instanceMethod yX8_waits ∈ BT := bt_of (in_t5 (List.mem_of_getElem? (i := 126) rfl)) rfl
theorem bt973 : Cond.selects RX8 yX8_waits yX8_waits ∈ BT := bt_of (in_t5 (List.mem_of_getElem? (i := 127) rfl)) rfl
theorem bt974 : Cond.code yX8_waits cX8_waits 3 (some .int) ∈ BT := bt_of (in_t5 (List.mem_of_getElem? (i := 128) rfl)) rfl
theorem vl_L_135 (M : Mth) (h : mO M = RL) : VLk M mX8_waits 135 8 2 := ⟨by rw [h]; exact bt971, bt972, bt973, bt527, bt974, ⟨by decide +kernel, by decide +kernel⟩, by decide +kernel, by decide, TX8, 30, rfl⟩
theorem bt975 : Cond.methodLink RL 136 yX7_dig ∈ BT := bt_of (in_t3 (List.mem_of_getElem? (i := 160) rfl)) rfl
theorem vl_L_136 (M : Mth) (h : mO M = RL) : VLk M mX7_dig 136 7 2 := ⟨by rw [h]; exact bt975, bt488, bt489, bt187, bt490, ⟨by decide +kernel, by decide +kernel⟩, by decide +kernel, by decide, TX7, 9, rfl⟩
theorem bt976 : Cond.methodLink RL 139 yX8_dig ∈ BT := bt_of (in_t5 (List.mem_of_getElem? (i := 133) rfl)) rfl
theorem bt977 : Cond.instanceMethod yX8_dig ∈ BT := bt_of (in_t5 (List.mem_of_getElem? (i := 134) rfl)) rfl
theorem bt978 : Cond.selects RX8 yX8_dig yX8_dig ∈ BT := bt_of (in_t5 (List.mem_of_getElem? (i := 135) rfl)) rfl
theorem bt979 : Cond.code yX8_dig cX8_dig 3 (some .int) ∈ BT := bt_of (in_t5 (List.mem_of_getElem? (i := 136) rfl)) rfl
theorem vl_L_139 (M : Mth) (h : mO M = RL) : VLk M mX8_dig 139 8 2 := ⟨by rw [h]; exact bt976, bt977, bt978, bt527, bt979, ⟨by decide +kernel, by decide +kernel⟩, by decide +kernel, by decide, TX8, 30, rfl⟩
theorem bt980 : Cond.methodLink RL 140 yX7_sheet ∈ BT := bt_of (in_t3 (List.mem_of_getElem? (i := 164) rfl)) rfl
theorem bt981 : Cond.instanceMethod yX7_sheet ∈ BT := bt_of (in_t3 (List.mem_of_getElem? (i := 165) rfl)) rfl
theorem bt982 : Cond.selects RX7 yX7_sheet yX7_sheet ∈ BT := bt_of (in_t3 (List.mem_of_getElem? (i := 166) rfl)) rfl
theorem bt983 : Cond.code yX7_sheet cX7_sheet 4 (some .int) ∈ BT := bt_of (in_t3 (List.mem_of_getElem? (i := 167) rfl)) rfl
theorem vl_L_140 (M : Mth) (h : mO M = RL) : VLk M mX7_sheet 140 7 3 := ⟨by rw [h]; exact bt980, bt981, bt982, bt187, bt983, ⟨by decide +kernel, by decide +kernel⟩, by decide +kernel, by decide, TX7, 9, rfl⟩
theorem bt984 : Cond.methodLink RL 143 yX8_sheet ∈ BT := bt_of (in_t5 (List.mem_of_getElem? (i := 141) rfl)) rfl
theorem bt985 : Cond.instanceMethod yX8_sheet ∈ BT := bt_of (in_t5 (List.mem_of_getElem? (i := 142) rfl)) rfl
theorem bt986 : Cond.selects RX8 yX8_sheet yX8_sheet ∈ BT := bt_of (in_t5 (List.mem_of_getElem? (i := 143) rfl)) rfl
theorem bt987 : Cond.code yX8_sheet cX8_sheet 5 (some .int) ∈ BT := bt_of (in_t5 (List.mem_of_getElem? (i := 144) rfl)) rfl
theorem vl_L_143 (M : Mth) (h : mO M = RL) : VLk M mX8_sheet 143 8 3 := ⟨by rw [h]; exact bt984, bt985, bt986, bt527, bt987, ⟨by decide +kernel, by decide +kernel⟩, by decide +kernel, by decide, TX8, 30, rfl⟩
theorem bt988 : Cond.methodLink RL 144 yX7_lose ∈ BT := bt_of (in_t3 (List.mem_of_getElem? (i := 176) rfl)) rfl
theorem bt989 : Cond.instanceMethod yX7_lose ∈ BT := bt_of (in_t3 (List.mem_of_getElem? (i := 177) rfl)) rfl
theorem bt990 : Cond.selects RX7 yX7_lose yX7_lose ∈ BT := bt_of (in_t3 (List.mem_of_getElem? (i := 178) rfl)) rfl
theorem bt991 : Cond.code yX7_lose cX7_lose 3 (some .int) ∈ BT := bt_of (in_t3 (List.mem_of_getElem? (i := 179) rfl)) rfl
theorem vl_L_144 (M : Mth) (h : mO M = RL) : VLk M mX7_lose 144 7 1 := ⟨by rw [h]; exact bt988, bt989, bt990, bt187, bt991, ⟨by decide +kernel, by decide +kernel⟩, by decide +kernel, by decide, TX7, 9, rfl⟩
theorem bt992 : Cond.methodLink RL 147 yX8_lose ∈ BT := bt_of (in_t5 (List.mem_of_getElem? (i := 145) rfl)) rfl
theorem bt993 : Cond.instanceMethod yX8_lose ∈ BT := bt_of (in_t5 (List.mem_of_getElem? (i := 146) rfl)) rfl
theorem bt994 : Cond.selects RX8 yX8_lose yX8_lose ∈ BT := bt_of (in_t5 (List.mem_of_getElem? (i := 147) rfl)) rfl
theorem bt995 : Cond.code yX8_lose cX8_lose 2 (some .int) ∈ BT := bt_of (in_t5 (List.mem_of_getElem? (i := 148) rfl)) rfl
theorem vl_L_147 (M : Mth) (h : mO M = RL) : VLk M mX8_lose 147 8 1 := ⟨by rw [h]; exact bt992, bt993, bt994, bt527, bt995, ⟨by decide +kernel, by decide +kernel⟩, by decide +kernel, by decide, TX8, 30, rfl⟩
theorem bt996 : Cond.methodLink RL 148 yX7_put ∈ BT := bt_of (in_t3 (List.mem_of_getElem? (i := 180) rfl)) rfl
theorem bt997 : Cond.instanceMethod yX7_put ∈ BT := bt_of (in_t3 (List.mem_of_getElem? (i := 181) rfl)) rfl
theorem bt998 : Cond.selects RX7 yX7_put yX7_put ∈ BT := bt_of (in_t3 (List.mem_of_getElem? (i := 182) rfl)) rfl
theorem bt999 : Cond.code yX7_put cX7_put 6 (some .int) ∈ BT := bt_of (in_t3 (List.mem_of_getElem? (i := 183) rfl)) rfl
theorem vl_L_148 (M : Mth) (h : mO M = RL) : VLk M mX7_put 148 7 4 := ⟨by rw [h]; exact bt996, bt997, bt998, bt187, bt999, ⟨by decide +kernel, by decide +kernel⟩, by decide +kernel, by decide, TX7, 9, rfl⟩
theorem bt1000 : Cond.methodLink RL 151 yX8_put ∈ BT := bt_of (in_t5 (List.mem_of_getElem? (i := 149) rfl)) rfl
theorem bt1001 : Cond.instanceMethod yX8_put ∈ BT := bt_of (in_t5 (List.mem_of_getElem? (i := 150) rfl)) rfl
theorem bt1002 : Cond.selects RX8 yX8_put yX8_put ∈ BT := bt_of (in_t5 (List.mem_of_getElem? (i := 151) rfl)) rfl
theorem bt1003 : Cond.code yX8_put cX8_put 6 (some .int) ∈ BT := bt_of (in_t5 (List.mem_of_getElem? (i := 152) rfl)) rfl
theorem vl_L_151 (M : Mth) (h : mO M = RL) : VLk M mX8_put 151 8 4 := ⟨by rw [h]; exact bt1000, bt1001, bt1002, bt527, bt1003, ⟨by decide +kernel, by decide +kernel⟩, by decide +kernel, by decide, TX8, 30, rfl⟩
theorem bt1004 : Cond.methodLink RL 152 yX7_get ∈ BT := bt_of (in_t3 (List.mem_of_getElem? (i := 192) rfl)) rfl
theorem bt1005 : Cond.instanceMethod yX7_get ∈ BT := bt_of (in_t3 (List.mem_of_getElem? (i := 193) rfl)) rfl
theorem bt1006 : Cond.selects RX7 yX7_get yX7_get ∈ BT := bt_of (in_t3 (List.mem_of_getElem? (i := 194) rfl)) rfl
theorem bt1007 : Cond.code yX7_get cX7_get 5 (some .int) ∈ BT := bt_of (in_t3 (List.mem_of_getElem? (i := 195) rfl)) rfl
theorem vl_L_152 (M : Mth) (h : mO M = RL) : VLk M mX7_get 152 7 3 := ⟨by rw [h]; exact bt1004, bt1005, bt1006, bt187, bt1007, ⟨by decide +kernel, by decide +kernel⟩, by decide +kernel, by decide, TX7, 9, rfl⟩
theorem bt1008 : Cond.methodLink RL 155 yX8_get ∈ BT := bt_of (in_t5 (List.mem_of_getElem? (i := 161) rfl)) rfl
theorem bt1009 : Cond.instanceMethod yX8_get ∈ BT := bt_of (in_t5 (List.mem_of_getElem? (i := 162) rfl)) rfl
theorem bt1010 : Cond.selects RX8 yX8_get yX8_get ∈ BT := bt_of (in_t5 (List.mem_of_getElem? (i := 163) rfl)) rfl
theorem bt1011 : Cond.code yX8_get cX8_get 5 (some .int) ∈ BT := bt_of (in_t5 (List.mem_of_getElem? (i := 164) rfl)) rfl
theorem vl_L_155 (M : Mth) (h : mO M = RL) : VLk M mX8_get 155 8 3 := ⟨by rw [h]; exact bt1008, bt1009, bt1010, bt527, bt1011, ⟨by decide +kernel, by decide +kernel⟩, by decide +kernel, by decide, TX8, 30, rfl⟩
theorem bt1012 : Cond.methodLink RL 156 yX7_copy ∈ BT := bt_of (in_t3 (List.mem_of_getElem? (i := 197) rfl)) rfl
theorem bt1013 : Cond.instanceMethod yX7_copy ∈ BT := bt_of (in_t3 (List.mem_of_getElem? (i := 198) rfl)) rfl
theorem bt1014 : Cond.selects RX7 yX7_copy yX7_copy ∈ BT := bt_of (in_t3 (List.mem_of_getElem? (i := 199) rfl)) rfl
theorem bt1015 : Cond.code yX7_copy cX7_copy 8 (some .int) ∈ BT := bt_of (in_t3 (List.mem_of_getElem? (i := 200) rfl)) rfl
theorem vl_L_156 (M : Mth) (h : mO M = RL) : VLk M mX7_copy 156 7 5 := ⟨by rw [h]; exact bt1012, bt1013, bt1014, bt187, bt1015, ⟨by decide +kernel, by decide +kernel⟩, by decide +kernel, by decide, TX7, 9, rfl⟩
theorem bt1016 : Cond.methodLink RL 160 yX8_copy ∈ BT := bt_of (in_t5 (List.mem_of_getElem? (i := 166) rfl)) rfl
theorem bt1017 : Cond.instanceMethod yX8_copy ∈ BT := bt_of (in_t5 (List.mem_of_getElem? (i := 167) rfl)) rfl
theorem bt1018 : Cond.selects RX8 yX8_copy yX8_copy ∈ BT := bt_of (in_t5 (List.mem_of_getElem? (i := 168) rfl)) rfl
theorem bt1019 : Cond.code yX8_copy cX8_copy 7 (some .int) ∈ BT := bt_of (in_t5 (List.mem_of_getElem? (i := 169) rfl)) rfl
theorem vl_L_160 (M : Mth) (h : mO M = RL) : VLk M mX8_copy 160 8 5 := ⟨by rw [h]; exact bt1016, bt1017, bt1018, bt527, bt1019, ⟨by decide +kernel, by decide +kernel⟩, by decide +kernel, by decide, TX8, 30, rfl⟩
theorem bt1020 : Cond.methodLink RL 161 yX7_write ∈ BT := bt_of (in_t3 (List.mem_of_getElem? (i := 206) rfl)) rfl
theorem bt1021 : Cond.instanceMethod yX7_write ∈ BT := bt_of (in_t3 (List.mem_of_getElem? (i := 207) rfl)) rfl
theorem bt1022 : Cond.selects RX7 yX7_write yX7_write ∈ BT := bt_of (in_t3 (List.mem_of_getElem? (i := 208) rfl)) rfl
theorem bt1023 : Cond.code yX7_write cX7_write 6 (some .int) ∈ BT := bt_of (in_t3 (List.mem_of_getElem? (i := 209) rfl)) rfl
theorem vl_L_161 (M : Mth) (h : mO M = RL) : VLk M mX7_write 161 7 2 := ⟨by rw [h]; exact bt1020, bt1021, bt1022, bt187, bt1023, ⟨by decide +kernel, by decide +kernel⟩, by decide +kernel, by decide, TX7, 9, rfl⟩
theorem bt1024 : Cond.methodLink RL 164 yX8_write ∈ BT := bt_of (in_t5 (List.mem_of_getElem? (i := 170) rfl)) rfl
theorem bt1025 : Cond.instanceMethod yX8_write ∈ BT := bt_of (in_t5 (List.mem_of_getElem? (i := 171) rfl)) rfl
theorem bt1026 : Cond.selects RX8 yX8_write yX8_write ∈ BT := bt_of (in_t5 (List.mem_of_getElem? (i := 172) rfl)) rfl
theorem bt1027 : Cond.code yX8_write cX8_write 4 (some .int) ∈ BT := bt_of (in_t5 (List.mem_of_getElem? (i := 173) rfl)) rfl
theorem vl_L_164 (M : Mth) (h : mO M = RL) : VLk M mX8_write 164 8 2 := ⟨by rw [h]; exact bt1024, bt1025, bt1026, bt527, bt1027, ⟨by decide +kernel, by decide +kernel⟩, by decide +kernel, by decide, TX8, 30, rfl⟩
theorem bt1028 : Cond.methodLink RL 165 yX7_count ∈ BT := bt_of (in_t3 (List.mem_of_getElem? (i := 210) rfl)) rfl
theorem vl_L_165 (M : Mth) (h : mO M = RL) : VLk M mX7_count 165 7 1 := ⟨by rw [h]; exact bt1028, bt464, bt465, bt187, bt466, ⟨by decide +kernel, by decide +kernel⟩, by decide +kernel, by decide, TX7, 9, rfl⟩
theorem bt1029 : Cond.methodLink RL 168 yX8_count ∈ BT := bt_of (in_t5 (List.mem_of_getElem? (i := 174) rfl)) rfl
theorem vl_L_168 (M : Mth) (h : mO M = RL) : VLk M mX8_count 168 8 1 := ⟨by rw [h]; exact bt1029, bt719, bt720, bt527, bt721, ⟨by decide +kernel, by decide +kernel⟩, by decide +kernel, by decide, TX8, 30, rfl⟩
theorem bt1030 : Cond.methodLink RL 169 yX7_digest ∈ BT := bt_of (in_t3 (List.mem_of_getElem? (i := 226) rfl)) rfl
theorem bt1031 : Cond.instanceMethod yX7_digest ∈ BT := bt_of (in_t3 (List.mem_of_getElem? (i := 227) rfl)) rfl
theorem bt1032 : Cond.selects RX7 yX7_digest yX7_digest ∈ BT := bt_of (in_t3 (List.mem_of_getElem? (i := 228) rfl)) rfl
theorem bt1033 : Cond.code yX7_digest cX7_digest 4 (some .long) ∈ BT := bt_of (in_t3 (List.mem_of_getElem? (i := 229) rfl)) rfl
theorem vl_L_169 (M : Mth) (h : mO M = RL) : VLk M mX7_digest 169 7 0 := ⟨by rw [h]; exact bt1030, bt1031, bt1032, bt187, bt1033, ⟨by decide +kernel, by decide +kernel⟩, by decide +kernel, by decide, TX7, 9, rfl⟩
theorem bt1034 : Cond.methodLink RL 173 yX8_digest ∈ BT := bt_of (in_t5 (List.mem_of_getElem? (i := 182) rfl)) rfl
theorem bt1035 : Cond.instanceMethod yX8_digest ∈ BT := bt_of (in_t5 (List.mem_of_getElem? (i := 183) rfl)) rfl
theorem bt1036 : Cond.selects RX8 yX8_digest yX8_digest ∈ BT := bt_of (in_t5 (List.mem_of_getElem? (i := 184) rfl)) rfl
theorem bt1037 : Cond.code yX8_digest cX8_digest 5 (some .long) ∈ BT := bt_of (in_t5 (List.mem_of_getElem? (i := 185) rfl)) rfl
theorem vl_L_173 (M : Mth) (h : mO M = RL) : VLk M mX8_digest 173 8 0 := ⟨by rw [h]; exact bt1034, bt1035, bt1036, bt527, bt1037, ⟨by decide +kernel, by decide +kernel⟩, by decide +kernel, by decide, TX8, 30, rfl⟩
theorem dlw_0 : decode code 0 = .ok (.new 7, 3) := by decide +kernel
theorem dlw_3 : decode code 3 = .ok (.dup, 1) := by decide +kernel
theorem dlw_4 : decode code 4 = .ok (.invokespecial 9, 3) := by decide +kernel
theorem dlw_7 : decode code 7 = .ok (.astore_n 1, 1) := by decide +kernel
theorem dlw_8 : decode code 8 = .ok (.new 10, 3) := by decide +kernel
theorem dlw_11 : decode code 11 = .ok (.dup, 1) := by decide +kernel
theorem dlw_12 : decode code 12 = .ok (.invokespecial 12, 3) := by decide +kernel
theorem dlw_15 : decode code 15 = .ok (.astore_n 2, 1) := by decide +kernel
theorem dlw_16 : DKi mLaw 16 (nI 0) 17 := Or.inl ⟨0, by decide +kernel, by decide, rfl⟩
theorem dlw_17 : decode code 17 = .ok (.istore_n 3, 1) := by decide +kernel
theorem dlw_18 : DLi mLaw 18 3 19 := Or.inl ⟨3, by decide +kernel, rfl, rfl⟩
theorem dlw_19 : DLa mLaw 19 0 20 := Or.inl ⟨0, by decide +kernel, rfl, rfl⟩
theorem dlw_20 : D0 mLaw 20 (.arraylength) 1 21 := ⟨by decide +kernel, rfl⟩
theorem dlw_21 : DKi mLaw 21 (nI 8) 23 := Or.inr (Or.inl ⟨8, by decide +kernel, by decide, rfl⟩)
theorem dlw_23 : D0 mLaw 23 (.isub) 1 24 := ⟨by decide +kernel, rfl⟩
theorem dlw_24 : DCgt mLaw 24 1677 27 := ⟨1653, by decide +kernel, by decide, rfl⟩
theorem dlw_27 : DLa mLaw 27 0 28 := Or.inl ⟨0, by decide +kernel, rfl, rfl⟩
theorem dlw_28 : DLi mLaw 28 3 29 := Or.inl ⟨3, by decide +kernel, rfl, rfl⟩
theorem dlw_29 : D0 mLaw 29 (.iaload) 1 30 := ⟨by decide +kernel, rfl⟩
theorem dlw_30 : DKi mLaw 30 (nI 63) 32 := Or.inr (Or.inl ⟨63, by decide +kernel, by decide, rfl⟩)
theorem dlw_32 : D0 mLaw 32 (.iand) 1 33 := ⟨by decide +kernel, rfl⟩
theorem dlw_33 : decode (mC mLaw) 33 = .ok (.tableswitch 1638 0 37 #[167, 190, 203, 216, 249, 292, 335, 368, 401, 434, 467, 490, 533, 597, 640, 693, 746, 834, 877, 920, 973, 1016, 1039, 1092, 1125, 1168, 1201, 1234, 1277, 1310, 1343, 1386, 1409, 1462, 1505, 1568, 1601, 1624], 167) := by decide +kernel
theorem dlw_200 : DLa mLaw 200 1 201 := Or.inl ⟨1, by decide +kernel, rfl, rfl⟩
theorem dlw_201 : DLa mLaw 201 0 202 := Or.inl ⟨0, by decide +kernel, rfl, rfl⟩
theorem dlw_202 : DLi mLaw 202 3 203 := Or.inl ⟨3, by decide +kernel, rfl, rfl⟩
theorem dlw_203 : DKi mLaw 203 (nI 1) 204 := Or.inl ⟨1, by decide +kernel, by decide, rfl⟩
theorem dlw_204 : D0 mLaw 204 (.iadd) 1 205 := ⟨by decide +kernel, rfl⟩
theorem dlw_205 : D0 mLaw 205 (.iaload) 1 206 := ⟨by decide +kernel, rfl⟩
theorem dlw_206 : D0 mLaw 206 (.invokevirtual 13) 3 209 := ⟨by decide +kernel, rfl⟩
theorem dlw_209 : DLa mLaw 209 2 210 := Or.inl ⟨2, by decide +kernel, rfl, rfl⟩
theorem dlw_210 : DLa mLaw 210 0 211 := Or.inl ⟨0, by decide +kernel, rfl, rfl⟩
theorem dlw_211 : DLi mLaw 211 3 212 := Or.inl ⟨3, by decide +kernel, rfl, rfl⟩
theorem dlw_212 : DKi mLaw 212 (nI 1) 213 := Or.inl ⟨1, by decide +kernel, by decide, rfl⟩
theorem dlw_213 : D0 mLaw 213 (.iadd) 1 214 := ⟨by decide +kernel, rfl⟩
theorem dlw_214 : D0 mLaw 214 (.iaload) 1 215 := ⟨by decide +kernel, rfl⟩
theorem dlw_215 : D0 mLaw 215 (.invokevirtual 17) 3 218 := ⟨by decide +kernel, rfl⟩
theorem dlw_218 : DCeq mLaw 218 1671 221 := ⟨1453, by decide +kernel, by decide, rfl⟩
theorem dlw_221 : DKi mLaw 221 (nI 0) 222 := Or.inl ⟨0, by decide +kernel, by decide, rfl⟩
theorem dlw_222 : D0 mLaw 222 (.ireturn) 1 223 := ⟨by decide +kernel, rfl⟩
theorem dlw_223 : DLa mLaw 223 1 224 := Or.inl ⟨1, by decide +kernel, rfl, rfl⟩
theorem dlw_224 : D0 mLaw 224 (.invokevirtual 18) 3 227 := ⟨by decide +kernel, rfl⟩
theorem dlw_227 : DLa mLaw 227 2 228 := Or.inl ⟨2, by decide +kernel, rfl, rfl⟩
theorem dlw_228 : D0 mLaw 228 (.invokevirtual 22) 3 231 := ⟨by decide +kernel, rfl⟩
theorem dlw_231 : DCeq mLaw 231 1671 234 := ⟨1440, by decide +kernel, by decide, rfl⟩
theorem dlw_234 : DKi mLaw 234 (nI 0) 235 := Or.inl ⟨0, by decide +kernel, by decide, rfl⟩
theorem dlw_235 : D0 mLaw 235 (.ireturn) 1 236 := ⟨by decide +kernel, rfl⟩
theorem dlw_236 : DLa mLaw 236 1 237 := Or.inl ⟨1, by decide +kernel, rfl, rfl⟩
theorem dlw_237 : D0 mLaw 237 (.invokevirtual 23) 3 240 := ⟨by decide +kernel, rfl⟩
theorem dlw_240 : DLa mLaw 240 2 241 := Or.inl ⟨2, by decide +kernel, rfl, rfl⟩
theorem dlw_241 : D0 mLaw 241 (.invokevirtual 26) 3 244 := ⟨by decide +kernel, rfl⟩
theorem dlw_244 : DCeq mLaw 244 1671 247 := ⟨1427, by decide +kernel, by decide, rfl⟩
theorem dlw_247 : DKi mLaw 247 (nI 0) 248 := Or.inl ⟨0, by decide +kernel, by decide, rfl⟩
theorem dlw_248 : D0 mLaw 248 (.ireturn) 1 249 := ⟨by decide +kernel, rfl⟩
theorem dlw_249 : DLa mLaw 249 1 250 := Or.inl ⟨1, by decide +kernel, rfl, rfl⟩
theorem dlw_250 : DLa mLaw 250 0 251 := Or.inl ⟨0, by decide +kernel, rfl, rfl⟩
theorem dlw_251 : DLi mLaw 251 3 252 := Or.inl ⟨3, by decide +kernel, rfl, rfl⟩
theorem dlw_252 : DKi mLaw 252 (nI 1) 253 := Or.inl ⟨1, by decide +kernel, by decide, rfl⟩
theorem dlw_253 : D0 mLaw 253 (.iadd) 1 254 := ⟨by decide +kernel, rfl⟩
theorem dlw_254 : D0 mLaw 254 (.iaload) 1 255 := ⟨by decide +kernel, rfl⟩
theorem dlw_255 : DLa mLaw 255 0 256 := Or.inl ⟨0, by decide +kernel, rfl, rfl⟩
theorem dlw_256 : DLi mLaw 256 3 257 := Or.inl ⟨3, by decide +kernel, rfl, rfl⟩
theorem dlw_257 : DKi mLaw 257 (nI 2) 258 := Or.inl ⟨2, by decide +kernel, by decide, rfl⟩
theorem dlw_258 : D0 mLaw 258 (.iadd) 1 259 := ⟨by decide +kernel, rfl⟩
theorem dlw_259 : D0 mLaw 259 (.iaload) 1 260 := ⟨by decide +kernel, rfl⟩
theorem dlw_260 : D0 mLaw 260 (.invokevirtual 27) 3 263 := ⟨by decide +kernel, rfl⟩
theorem dlw_263 : DLa mLaw 263 2 264 := Or.inl ⟨2, by decide +kernel, rfl, rfl⟩
theorem dlw_264 : DLa mLaw 264 0 265 := Or.inl ⟨0, by decide +kernel, rfl, rfl⟩
theorem dlw_265 : DLi mLaw 265 3 266 := Or.inl ⟨3, by decide +kernel, rfl, rfl⟩
theorem dlw_266 : DKi mLaw 266 (nI 1) 267 := Or.inl ⟨1, by decide +kernel, by decide, rfl⟩
theorem dlw_267 : D0 mLaw 267 (.iadd) 1 268 := ⟨by decide +kernel, rfl⟩
theorem dlw_268 : D0 mLaw 268 (.iaload) 1 269 := ⟨by decide +kernel, rfl⟩
theorem dlw_269 : DLa mLaw 269 0 270 := Or.inl ⟨0, by decide +kernel, rfl, rfl⟩
theorem dlw_270 : DLi mLaw 270 3 271 := Or.inl ⟨3, by decide +kernel, rfl, rfl⟩
theorem dlw_271 : DKi mLaw 271 (nI 2) 272 := Or.inl ⟨2, by decide +kernel, by decide, rfl⟩
theorem dlw_272 : D0 mLaw 272 (.iadd) 1 273 := ⟨by decide +kernel, rfl⟩
theorem dlw_273 : D0 mLaw 273 (.iaload) 1 274 := ⟨by decide +kernel, rfl⟩
theorem dlw_274 : D0 mLaw 274 (.invokevirtual 31) 3 277 := ⟨by decide +kernel, rfl⟩
theorem dlw_277 : DCeq mLaw 277 1671 280 := ⟨1394, by decide +kernel, by decide, rfl⟩
theorem dlw_280 : DKi mLaw 280 (nI 0) 281 := Or.inl ⟨0, by decide +kernel, by decide, rfl⟩
theorem dlw_281 : D0 mLaw 281 (.ireturn) 1 282 := ⟨by decide +kernel, rfl⟩
theorem dlw_282 : DLa mLaw 282 1 283 := Or.inl ⟨1, by decide +kernel, rfl, rfl⟩
theorem dlw_283 : DLa mLaw 283 0 284 := Or.inl ⟨0, by decide +kernel, rfl, rfl⟩
theorem dlw_284 : DLi mLaw 284 3 285 := Or.inl ⟨3, by decide +kernel, rfl, rfl⟩
theorem dlw_285 : DKi mLaw 285 (nI 1) 286 := Or.inl ⟨1, by decide +kernel, by decide, rfl⟩
theorem dlw_286 : D0 mLaw 286 (.iadd) 1 287 := ⟨by decide +kernel, rfl⟩
theorem dlw_287 : D0 mLaw 287 (.iaload) 1 288 := ⟨by decide +kernel, rfl⟩
theorem dlw_288 : DLa mLaw 288 0 289 := Or.inl ⟨0, by decide +kernel, rfl, rfl⟩
theorem dlw_289 : DLi mLaw 289 3 290 := Or.inl ⟨3, by decide +kernel, rfl, rfl⟩
theorem dlw_290 : DKi mLaw 290 (nI 2) 291 := Or.inl ⟨2, by decide +kernel, by decide, rfl⟩
theorem dlw_291 : D0 mLaw 291 (.iadd) 1 292 := ⟨by decide +kernel, rfl⟩
theorem dlw_292 : D0 mLaw 292 (.iaload) 1 293 := ⟨by decide +kernel, rfl⟩
theorem dlw_293 : DLa mLaw 293 0 294 := Or.inl ⟨0, by decide +kernel, rfl, rfl⟩
theorem dlw_294 : DLi mLaw 294 3 295 := Or.inl ⟨3, by decide +kernel, rfl, rfl⟩
theorem dlw_295 : DKi mLaw 295 (nI 3) 296 := Or.inl ⟨3, by decide +kernel, by decide, rfl⟩
theorem dlw_296 : D0 mLaw 296 (.iadd) 1 297 := ⟨by decide +kernel, rfl⟩
theorem dlw_297 : D0 mLaw 297 (.iaload) 1 298 := ⟨by decide +kernel, rfl⟩
theorem dlw_298 : D0 mLaw 298 (.invokevirtual 32) 3 301 := ⟨by decide +kernel, rfl⟩
theorem dlw_301 : DLa mLaw 301 2 302 := Or.inl ⟨2, by decide +kernel, rfl, rfl⟩
theorem dlw_302 : DLa mLaw 302 0 303 := Or.inl ⟨0, by decide +kernel, rfl, rfl⟩
theorem dlw_303 : DLi mLaw 303 3 304 := Or.inl ⟨3, by decide +kernel, rfl, rfl⟩
theorem dlw_304 : DKi mLaw 304 (nI 1) 305 := Or.inl ⟨1, by decide +kernel, by decide, rfl⟩
theorem dlw_305 : D0 mLaw 305 (.iadd) 1 306 := ⟨by decide +kernel, rfl⟩
theorem dlw_306 : D0 mLaw 306 (.iaload) 1 307 := ⟨by decide +kernel, rfl⟩
theorem dlw_307 : DLa mLaw 307 0 308 := Or.inl ⟨0, by decide +kernel, rfl, rfl⟩
theorem dlw_308 : DLi mLaw 308 3 309 := Or.inl ⟨3, by decide +kernel, rfl, rfl⟩
theorem dlw_309 : DKi mLaw 309 (nI 2) 310 := Or.inl ⟨2, by decide +kernel, by decide, rfl⟩
theorem dlw_310 : D0 mLaw 310 (.iadd) 1 311 := ⟨by decide +kernel, rfl⟩
theorem dlw_311 : D0 mLaw 311 (.iaload) 1 312 := ⟨by decide +kernel, rfl⟩
theorem dlw_312 : DLa mLaw 312 0 313 := Or.inl ⟨0, by decide +kernel, rfl, rfl⟩
theorem dlw_313 : DLi mLaw 313 3 314 := Or.inl ⟨3, by decide +kernel, rfl, rfl⟩
theorem dlw_314 : DKi mLaw 314 (nI 3) 315 := Or.inl ⟨3, by decide +kernel, by decide, rfl⟩
theorem dlw_315 : D0 mLaw 315 (.iadd) 1 316 := ⟨by decide +kernel, rfl⟩
theorem dlw_316 : D0 mLaw 316 (.iaload) 1 317 := ⟨by decide +kernel, rfl⟩
theorem dlw_317 : D0 mLaw 317 (.invokevirtual 36) 3 320 := ⟨by decide +kernel, rfl⟩
theorem dlw_320 : DCeq mLaw 320 1671 323 := ⟨1351, by decide +kernel, by decide, rfl⟩
theorem dlw_323 : DKi mLaw 323 (nI 0) 324 := Or.inl ⟨0, by decide +kernel, by decide, rfl⟩
theorem dlw_324 : D0 mLaw 324 (.ireturn) 1 325 := ⟨by decide +kernel, rfl⟩
theorem dlw_325 : DLa mLaw 325 1 326 := Or.inl ⟨1, by decide +kernel, rfl, rfl⟩
theorem dlw_326 : DLa mLaw 326 0 327 := Or.inl ⟨0, by decide +kernel, rfl, rfl⟩
theorem dlw_327 : DLi mLaw 327 3 328 := Or.inl ⟨3, by decide +kernel, rfl, rfl⟩
theorem dlw_328 : DKi mLaw 328 (nI 1) 329 := Or.inl ⟨1, by decide +kernel, by decide, rfl⟩
theorem dlw_329 : D0 mLaw 329 (.iadd) 1 330 := ⟨by decide +kernel, rfl⟩
theorem dlw_330 : D0 mLaw 330 (.iaload) 1 331 := ⟨by decide +kernel, rfl⟩
theorem dlw_331 : DLa mLaw 331 0 332 := Or.inl ⟨0, by decide +kernel, rfl, rfl⟩
theorem dlw_332 : DLi mLaw 332 3 333 := Or.inl ⟨3, by decide +kernel, rfl, rfl⟩
theorem dlw_333 : DKi mLaw 333 (nI 2) 334 := Or.inl ⟨2, by decide +kernel, by decide, rfl⟩
theorem dlw_334 : D0 mLaw 334 (.iadd) 1 335 := ⟨by decide +kernel, rfl⟩
theorem dlw_335 : D0 mLaw 335 (.iaload) 1 336 := ⟨by decide +kernel, rfl⟩
theorem dlw_336 : DLa mLaw 336 0 337 := Or.inl ⟨0, by decide +kernel, rfl, rfl⟩
theorem dlw_337 : DLi mLaw 337 3 338 := Or.inl ⟨3, by decide +kernel, rfl, rfl⟩
theorem dlw_338 : DKi mLaw 338 (nI 3) 339 := Or.inl ⟨3, by decide +kernel, by decide, rfl⟩
theorem dlw_339 : D0 mLaw 339 (.iadd) 1 340 := ⟨by decide +kernel, rfl⟩
theorem dlw_340 : D0 mLaw 340 (.iaload) 1 341 := ⟨by decide +kernel, rfl⟩
theorem dlw_341 : D0 mLaw 341 (.invokevirtual 37) 3 344 := ⟨by decide +kernel, rfl⟩
theorem dlw_344 : DLa mLaw 344 2 345 := Or.inl ⟨2, by decide +kernel, rfl, rfl⟩
theorem dlw_345 : DLa mLaw 345 0 346 := Or.inl ⟨0, by decide +kernel, rfl, rfl⟩
theorem dlw_346 : DLi mLaw 346 3 347 := Or.inl ⟨3, by decide +kernel, rfl, rfl⟩
theorem dlw_347 : DKi mLaw 347 (nI 1) 348 := Or.inl ⟨1, by decide +kernel, by decide, rfl⟩
theorem dlw_348 : D0 mLaw 348 (.iadd) 1 349 := ⟨by decide +kernel, rfl⟩
theorem dlw_349 : D0 mLaw 349 (.iaload) 1 350 := ⟨by decide +kernel, rfl⟩
theorem dlw_350 : DLa mLaw 350 0 351 := Or.inl ⟨0, by decide +kernel, rfl, rfl⟩
theorem dlw_351 : DLi mLaw 351 3 352 := Or.inl ⟨3, by decide +kernel, rfl, rfl⟩
theorem dlw_352 : DKi mLaw 352 (nI 2) 353 := Or.inl ⟨2, by decide +kernel, by decide, rfl⟩
theorem dlw_353 : D0 mLaw 353 (.iadd) 1 354 := ⟨by decide +kernel, rfl⟩
theorem dlw_354 : D0 mLaw 354 (.iaload) 1 355 := ⟨by decide +kernel, rfl⟩
theorem dlw_355 : DLa mLaw 355 0 356 := Or.inl ⟨0, by decide +kernel, rfl, rfl⟩
theorem dlw_356 : DLi mLaw 356 3 357 := Or.inl ⟨3, by decide +kernel, rfl, rfl⟩
theorem dlw_357 : DKi mLaw 357 (nI 3) 358 := Or.inl ⟨3, by decide +kernel, by decide, rfl⟩
theorem dlw_358 : D0 mLaw 358 (.iadd) 1 359 := ⟨by decide +kernel, rfl⟩
theorem dlw_359 : D0 mLaw 359 (.iaload) 1 360 := ⟨by decide +kernel, rfl⟩
theorem dlw_360 : D0 mLaw 360 (.invokevirtual 40) 3 363 := ⟨by decide +kernel, rfl⟩
theorem dlw_363 : DCeq mLaw 363 1671 366 := ⟨1308, by decide +kernel, by decide, rfl⟩
theorem dlw_366 : DKi mLaw 366 (nI 0) 367 := Or.inl ⟨0, by decide +kernel, by decide, rfl⟩
theorem dlw_367 : D0 mLaw 367 (.ireturn) 1 368 := ⟨by decide +kernel, rfl⟩
theorem dlw_368 : DLa mLaw 368 1 369 := Or.inl ⟨1, by decide +kernel, rfl, rfl⟩
theorem dlw_369 : DLa mLaw 369 0 370 := Or.inl ⟨0, by decide +kernel, rfl, rfl⟩
theorem dlw_370 : DLi mLaw 370 3 371 := Or.inl ⟨3, by decide +kernel, rfl, rfl⟩
theorem dlw_371 : DKi mLaw 371 (nI 1) 372 := Or.inl ⟨1, by decide +kernel, by decide, rfl⟩
theorem dlw_372 : D0 mLaw 372 (.iadd) 1 373 := ⟨by decide +kernel, rfl⟩
theorem dlw_373 : D0 mLaw 373 (.iaload) 1 374 := ⟨by decide +kernel, rfl⟩
theorem dlw_374 : DLa mLaw 374 0 375 := Or.inl ⟨0, by decide +kernel, rfl, rfl⟩
theorem dlw_375 : DLi mLaw 375 3 376 := Or.inl ⟨3, by decide +kernel, rfl, rfl⟩
theorem dlw_376 : DKi mLaw 376 (nI 2) 377 := Or.inl ⟨2, by decide +kernel, by decide, rfl⟩
theorem dlw_377 : D0 mLaw 377 (.iadd) 1 378 := ⟨by decide +kernel, rfl⟩
theorem dlw_378 : D0 mLaw 378 (.iaload) 1 379 := ⟨by decide +kernel, rfl⟩
theorem dlw_379 : D0 mLaw 379 (.invokevirtual 41) 3 382 := ⟨by decide +kernel, rfl⟩
theorem dlw_382 : DLa mLaw 382 2 383 := Or.inl ⟨2, by decide +kernel, rfl, rfl⟩
theorem dlw_383 : DLa mLaw 383 0 384 := Or.inl ⟨0, by decide +kernel, rfl, rfl⟩
theorem dlw_384 : DLi mLaw 384 3 385 := Or.inl ⟨3, by decide +kernel, rfl, rfl⟩
theorem dlw_385 : DKi mLaw 385 (nI 1) 386 := Or.inl ⟨1, by decide +kernel, by decide, rfl⟩
theorem dlw_386 : D0 mLaw 386 (.iadd) 1 387 := ⟨by decide +kernel, rfl⟩
theorem dlw_387 : D0 mLaw 387 (.iaload) 1 388 := ⟨by decide +kernel, rfl⟩
theorem dlw_388 : DLa mLaw 388 0 389 := Or.inl ⟨0, by decide +kernel, rfl, rfl⟩
theorem dlw_389 : DLi mLaw 389 3 390 := Or.inl ⟨3, by decide +kernel, rfl, rfl⟩
theorem dlw_390 : DKi mLaw 390 (nI 2) 391 := Or.inl ⟨2, by decide +kernel, by decide, rfl⟩
theorem dlw_391 : D0 mLaw 391 (.iadd) 1 392 := ⟨by decide +kernel, rfl⟩
theorem dlw_392 : D0 mLaw 392 (.iaload) 1 393 := ⟨by decide +kernel, rfl⟩
theorem dlw_393 : D0 mLaw 393 (.invokevirtual 44) 3 396 := ⟨by decide +kernel, rfl⟩
theorem dlw_396 : DCeq mLaw 396 1671 399 := ⟨1275, by decide +kernel, by decide, rfl⟩
theorem dlw_399 : DKi mLaw 399 (nI 0) 400 := Or.inl ⟨0, by decide +kernel, by decide, rfl⟩
theorem dlw_400 : D0 mLaw 400 (.ireturn) 1 401 := ⟨by decide +kernel, rfl⟩
theorem dlw_401 : DLa mLaw 401 1 402 := Or.inl ⟨1, by decide +kernel, rfl, rfl⟩
theorem dlw_402 : DLa mLaw 402 0 403 := Or.inl ⟨0, by decide +kernel, rfl, rfl⟩
theorem dlw_403 : DLi mLaw 403 3 404 := Or.inl ⟨3, by decide +kernel, rfl, rfl⟩
theorem dlw_404 : DKi mLaw 404 (nI 1) 405 := Or.inl ⟨1, by decide +kernel, by decide, rfl⟩
theorem dlw_405 : D0 mLaw 405 (.iadd) 1 406 := ⟨by decide +kernel, rfl⟩
theorem dlw_406 : D0 mLaw 406 (.iaload) 1 407 := ⟨by decide +kernel, rfl⟩
theorem dlw_407 : DLa mLaw 407 0 408 := Or.inl ⟨0, by decide +kernel, rfl, rfl⟩
theorem dlw_408 : DLi mLaw 408 3 409 := Or.inl ⟨3, by decide +kernel, rfl, rfl⟩
theorem dlw_409 : DKi mLaw 409 (nI 2) 410 := Or.inl ⟨2, by decide +kernel, by decide, rfl⟩
theorem dlw_410 : D0 mLaw 410 (.iadd) 1 411 := ⟨by decide +kernel, rfl⟩
theorem dlw_411 : D0 mLaw 411 (.iaload) 1 412 := ⟨by decide +kernel, rfl⟩
theorem dlw_412 : D0 mLaw 412 (.invokevirtual 45) 3 415 := ⟨by decide +kernel, rfl⟩
theorem dlw_415 : DLa mLaw 415 2 416 := Or.inl ⟨2, by decide +kernel, rfl, rfl⟩
theorem dlw_416 : DLa mLaw 416 0 417 := Or.inl ⟨0, by decide +kernel, rfl, rfl⟩
theorem dlw_417 : DLi mLaw 417 3 418 := Or.inl ⟨3, by decide +kernel, rfl, rfl⟩
theorem dlw_418 : DKi mLaw 418 (nI 1) 419 := Or.inl ⟨1, by decide +kernel, by decide, rfl⟩
theorem dlw_419 : D0 mLaw 419 (.iadd) 1 420 := ⟨by decide +kernel, rfl⟩
theorem dlw_420 : D0 mLaw 420 (.iaload) 1 421 := ⟨by decide +kernel, rfl⟩
theorem dlw_421 : DLa mLaw 421 0 422 := Or.inl ⟨0, by decide +kernel, rfl, rfl⟩
theorem dlw_422 : DLi mLaw 422 3 423 := Or.inl ⟨3, by decide +kernel, rfl, rfl⟩
theorem dlw_423 : DKi mLaw 423 (nI 2) 424 := Or.inl ⟨2, by decide +kernel, by decide, rfl⟩
theorem dlw_424 : D0 mLaw 424 (.iadd) 1 425 := ⟨by decide +kernel, rfl⟩
theorem dlw_425 : D0 mLaw 425 (.iaload) 1 426 := ⟨by decide +kernel, rfl⟩
theorem dlw_426 : D0 mLaw 426 (.invokevirtual 48) 3 429 := ⟨by decide +kernel, rfl⟩
theorem dlw_429 : DCeq mLaw 429 1671 432 := ⟨1242, by decide +kernel, by decide, rfl⟩
theorem dlw_432 : DKi mLaw 432 (nI 0) 433 := Or.inl ⟨0, by decide +kernel, by decide, rfl⟩
theorem dlw_433 : D0 mLaw 433 (.ireturn) 1 434 := ⟨by decide +kernel, rfl⟩
theorem dlw_434 : DLa mLaw 434 1 435 := Or.inl ⟨1, by decide +kernel, rfl, rfl⟩
theorem dlw_435 : DLa mLaw 435 0 436 := Or.inl ⟨0, by decide +kernel, rfl, rfl⟩
theorem dlw_436 : DLi mLaw 436 3 437 := Or.inl ⟨3, by decide +kernel, rfl, rfl⟩
theorem dlw_437 : DKi mLaw 437 (nI 1) 438 := Or.inl ⟨1, by decide +kernel, by decide, rfl⟩
theorem dlw_438 : D0 mLaw 438 (.iadd) 1 439 := ⟨by decide +kernel, rfl⟩
theorem dlw_439 : D0 mLaw 439 (.iaload) 1 440 := ⟨by decide +kernel, rfl⟩
theorem dlw_440 : DLa mLaw 440 0 441 := Or.inl ⟨0, by decide +kernel, rfl, rfl⟩
theorem dlw_441 : DLi mLaw 441 3 442 := Or.inl ⟨3, by decide +kernel, rfl, rfl⟩
theorem dlw_442 : DKi mLaw 442 (nI 2) 443 := Or.inl ⟨2, by decide +kernel, by decide, rfl⟩
theorem dlw_443 : D0 mLaw 443 (.iadd) 1 444 := ⟨by decide +kernel, rfl⟩
theorem dlw_444 : D0 mLaw 444 (.iaload) 1 445 := ⟨by decide +kernel, rfl⟩
theorem dlw_445 : D0 mLaw 445 (.invokevirtual 49) 3 448 := ⟨by decide +kernel, rfl⟩
theorem dlw_448 : DLa mLaw 448 2 449 := Or.inl ⟨2, by decide +kernel, rfl, rfl⟩
theorem dlw_449 : DLa mLaw 449 0 450 := Or.inl ⟨0, by decide +kernel, rfl, rfl⟩
theorem dlw_450 : DLi mLaw 450 3 451 := Or.inl ⟨3, by decide +kernel, rfl, rfl⟩
theorem dlw_451 : DKi mLaw 451 (nI 1) 452 := Or.inl ⟨1, by decide +kernel, by decide, rfl⟩
theorem dlw_452 : D0 mLaw 452 (.iadd) 1 453 := ⟨by decide +kernel, rfl⟩
theorem dlw_453 : D0 mLaw 453 (.iaload) 1 454 := ⟨by decide +kernel, rfl⟩
theorem dlw_454 : DLa mLaw 454 0 455 := Or.inl ⟨0, by decide +kernel, rfl, rfl⟩
theorem dlw_455 : DLi mLaw 455 3 456 := Or.inl ⟨3, by decide +kernel, rfl, rfl⟩
theorem dlw_456 : DKi mLaw 456 (nI 2) 457 := Or.inl ⟨2, by decide +kernel, by decide, rfl⟩
theorem dlw_457 : D0 mLaw 457 (.iadd) 1 458 := ⟨by decide +kernel, rfl⟩
theorem dlw_458 : D0 mLaw 458 (.iaload) 1 459 := ⟨by decide +kernel, rfl⟩
theorem dlw_459 : D0 mLaw 459 (.invokevirtual 52) 3 462 := ⟨by decide +kernel, rfl⟩
theorem dlw_462 : DCeq mLaw 462 1671 465 := ⟨1209, by decide +kernel, by decide, rfl⟩
theorem dlw_465 : DKi mLaw 465 (nI 0) 466 := Or.inl ⟨0, by decide +kernel, by decide, rfl⟩
theorem dlw_466 : D0 mLaw 466 (.ireturn) 1 467 := ⟨by decide +kernel, rfl⟩
theorem dlw_467 : DLa mLaw 467 1 468 := Or.inl ⟨1, by decide +kernel, rfl, rfl⟩
theorem dlw_468 : DLa mLaw 468 0 469 := Or.inl ⟨0, by decide +kernel, rfl, rfl⟩
theorem dlw_469 : DLi mLaw 469 3 470 := Or.inl ⟨3, by decide +kernel, rfl, rfl⟩
theorem dlw_470 : DKi mLaw 470 (nI 1) 471 := Or.inl ⟨1, by decide +kernel, by decide, rfl⟩
theorem dlw_471 : D0 mLaw 471 (.iadd) 1 472 := ⟨by decide +kernel, rfl⟩
theorem dlw_472 : D0 mLaw 472 (.iaload) 1 473 := ⟨by decide +kernel, rfl⟩
theorem dlw_473 : DLa mLaw 473 0 474 := Or.inl ⟨0, by decide +kernel, rfl, rfl⟩
theorem dlw_474 : DLi mLaw 474 3 475 := Or.inl ⟨3, by decide +kernel, rfl, rfl⟩
theorem dlw_475 : DKi mLaw 475 (nI 2) 476 := Or.inl ⟨2, by decide +kernel, by decide, rfl⟩
theorem dlw_476 : D0 mLaw 476 (.iadd) 1 477 := ⟨by decide +kernel, rfl⟩
theorem dlw_477 : D0 mLaw 477 (.iaload) 1 478 := ⟨by decide +kernel, rfl⟩
theorem dlw_478 : D0 mLaw 478 (.invokevirtual 53) 3 481 := ⟨by decide +kernel, rfl⟩
theorem dlw_481 : DLa mLaw 481 2 482 := Or.inl ⟨2, by decide +kernel, rfl, rfl⟩
theorem dlw_482 : DLa mLaw 482 0 483 := Or.inl ⟨0, by decide +kernel, rfl, rfl⟩
theorem dlw_483 : DLi mLaw 483 3 484 := Or.inl ⟨3, by decide +kernel, rfl, rfl⟩
theorem dlw_484 : DKi mLaw 484 (nI 1) 485 := Or.inl ⟨1, by decide +kernel, by decide, rfl⟩
theorem dlw_485 : D0 mLaw 485 (.iadd) 1 486 := ⟨by decide +kernel, rfl⟩
theorem dlw_486 : D0 mLaw 486 (.iaload) 1 487 := ⟨by decide +kernel, rfl⟩
theorem dlw_487 : DLa mLaw 487 0 488 := Or.inl ⟨0, by decide +kernel, rfl, rfl⟩
theorem dlw_488 : DLi mLaw 488 3 489 := Or.inl ⟨3, by decide +kernel, rfl, rfl⟩
theorem dlw_489 : DKi mLaw 489 (nI 2) 490 := Or.inl ⟨2, by decide +kernel, by decide, rfl⟩
theorem dlw_490 : D0 mLaw 490 (.iadd) 1 491 := ⟨by decide +kernel, rfl⟩
theorem dlw_491 : D0 mLaw 491 (.iaload) 1 492 := ⟨by decide +kernel, rfl⟩
theorem dlw_492 : D0 mLaw 492 (.invokevirtual 56) 3 495 := ⟨by decide +kernel, rfl⟩
theorem dlw_495 : DCeq mLaw 495 1671 498 := ⟨1176, by decide +kernel, by decide, rfl⟩
theorem dlw_498 : DKi mLaw 498 (nI 0) 499 := Or.inl ⟨0, by decide +kernel, by decide, rfl⟩
theorem dlw_499 : D0 mLaw 499 (.ireturn) 1 500 := ⟨by decide +kernel, rfl⟩
theorem dlw_500 : DLa mLaw 500 1 501 := Or.inl ⟨1, by decide +kernel, rfl, rfl⟩
theorem dlw_501 : DLa mLaw 501 0 502 := Or.inl ⟨0, by decide +kernel, rfl, rfl⟩
theorem dlw_502 : DLi mLaw 502 3 503 := Or.inl ⟨3, by decide +kernel, rfl, rfl⟩
theorem dlw_503 : DKi mLaw 503 (nI 1) 504 := Or.inl ⟨1, by decide +kernel, by decide, rfl⟩
theorem dlw_504 : D0 mLaw 504 (.iadd) 1 505 := ⟨by decide +kernel, rfl⟩
theorem dlw_505 : D0 mLaw 505 (.iaload) 1 506 := ⟨by decide +kernel, rfl⟩
theorem dlw_506 : D0 mLaw 506 (.invokevirtual 57) 3 509 := ⟨by decide +kernel, rfl⟩
theorem dlw_509 : DLa mLaw 509 2 510 := Or.inl ⟨2, by decide +kernel, rfl, rfl⟩
theorem dlw_510 : DLa mLaw 510 0 511 := Or.inl ⟨0, by decide +kernel, rfl, rfl⟩
theorem dlw_511 : DLi mLaw 511 3 512 := Or.inl ⟨3, by decide +kernel, rfl, rfl⟩
theorem dlw_512 : DKi mLaw 512 (nI 1) 513 := Or.inl ⟨1, by decide +kernel, by decide, rfl⟩
theorem dlw_513 : D0 mLaw 513 (.iadd) 1 514 := ⟨by decide +kernel, rfl⟩
theorem dlw_514 : D0 mLaw 514 (.iaload) 1 515 := ⟨by decide +kernel, rfl⟩
theorem dlw_515 : D0 mLaw 515 (.invokevirtual 60) 3 518 := ⟨by decide +kernel, rfl⟩
theorem dlw_518 : DCeq mLaw 518 1671 521 := ⟨1153, by decide +kernel, by decide, rfl⟩
theorem dlw_521 : DKi mLaw 521 (nI 0) 522 := Or.inl ⟨0, by decide +kernel, by decide, rfl⟩
theorem dlw_522 : D0 mLaw 522 (.ireturn) 1 523 := ⟨by decide +kernel, rfl⟩
theorem dlw_523 : DLa mLaw 523 1 524 := Or.inl ⟨1, by decide +kernel, rfl, rfl⟩
theorem dlw_524 : DLa mLaw 524 0 525 := Or.inl ⟨0, by decide +kernel, rfl, rfl⟩
theorem dlw_525 : DLi mLaw 525 3 526 := Or.inl ⟨3, by decide +kernel, rfl, rfl⟩
theorem dlw_526 : DKi mLaw 526 (nI 1) 527 := Or.inl ⟨1, by decide +kernel, by decide, rfl⟩
theorem dlw_527 : D0 mLaw 527 (.iadd) 1 528 := ⟨by decide +kernel, rfl⟩
theorem dlw_528 : D0 mLaw 528 (.iaload) 1 529 := ⟨by decide +kernel, rfl⟩
theorem dlw_529 : DLa mLaw 529 0 530 := Or.inl ⟨0, by decide +kernel, rfl, rfl⟩
theorem dlw_530 : DLi mLaw 530 3 531 := Or.inl ⟨3, by decide +kernel, rfl, rfl⟩
theorem dlw_531 : DKi mLaw 531 (nI 2) 532 := Or.inl ⟨2, by decide +kernel, by decide, rfl⟩
theorem dlw_532 : D0 mLaw 532 (.iadd) 1 533 := ⟨by decide +kernel, rfl⟩
theorem dlw_533 : D0 mLaw 533 (.iaload) 1 534 := ⟨by decide +kernel, rfl⟩
theorem dlw_534 : DLa mLaw 534 0 535 := Or.inl ⟨0, by decide +kernel, rfl, rfl⟩
theorem dlw_535 : DLi mLaw 535 3 536 := Or.inl ⟨3, by decide +kernel, rfl, rfl⟩
theorem dlw_536 : DKi mLaw 536 (nI 3) 537 := Or.inl ⟨3, by decide +kernel, by decide, rfl⟩
theorem dlw_537 : D0 mLaw 537 (.iadd) 1 538 := ⟨by decide +kernel, rfl⟩
theorem dlw_538 : D0 mLaw 538 (.iaload) 1 539 := ⟨by decide +kernel, rfl⟩
theorem dlw_539 : D0 mLaw 539 (.invokevirtual 61) 3 542 := ⟨by decide +kernel, rfl⟩
theorem dlw_542 : DLa mLaw 542 2 543 := Or.inl ⟨2, by decide +kernel, rfl, rfl⟩
theorem dlw_543 : DLa mLaw 543 0 544 := Or.inl ⟨0, by decide +kernel, rfl, rfl⟩
theorem dlw_544 : DLi mLaw 544 3 545 := Or.inl ⟨3, by decide +kernel, rfl, rfl⟩
theorem dlw_545 : DKi mLaw 545 (nI 1) 546 := Or.inl ⟨1, by decide +kernel, by decide, rfl⟩
theorem dlw_546 : D0 mLaw 546 (.iadd) 1 547 := ⟨by decide +kernel, rfl⟩
theorem dlw_547 : D0 mLaw 547 (.iaload) 1 548 := ⟨by decide +kernel, rfl⟩
theorem dlw_548 : DLa mLaw 548 0 549 := Or.inl ⟨0, by decide +kernel, rfl, rfl⟩
theorem dlw_549 : DLi mLaw 549 3 550 := Or.inl ⟨3, by decide +kernel, rfl, rfl⟩
theorem dlw_550 : DKi mLaw 550 (nI 2) 551 := Or.inl ⟨2, by decide +kernel, by decide, rfl⟩
theorem dlw_551 : D0 mLaw 551 (.iadd) 1 552 := ⟨by decide +kernel, rfl⟩
theorem dlw_552 : D0 mLaw 552 (.iaload) 1 553 := ⟨by decide +kernel, rfl⟩
theorem dlw_553 : DLa mLaw 553 0 554 := Or.inl ⟨0, by decide +kernel, rfl, rfl⟩
theorem dlw_554 : DLi mLaw 554 3 555 := Or.inl ⟨3, by decide +kernel, rfl, rfl⟩
theorem dlw_555 : DKi mLaw 555 (nI 3) 556 := Or.inl ⟨3, by decide +kernel, by decide, rfl⟩
theorem dlw_556 : D0 mLaw 556 (.iadd) 1 557 := ⟨by decide +kernel, rfl⟩
theorem dlw_557 : D0 mLaw 557 (.iaload) 1 558 := ⟨by decide +kernel, rfl⟩
theorem dlw_558 : D0 mLaw 558 (.invokevirtual 64) 3 561 := ⟨by decide +kernel, rfl⟩
theorem dlw_561 : DCeq mLaw 561 1671 564 := ⟨1110, by decide +kernel, by decide, rfl⟩
theorem dlw_564 : DKi mLaw 564 (nI 0) 565 := Or.inl ⟨0, by decide +kernel, by decide, rfl⟩
theorem dlw_565 : D0 mLaw 565 (.ireturn) 1 566 := ⟨by decide +kernel, rfl⟩
theorem dlw_566 : DLa mLaw 566 1 567 := Or.inl ⟨1, by decide +kernel, rfl, rfl⟩
theorem dlw_567 : DLa mLaw 567 0 568 := Or.inl ⟨0, by decide +kernel, rfl, rfl⟩
theorem dlw_568 : DLi mLaw 568 3 569 := Or.inl ⟨3, by decide +kernel, rfl, rfl⟩
theorem dlw_569 : DKi mLaw 569 (nI 1) 570 := Or.inl ⟨1, by decide +kernel, by decide, rfl⟩
theorem dlw_570 : D0 mLaw 570 (.iadd) 1 571 := ⟨by decide +kernel, rfl⟩
theorem dlw_571 : D0 mLaw 571 (.iaload) 1 572 := ⟨by decide +kernel, rfl⟩
theorem dlw_572 : DLa mLaw 572 0 573 := Or.inl ⟨0, by decide +kernel, rfl, rfl⟩
theorem dlw_573 : DLi mLaw 573 3 574 := Or.inl ⟨3, by decide +kernel, rfl, rfl⟩
theorem dlw_574 : DKi mLaw 574 (nI 2) 575 := Or.inl ⟨2, by decide +kernel, by decide, rfl⟩
theorem dlw_575 : D0 mLaw 575 (.iadd) 1 576 := ⟨by decide +kernel, rfl⟩
theorem dlw_576 : D0 mLaw 576 (.iaload) 1 577 := ⟨by decide +kernel, rfl⟩
theorem dlw_577 : DLa mLaw 577 0 578 := Or.inl ⟨0, by decide +kernel, rfl, rfl⟩
theorem dlw_578 : DLi mLaw 578 3 579 := Or.inl ⟨3, by decide +kernel, rfl, rfl⟩
theorem dlw_579 : DKi mLaw 579 (nI 3) 580 := Or.inl ⟨3, by decide +kernel, by decide, rfl⟩
theorem dlw_580 : D0 mLaw 580 (.iadd) 1 581 := ⟨by decide +kernel, rfl⟩
theorem dlw_581 : D0 mLaw 581 (.iaload) 1 582 := ⟨by decide +kernel, rfl⟩
theorem dlw_582 : DLa mLaw 582 0 583 := Or.inl ⟨0, by decide +kernel, rfl, rfl⟩
theorem dlw_583 : DLi mLaw 583 3 584 := Or.inl ⟨3, by decide +kernel, rfl, rfl⟩
theorem dlw_584 : DKi mLaw 584 (nI 4) 585 := Or.inl ⟨4, by decide +kernel, by decide, rfl⟩
theorem dlw_585 : D0 mLaw 585 (.iadd) 1 586 := ⟨by decide +kernel, rfl⟩
theorem dlw_586 : D0 mLaw 586 (.iaload) 1 587 := ⟨by decide +kernel, rfl⟩
theorem dlw_587 : DLa mLaw 587 0 588 := Or.inl ⟨0, by decide +kernel, rfl, rfl⟩
theorem dlw_588 : DLi mLaw 588 3 589 := Or.inl ⟨3, by decide +kernel, rfl, rfl⟩
theorem dlw_589 : DKi mLaw 589 (nI 5) 590 := Or.inl ⟨5, by decide +kernel, by decide, rfl⟩
theorem dlw_590 : D0 mLaw 590 (.iadd) 1 591 := ⟨by decide +kernel, rfl⟩
theorem dlw_591 : D0 mLaw 591 (.iaload) 1 592 := ⟨by decide +kernel, rfl⟩
theorem dlw_592 : D0 mLaw 592 (.invokevirtual 65) 3 595 := ⟨by decide +kernel, rfl⟩
theorem dlw_595 : DLa mLaw 595 2 596 := Or.inl ⟨2, by decide +kernel, rfl, rfl⟩
theorem dlw_596 : DLa mLaw 596 0 597 := Or.inl ⟨0, by decide +kernel, rfl, rfl⟩
theorem dlw_597 : DLi mLaw 597 3 598 := Or.inl ⟨3, by decide +kernel, rfl, rfl⟩
theorem dlw_598 : DKi mLaw 598 (nI 1) 599 := Or.inl ⟨1, by decide +kernel, by decide, rfl⟩
theorem dlw_599 : D0 mLaw 599 (.iadd) 1 600 := ⟨by decide +kernel, rfl⟩
theorem dlw_600 : D0 mLaw 600 (.iaload) 1 601 := ⟨by decide +kernel, rfl⟩
theorem dlw_601 : DLa mLaw 601 0 602 := Or.inl ⟨0, by decide +kernel, rfl, rfl⟩
theorem dlw_602 : DLi mLaw 602 3 603 := Or.inl ⟨3, by decide +kernel, rfl, rfl⟩
theorem dlw_603 : DKi mLaw 603 (nI 2) 604 := Or.inl ⟨2, by decide +kernel, by decide, rfl⟩
theorem dlw_604 : D0 mLaw 604 (.iadd) 1 605 := ⟨by decide +kernel, rfl⟩
theorem dlw_605 : D0 mLaw 605 (.iaload) 1 606 := ⟨by decide +kernel, rfl⟩
theorem dlw_606 : DLa mLaw 606 0 607 := Or.inl ⟨0, by decide +kernel, rfl, rfl⟩
theorem dlw_607 : DLi mLaw 607 3 608 := Or.inl ⟨3, by decide +kernel, rfl, rfl⟩
theorem dlw_608 : DKi mLaw 608 (nI 3) 609 := Or.inl ⟨3, by decide +kernel, by decide, rfl⟩
theorem dlw_609 : D0 mLaw 609 (.iadd) 1 610 := ⟨by decide +kernel, rfl⟩
theorem dlw_610 : D0 mLaw 610 (.iaload) 1 611 := ⟨by decide +kernel, rfl⟩
theorem dlw_611 : DLa mLaw 611 0 612 := Or.inl ⟨0, by decide +kernel, rfl, rfl⟩
theorem dlw_612 : DLi mLaw 612 3 613 := Or.inl ⟨3, by decide +kernel, rfl, rfl⟩
theorem dlw_613 : DKi mLaw 613 (nI 4) 614 := Or.inl ⟨4, by decide +kernel, by decide, rfl⟩
theorem dlw_614 : D0 mLaw 614 (.iadd) 1 615 := ⟨by decide +kernel, rfl⟩
theorem dlw_615 : D0 mLaw 615 (.iaload) 1 616 := ⟨by decide +kernel, rfl⟩
theorem dlw_616 : DLa mLaw 616 0 617 := Or.inl ⟨0, by decide +kernel, rfl, rfl⟩
theorem dlw_617 : DLi mLaw 617 3 618 := Or.inl ⟨3, by decide +kernel, rfl, rfl⟩
theorem dlw_618 : DKi mLaw 618 (nI 5) 619 := Or.inl ⟨5, by decide +kernel, by decide, rfl⟩
theorem dlw_619 : D0 mLaw 619 (.iadd) 1 620 := ⟨by decide +kernel, rfl⟩
theorem dlw_620 : D0 mLaw 620 (.iaload) 1 621 := ⟨by decide +kernel, rfl⟩
theorem dlw_621 : D0 mLaw 621 (.invokevirtual 69) 3 624 := ⟨by decide +kernel, rfl⟩
theorem dlw_624 : D0 mLaw 624 (.lcmp) 1 625 := ⟨by decide +kernel, rfl⟩
theorem dlw_625 : DFeq mLaw 625 1671 628 := ⟨1046, by decide +kernel, by decide, rfl⟩
theorem dlw_628 : DKi mLaw 628 (nI 0) 629 := Or.inl ⟨0, by decide +kernel, by decide, rfl⟩
theorem dlw_629 : D0 mLaw 629 (.ireturn) 1 630 := ⟨by decide +kernel, rfl⟩
theorem dlw_630 : DLa mLaw 630 1 631 := Or.inl ⟨1, by decide +kernel, rfl, rfl⟩
theorem dlw_631 : DLa mLaw 631 0 632 := Or.inl ⟨0, by decide +kernel, rfl, rfl⟩
theorem dlw_632 : DLi mLaw 632 3 633 := Or.inl ⟨3, by decide +kernel, rfl, rfl⟩
theorem dlw_633 : DKi mLaw 633 (nI 1) 634 := Or.inl ⟨1, by decide +kernel, by decide, rfl⟩
theorem dlw_634 : D0 mLaw 634 (.iadd) 1 635 := ⟨by decide +kernel, rfl⟩
theorem dlw_635 : D0 mLaw 635 (.iaload) 1 636 := ⟨by decide +kernel, rfl⟩
theorem dlw_636 : DLa mLaw 636 0 637 := Or.inl ⟨0, by decide +kernel, rfl, rfl⟩
theorem dlw_637 : DLi mLaw 637 3 638 := Or.inl ⟨3, by decide +kernel, rfl, rfl⟩
theorem dlw_638 : DKi mLaw 638 (nI 2) 639 := Or.inl ⟨2, by decide +kernel, by decide, rfl⟩
theorem dlw_639 : D0 mLaw 639 (.iadd) 1 640 := ⟨by decide +kernel, rfl⟩
theorem dlw_640 : D0 mLaw 640 (.iaload) 1 641 := ⟨by decide +kernel, rfl⟩
theorem dlw_641 : DLa mLaw 641 0 642 := Or.inl ⟨0, by decide +kernel, rfl, rfl⟩
theorem dlw_642 : DLi mLaw 642 3 643 := Or.inl ⟨3, by decide +kernel, rfl, rfl⟩
theorem dlw_643 : DKi mLaw 643 (nI 3) 644 := Or.inl ⟨3, by decide +kernel, by decide, rfl⟩
theorem dlw_644 : D0 mLaw 644 (.iadd) 1 645 := ⟨by decide +kernel, rfl⟩
theorem dlw_645 : D0 mLaw 645 (.iaload) 1 646 := ⟨by decide +kernel, rfl⟩
theorem dlw_646 : D0 mLaw 646 (.invokevirtual 70) 3 649 := ⟨by decide +kernel, rfl⟩
theorem dlw_649 : DLa mLaw 649 2 650 := Or.inl ⟨2, by decide +kernel, rfl, rfl⟩
theorem dlw_650 : DLa mLaw 650 0 651 := Or.inl ⟨0, by decide +kernel, rfl, rfl⟩
theorem dlw_651 : DLi mLaw 651 3 652 := Or.inl ⟨3, by decide +kernel, rfl, rfl⟩
theorem dlw_652 : DKi mLaw 652 (nI 1) 653 := Or.inl ⟨1, by decide +kernel, by decide, rfl⟩
theorem dlw_653 : D0 mLaw 653 (.iadd) 1 654 := ⟨by decide +kernel, rfl⟩
theorem dlw_654 : D0 mLaw 654 (.iaload) 1 655 := ⟨by decide +kernel, rfl⟩
theorem dlw_655 : DLa mLaw 655 0 656 := Or.inl ⟨0, by decide +kernel, rfl, rfl⟩
theorem dlw_656 : DLi mLaw 656 3 657 := Or.inl ⟨3, by decide +kernel, rfl, rfl⟩
theorem dlw_657 : DKi mLaw 657 (nI 2) 658 := Or.inl ⟨2, by decide +kernel, by decide, rfl⟩
theorem dlw_658 : D0 mLaw 658 (.iadd) 1 659 := ⟨by decide +kernel, rfl⟩
theorem dlw_659 : D0 mLaw 659 (.iaload) 1 660 := ⟨by decide +kernel, rfl⟩
theorem dlw_660 : DLa mLaw 660 0 661 := Or.inl ⟨0, by decide +kernel, rfl, rfl⟩
theorem dlw_661 : DLi mLaw 661 3 662 := Or.inl ⟨3, by decide +kernel, rfl, rfl⟩
theorem dlw_662 : DKi mLaw 662 (nI 3) 663 := Or.inl ⟨3, by decide +kernel, by decide, rfl⟩
theorem dlw_663 : D0 mLaw 663 (.iadd) 1 664 := ⟨by decide +kernel, rfl⟩
theorem dlw_664 : D0 mLaw 664 (.iaload) 1 665 := ⟨by decide +kernel, rfl⟩
theorem dlw_665 : D0 mLaw 665 (.invokevirtual 73) 3 668 := ⟨by decide +kernel, rfl⟩
theorem dlw_668 : DCeq mLaw 668 1671 671 := ⟨1003, by decide +kernel, by decide, rfl⟩
theorem dlw_671 : DKi mLaw 671 (nI 0) 672 := Or.inl ⟨0, by decide +kernel, by decide, rfl⟩
theorem dlw_672 : D0 mLaw 672 (.ireturn) 1 673 := ⟨by decide +kernel, rfl⟩
theorem dlw_673 : DLa mLaw 673 1 674 := Or.inl ⟨1, by decide +kernel, rfl, rfl⟩
theorem dlw_674 : DLa mLaw 674 0 675 := Or.inl ⟨0, by decide +kernel, rfl, rfl⟩
theorem dlw_675 : DLi mLaw 675 3 676 := Or.inl ⟨3, by decide +kernel, rfl, rfl⟩
theorem dlw_676 : DKi mLaw 676 (nI 1) 677 := Or.inl ⟨1, by decide +kernel, by decide, rfl⟩
theorem dlw_677 : D0 mLaw 677 (.iadd) 1 678 := ⟨by decide +kernel, rfl⟩
theorem dlw_678 : D0 mLaw 678 (.iaload) 1 679 := ⟨by decide +kernel, rfl⟩
theorem dlw_679 : DLa mLaw 679 0 680 := Or.inl ⟨0, by decide +kernel, rfl, rfl⟩
theorem dlw_680 : DLi mLaw 680 3 681 := Or.inl ⟨3, by decide +kernel, rfl, rfl⟩
theorem dlw_681 : DKi mLaw 681 (nI 2) 682 := Or.inl ⟨2, by decide +kernel, by decide, rfl⟩
theorem dlw_682 : D0 mLaw 682 (.iadd) 1 683 := ⟨by decide +kernel, rfl⟩
theorem dlw_683 : D0 mLaw 683 (.iaload) 1 684 := ⟨by decide +kernel, rfl⟩
theorem dlw_684 : DLa mLaw 684 0 685 := Or.inl ⟨0, by decide +kernel, rfl, rfl⟩
theorem dlw_685 : DLi mLaw 685 3 686 := Or.inl ⟨3, by decide +kernel, rfl, rfl⟩
theorem dlw_686 : DKi mLaw 686 (nI 3) 687 := Or.inl ⟨3, by decide +kernel, by decide, rfl⟩
theorem dlw_687 : D0 mLaw 687 (.iadd) 1 688 := ⟨by decide +kernel, rfl⟩
theorem dlw_688 : D0 mLaw 688 (.iaload) 1 689 := ⟨by decide +kernel, rfl⟩
theorem dlw_689 : DLa mLaw 689 0 690 := Or.inl ⟨0, by decide +kernel, rfl, rfl⟩
theorem dlw_690 : DLi mLaw 690 3 691 := Or.inl ⟨3, by decide +kernel, rfl, rfl⟩
theorem dlw_691 : DKi mLaw 691 (nI 4) 692 := Or.inl ⟨4, by decide +kernel, by decide, rfl⟩
theorem dlw_692 : D0 mLaw 692 (.iadd) 1 693 := ⟨by decide +kernel, rfl⟩
theorem dlw_693 : D0 mLaw 693 (.iaload) 1 694 := ⟨by decide +kernel, rfl⟩
theorem dlw_694 : D0 mLaw 694 (.invokevirtual 74) 3 697 := ⟨by decide +kernel, rfl⟩
theorem dlw_697 : DLa mLaw 697 2 698 := Or.inl ⟨2, by decide +kernel, rfl, rfl⟩
theorem dlw_698 : DLa mLaw 698 0 699 := Or.inl ⟨0, by decide +kernel, rfl, rfl⟩
theorem dlw_699 : DLi mLaw 699 3 700 := Or.inl ⟨3, by decide +kernel, rfl, rfl⟩
theorem dlw_700 : DKi mLaw 700 (nI 1) 701 := Or.inl ⟨1, by decide +kernel, by decide, rfl⟩
theorem dlw_701 : D0 mLaw 701 (.iadd) 1 702 := ⟨by decide +kernel, rfl⟩
theorem dlw_702 : D0 mLaw 702 (.iaload) 1 703 := ⟨by decide +kernel, rfl⟩
theorem dlw_703 : DLa mLaw 703 0 704 := Or.inl ⟨0, by decide +kernel, rfl, rfl⟩
theorem dlw_704 : DLi mLaw 704 3 705 := Or.inl ⟨3, by decide +kernel, rfl, rfl⟩
theorem dlw_705 : DKi mLaw 705 (nI 2) 706 := Or.inl ⟨2, by decide +kernel, by decide, rfl⟩
theorem dlw_706 : D0 mLaw 706 (.iadd) 1 707 := ⟨by decide +kernel, rfl⟩
theorem dlw_707 : D0 mLaw 707 (.iaload) 1 708 := ⟨by decide +kernel, rfl⟩
theorem dlw_708 : DLa mLaw 708 0 709 := Or.inl ⟨0, by decide +kernel, rfl, rfl⟩
theorem dlw_709 : DLi mLaw 709 3 710 := Or.inl ⟨3, by decide +kernel, rfl, rfl⟩
theorem dlw_710 : DKi mLaw 710 (nI 3) 711 := Or.inl ⟨3, by decide +kernel, by decide, rfl⟩
theorem dlw_711 : D0 mLaw 711 (.iadd) 1 712 := ⟨by decide +kernel, rfl⟩
theorem dlw_712 : D0 mLaw 712 (.iaload) 1 713 := ⟨by decide +kernel, rfl⟩
theorem dlw_713 : DLa mLaw 713 0 714 := Or.inl ⟨0, by decide +kernel, rfl, rfl⟩
theorem dlw_714 : DLi mLaw 714 3 715 := Or.inl ⟨3, by decide +kernel, rfl, rfl⟩
theorem dlw_715 : DKi mLaw 715 (nI 4) 716 := Or.inl ⟨4, by decide +kernel, by decide, rfl⟩
theorem dlw_716 : D0 mLaw 716 (.iadd) 1 717 := ⟨by decide +kernel, rfl⟩
theorem dlw_717 : D0 mLaw 717 (.iaload) 1 718 := ⟨by decide +kernel, rfl⟩
theorem dlw_718 : D0 mLaw 718 (.invokevirtual 78) 3 721 := ⟨by decide +kernel, rfl⟩
theorem dlw_721 : DCeq mLaw 721 1671 724 := ⟨950, by decide +kernel, by decide, rfl⟩
theorem dlw_724 : DKi mLaw 724 (nI 0) 725 := Or.inl ⟨0, by decide +kernel, by decide, rfl⟩
theorem dlw_725 : D0 mLaw 725 (.ireturn) 1 726 := ⟨by decide +kernel, rfl⟩
theorem dlw_726 : DLa mLaw 726 1 727 := Or.inl ⟨1, by decide +kernel, rfl, rfl⟩
theorem dlw_727 : DLa mLaw 727 0 728 := Or.inl ⟨0, by decide +kernel, rfl, rfl⟩
theorem dlw_728 : DLi mLaw 728 3 729 := Or.inl ⟨3, by decide +kernel, rfl, rfl⟩
theorem dlw_729 : DKi mLaw 729 (nI 1) 730 := Or.inl ⟨1, by decide +kernel, by decide, rfl⟩
theorem dlw_730 : D0 mLaw 730 (.iadd) 1 731 := ⟨by decide +kernel, rfl⟩
theorem dlw_731 : D0 mLaw 731 (.iaload) 1 732 := ⟨by decide +kernel, rfl⟩
theorem dlw_732 : DLa mLaw 732 0 733 := Or.inl ⟨0, by decide +kernel, rfl, rfl⟩
theorem dlw_733 : DLi mLaw 733 3 734 := Or.inl ⟨3, by decide +kernel, rfl, rfl⟩
theorem dlw_734 : DKi mLaw 734 (nI 2) 735 := Or.inl ⟨2, by decide +kernel, by decide, rfl⟩
theorem dlw_735 : D0 mLaw 735 (.iadd) 1 736 := ⟨by decide +kernel, rfl⟩
theorem dlw_736 : D0 mLaw 736 (.iaload) 1 737 := ⟨by decide +kernel, rfl⟩
theorem dlw_737 : DLa mLaw 737 0 738 := Or.inl ⟨0, by decide +kernel, rfl, rfl⟩
theorem dlw_738 : DLi mLaw 738 3 739 := Or.inl ⟨3, by decide +kernel, rfl, rfl⟩
theorem dlw_739 : DKi mLaw 739 (nI 3) 740 := Or.inl ⟨3, by decide +kernel, by decide, rfl⟩
theorem dlw_740 : D0 mLaw 740 (.iadd) 1 741 := ⟨by decide +kernel, rfl⟩
theorem dlw_741 : D0 mLaw 741 (.iaload) 1 742 := ⟨by decide +kernel, rfl⟩
theorem dlw_742 : DLa mLaw 742 0 743 := Or.inl ⟨0, by decide +kernel, rfl, rfl⟩
theorem dlw_743 : DLi mLaw 743 3 744 := Or.inl ⟨3, by decide +kernel, rfl, rfl⟩
theorem dlw_744 : DKi mLaw 744 (nI 4) 745 := Or.inl ⟨4, by decide +kernel, by decide, rfl⟩
theorem dlw_745 : D0 mLaw 745 (.iadd) 1 746 := ⟨by decide +kernel, rfl⟩
theorem dlw_746 : D0 mLaw 746 (.iaload) 1 747 := ⟨by decide +kernel, rfl⟩
theorem dlw_747 : D0 mLaw 747 (.invokevirtual 79) 3 750 := ⟨by decide +kernel, rfl⟩
theorem dlw_750 : DLa mLaw 750 2 751 := Or.inl ⟨2, by decide +kernel, rfl, rfl⟩
theorem dlw_751 : DLa mLaw 751 0 752 := Or.inl ⟨0, by decide +kernel, rfl, rfl⟩
theorem dlw_752 : DLi mLaw 752 3 753 := Or.inl ⟨3, by decide +kernel, rfl, rfl⟩
theorem dlw_753 : DKi mLaw 753 (nI 1) 754 := Or.inl ⟨1, by decide +kernel, by decide, rfl⟩
theorem dlw_754 : D0 mLaw 754 (.iadd) 1 755 := ⟨by decide +kernel, rfl⟩
theorem dlw_755 : D0 mLaw 755 (.iaload) 1 756 := ⟨by decide +kernel, rfl⟩
theorem dlw_756 : DLa mLaw 756 0 757 := Or.inl ⟨0, by decide +kernel, rfl, rfl⟩
theorem dlw_757 : DLi mLaw 757 3 758 := Or.inl ⟨3, by decide +kernel, rfl, rfl⟩
theorem dlw_758 : DKi mLaw 758 (nI 2) 759 := Or.inl ⟨2, by decide +kernel, by decide, rfl⟩
theorem dlw_759 : D0 mLaw 759 (.iadd) 1 760 := ⟨by decide +kernel, rfl⟩
theorem dlw_760 : D0 mLaw 760 (.iaload) 1 761 := ⟨by decide +kernel, rfl⟩
theorem dlw_761 : DLa mLaw 761 0 762 := Or.inl ⟨0, by decide +kernel, rfl, rfl⟩
theorem dlw_762 : DLi mLaw 762 3 763 := Or.inl ⟨3, by decide +kernel, rfl, rfl⟩
theorem dlw_763 : DKi mLaw 763 (nI 3) 764 := Or.inl ⟨3, by decide +kernel, by decide, rfl⟩
theorem dlw_764 : D0 mLaw 764 (.iadd) 1 765 := ⟨by decide +kernel, rfl⟩
theorem dlw_765 : D0 mLaw 765 (.iaload) 1 766 := ⟨by decide +kernel, rfl⟩
theorem dlw_766 : DLa mLaw 766 0 767 := Or.inl ⟨0, by decide +kernel, rfl, rfl⟩
theorem dlw_767 : DLi mLaw 767 3 768 := Or.inl ⟨3, by decide +kernel, rfl, rfl⟩
theorem dlw_768 : DKi mLaw 768 (nI 4) 769 := Or.inl ⟨4, by decide +kernel, by decide, rfl⟩
theorem dlw_769 : D0 mLaw 769 (.iadd) 1 770 := ⟨by decide +kernel, rfl⟩
theorem dlw_770 : D0 mLaw 770 (.iaload) 1 771 := ⟨by decide +kernel, rfl⟩
theorem dlw_771 : D0 mLaw 771 (.invokevirtual 82) 3 774 := ⟨by decide +kernel, rfl⟩
theorem dlw_774 : DCeq mLaw 774 1671 777 := ⟨897, by decide +kernel, by decide, rfl⟩
theorem dlw_777 : DKi mLaw 777 (nI 0) 778 := Or.inl ⟨0, by decide +kernel, by decide, rfl⟩
theorem dlw_778 : D0 mLaw 778 (.ireturn) 1 779 := ⟨by decide +kernel, rfl⟩
theorem dlw_779 : DLa mLaw 779 1 780 := Or.inl ⟨1, by decide +kernel, rfl, rfl⟩
theorem dlw_780 : DLa mLaw 780 0 781 := Or.inl ⟨0, by decide +kernel, rfl, rfl⟩
theorem dlw_781 : DLi mLaw 781 3 782 := Or.inl ⟨3, by decide +kernel, rfl, rfl⟩
theorem dlw_782 : DKi mLaw 782 (nI 1) 783 := Or.inl ⟨1, by decide +kernel, by decide, rfl⟩
theorem dlw_783 : D0 mLaw 783 (.iadd) 1 784 := ⟨by decide +kernel, rfl⟩
theorem dlw_784 : D0 mLaw 784 (.iaload) 1 785 := ⟨by decide +kernel, rfl⟩
theorem dlw_785 : DLa mLaw 785 0 786 := Or.inl ⟨0, by decide +kernel, rfl, rfl⟩
theorem dlw_786 : DLi mLaw 786 3 787 := Or.inl ⟨3, by decide +kernel, rfl, rfl⟩
theorem dlw_787 : DKi mLaw 787 (nI 2) 788 := Or.inl ⟨2, by decide +kernel, by decide, rfl⟩
theorem dlw_788 : D0 mLaw 788 (.iadd) 1 789 := ⟨by decide +kernel, rfl⟩
theorem dlw_789 : D0 mLaw 789 (.iaload) 1 790 := ⟨by decide +kernel, rfl⟩
theorem dlw_790 : DLa mLaw 790 0 791 := Or.inl ⟨0, by decide +kernel, rfl, rfl⟩
theorem dlw_791 : DLi mLaw 791 3 792 := Or.inl ⟨3, by decide +kernel, rfl, rfl⟩
theorem dlw_792 : DKi mLaw 792 (nI 3) 793 := Or.inl ⟨3, by decide +kernel, by decide, rfl⟩
theorem dlw_793 : D0 mLaw 793 (.iadd) 1 794 := ⟨by decide +kernel, rfl⟩
theorem dlw_794 : D0 mLaw 794 (.iaload) 1 795 := ⟨by decide +kernel, rfl⟩
theorem dlw_795 : DLa mLaw 795 0 796 := Or.inl ⟨0, by decide +kernel, rfl, rfl⟩
theorem dlw_796 : DLi mLaw 796 3 797 := Or.inl ⟨3, by decide +kernel, rfl, rfl⟩
theorem dlw_797 : DKi mLaw 797 (nI 4) 798 := Or.inl ⟨4, by decide +kernel, by decide, rfl⟩
theorem dlw_798 : D0 mLaw 798 (.iadd) 1 799 := ⟨by decide +kernel, rfl⟩
theorem dlw_799 : D0 mLaw 799 (.iaload) 1 800 := ⟨by decide +kernel, rfl⟩
theorem dlw_800 : DLa mLaw 800 0 801 := Or.inl ⟨0, by decide +kernel, rfl, rfl⟩
theorem dlw_801 : DLi mLaw 801 3 802 := Or.inl ⟨3, by decide +kernel, rfl, rfl⟩
theorem dlw_802 : DKi mLaw 802 (nI 5) 803 := Or.inl ⟨5, by decide +kernel, by decide, rfl⟩
theorem dlw_803 : D0 mLaw 803 (.iadd) 1 804 := ⟨by decide +kernel, rfl⟩
theorem dlw_804 : D0 mLaw 804 (.iaload) 1 805 := ⟨by decide +kernel, rfl⟩
theorem dlw_805 : DLa mLaw 805 0 806 := Or.inl ⟨0, by decide +kernel, rfl, rfl⟩
theorem dlw_806 : DLi mLaw 806 3 807 := Or.inl ⟨3, by decide +kernel, rfl, rfl⟩
theorem dlw_807 : DKi mLaw 807 (nI 6) 809 := Or.inr (Or.inl ⟨6, by decide +kernel, by decide, rfl⟩)
theorem dlw_809 : D0 mLaw 809 (.iadd) 1 810 := ⟨by decide +kernel, rfl⟩
theorem dlw_810 : D0 mLaw 810 (.iaload) 1 811 := ⟨by decide +kernel, rfl⟩
theorem dlw_811 : DLa mLaw 811 0 812 := Or.inl ⟨0, by decide +kernel, rfl, rfl⟩
theorem dlw_812 : DLi mLaw 812 3 813 := Or.inl ⟨3, by decide +kernel, rfl, rfl⟩
theorem dlw_813 : DKi mLaw 813 (nI 7) 815 := Or.inr (Or.inl ⟨7, by decide +kernel, by decide, rfl⟩)
theorem dlw_815 : D0 mLaw 815 (.iadd) 1 816 := ⟨by decide +kernel, rfl⟩
theorem dlw_816 : D0 mLaw 816 (.iaload) 1 817 := ⟨by decide +kernel, rfl⟩
theorem dlw_817 : D0 mLaw 817 (.invokevirtual 83) 3 820 := ⟨by decide +kernel, rfl⟩
theorem dlw_820 : DLa mLaw 820 2 821 := Or.inl ⟨2, by decide +kernel, rfl, rfl⟩
theorem dlw_821 : DLa mLaw 821 0 822 := Or.inl ⟨0, by decide +kernel, rfl, rfl⟩
theorem dlw_822 : DLi mLaw 822 3 823 := Or.inl ⟨3, by decide +kernel, rfl, rfl⟩
theorem dlw_823 : DKi mLaw 823 (nI 1) 824 := Or.inl ⟨1, by decide +kernel, by decide, rfl⟩
theorem dlw_824 : D0 mLaw 824 (.iadd) 1 825 := ⟨by decide +kernel, rfl⟩
theorem dlw_825 : D0 mLaw 825 (.iaload) 1 826 := ⟨by decide +kernel, rfl⟩
theorem dlw_826 : DLa mLaw 826 0 827 := Or.inl ⟨0, by decide +kernel, rfl, rfl⟩
theorem dlw_827 : DLi mLaw 827 3 828 := Or.inl ⟨3, by decide +kernel, rfl, rfl⟩
theorem dlw_828 : DKi mLaw 828 (nI 2) 829 := Or.inl ⟨2, by decide +kernel, by decide, rfl⟩
theorem dlw_829 : D0 mLaw 829 (.iadd) 1 830 := ⟨by decide +kernel, rfl⟩
theorem dlw_830 : D0 mLaw 830 (.iaload) 1 831 := ⟨by decide +kernel, rfl⟩
theorem dlw_831 : DLa mLaw 831 0 832 := Or.inl ⟨0, by decide +kernel, rfl, rfl⟩
theorem dlw_832 : DLi mLaw 832 3 833 := Or.inl ⟨3, by decide +kernel, rfl, rfl⟩
theorem dlw_833 : DKi mLaw 833 (nI 3) 834 := Or.inl ⟨3, by decide +kernel, by decide, rfl⟩
theorem dlw_834 : D0 mLaw 834 (.iadd) 1 835 := ⟨by decide +kernel, rfl⟩
theorem dlw_835 : D0 mLaw 835 (.iaload) 1 836 := ⟨by decide +kernel, rfl⟩
theorem dlw_836 : DLa mLaw 836 0 837 := Or.inl ⟨0, by decide +kernel, rfl, rfl⟩
theorem dlw_837 : DLi mLaw 837 3 838 := Or.inl ⟨3, by decide +kernel, rfl, rfl⟩
theorem dlw_838 : DKi mLaw 838 (nI 4) 839 := Or.inl ⟨4, by decide +kernel, by decide, rfl⟩
theorem dlw_839 : D0 mLaw 839 (.iadd) 1 840 := ⟨by decide +kernel, rfl⟩
theorem dlw_840 : D0 mLaw 840 (.iaload) 1 841 := ⟨by decide +kernel, rfl⟩
theorem dlw_841 : DLa mLaw 841 0 842 := Or.inl ⟨0, by decide +kernel, rfl, rfl⟩
theorem dlw_842 : DLi mLaw 842 3 843 := Or.inl ⟨3, by decide +kernel, rfl, rfl⟩
theorem dlw_843 : DKi mLaw 843 (nI 5) 844 := Or.inl ⟨5, by decide +kernel, by decide, rfl⟩
theorem dlw_844 : D0 mLaw 844 (.iadd) 1 845 := ⟨by decide +kernel, rfl⟩
theorem dlw_845 : D0 mLaw 845 (.iaload) 1 846 := ⟨by decide +kernel, rfl⟩
theorem dlw_846 : DLa mLaw 846 0 847 := Or.inl ⟨0, by decide +kernel, rfl, rfl⟩
theorem dlw_847 : DLi mLaw 847 3 848 := Or.inl ⟨3, by decide +kernel, rfl, rfl⟩
theorem dlw_848 : DKi mLaw 848 (nI 6) 850 := Or.inr (Or.inl ⟨6, by decide +kernel, by decide, rfl⟩)
theorem dlw_850 : D0 mLaw 850 (.iadd) 1 851 := ⟨by decide +kernel, rfl⟩
theorem dlw_851 : D0 mLaw 851 (.iaload) 1 852 := ⟨by decide +kernel, rfl⟩
theorem dlw_852 : DLa mLaw 852 0 853 := Or.inl ⟨0, by decide +kernel, rfl, rfl⟩
theorem dlw_853 : DLi mLaw 853 3 854 := Or.inl ⟨3, by decide +kernel, rfl, rfl⟩
theorem dlw_854 : DKi mLaw 854 (nI 7) 856 := Or.inr (Or.inl ⟨7, by decide +kernel, by decide, rfl⟩)
theorem dlw_856 : D0 mLaw 856 (.iadd) 1 857 := ⟨by decide +kernel, rfl⟩
theorem dlw_857 : D0 mLaw 857 (.iaload) 1 858 := ⟨by decide +kernel, rfl⟩
theorem dlw_858 : D0 mLaw 858 (.invokevirtual 87) 3 861 := ⟨by decide +kernel, rfl⟩
theorem dlw_861 : D0 mLaw 861 (.lcmp) 1 862 := ⟨by decide +kernel, rfl⟩
theorem dlw_862 : DFeq mLaw 862 1671 865 := ⟨809, by decide +kernel, by decide, rfl⟩
theorem dlw_865 : DKi mLaw 865 (nI 0) 866 := Or.inl ⟨0, by decide +kernel, by decide, rfl⟩
theorem dlw_866 : D0 mLaw 866 (.ireturn) 1 867 := ⟨by decide +kernel, rfl⟩
theorem dlw_867 : DLa mLaw 867 1 868 := Or.inl ⟨1, by decide +kernel, rfl, rfl⟩
theorem dlw_868 : DLa mLaw 868 0 869 := Or.inl ⟨0, by decide +kernel, rfl, rfl⟩
theorem dlw_869 : DLi mLaw 869 3 870 := Or.inl ⟨3, by decide +kernel, rfl, rfl⟩
theorem dlw_870 : DKi mLaw 870 (nI 1) 871 := Or.inl ⟨1, by decide +kernel, by decide, rfl⟩
theorem dlw_871 : D0 mLaw 871 (.iadd) 1 872 := ⟨by decide +kernel, rfl⟩
theorem dlw_872 : D0 mLaw 872 (.iaload) 1 873 := ⟨by decide +kernel, rfl⟩
theorem dlw_873 : DLa mLaw 873 0 874 := Or.inl ⟨0, by decide +kernel, rfl, rfl⟩
theorem dlw_874 : DLi mLaw 874 3 875 := Or.inl ⟨3, by decide +kernel, rfl, rfl⟩
theorem dlw_875 : DKi mLaw 875 (nI 2) 876 := Or.inl ⟨2, by decide +kernel, by decide, rfl⟩
theorem dlw_876 : D0 mLaw 876 (.iadd) 1 877 := ⟨by decide +kernel, rfl⟩
theorem dlw_877 : D0 mLaw 877 (.iaload) 1 878 := ⟨by decide +kernel, rfl⟩
theorem dlw_878 : DLa mLaw 878 0 879 := Or.inl ⟨0, by decide +kernel, rfl, rfl⟩
theorem dlw_879 : DLi mLaw 879 3 880 := Or.inl ⟨3, by decide +kernel, rfl, rfl⟩
theorem dlw_880 : DKi mLaw 880 (nI 3) 881 := Or.inl ⟨3, by decide +kernel, by decide, rfl⟩
theorem dlw_881 : D0 mLaw 881 (.iadd) 1 882 := ⟨by decide +kernel, rfl⟩
theorem dlw_882 : D0 mLaw 882 (.iaload) 1 883 := ⟨by decide +kernel, rfl⟩
theorem dlw_883 : D0 mLaw 883 (.invokevirtual 88) 3 886 := ⟨by decide +kernel, rfl⟩
theorem dlw_886 : DLa mLaw 886 2 887 := Or.inl ⟨2, by decide +kernel, rfl, rfl⟩
theorem dlw_887 : DLa mLaw 887 0 888 := Or.inl ⟨0, by decide +kernel, rfl, rfl⟩
theorem dlw_888 : DLi mLaw 888 3 889 := Or.inl ⟨3, by decide +kernel, rfl, rfl⟩
theorem dlw_889 : DKi mLaw 889 (nI 1) 890 := Or.inl ⟨1, by decide +kernel, by decide, rfl⟩
theorem dlw_890 : D0 mLaw 890 (.iadd) 1 891 := ⟨by decide +kernel, rfl⟩
theorem dlw_891 : D0 mLaw 891 (.iaload) 1 892 := ⟨by decide +kernel, rfl⟩
theorem dlw_892 : DLa mLaw 892 0 893 := Or.inl ⟨0, by decide +kernel, rfl, rfl⟩
theorem dlw_893 : DLi mLaw 893 3 894 := Or.inl ⟨3, by decide +kernel, rfl, rfl⟩
theorem dlw_894 : DKi mLaw 894 (nI 2) 895 := Or.inl ⟨2, by decide +kernel, by decide, rfl⟩
theorem dlw_895 : D0 mLaw 895 (.iadd) 1 896 := ⟨by decide +kernel, rfl⟩
theorem dlw_896 : D0 mLaw 896 (.iaload) 1 897 := ⟨by decide +kernel, rfl⟩
theorem dlw_897 : DLa mLaw 897 0 898 := Or.inl ⟨0, by decide +kernel, rfl, rfl⟩
theorem dlw_898 : DLi mLaw 898 3 899 := Or.inl ⟨3, by decide +kernel, rfl, rfl⟩
theorem dlw_899 : DKi mLaw 899 (nI 3) 900 := Or.inl ⟨3, by decide +kernel, by decide, rfl⟩
theorem dlw_900 : D0 mLaw 900 (.iadd) 1 901 := ⟨by decide +kernel, rfl⟩
theorem dlw_901 : D0 mLaw 901 (.iaload) 1 902 := ⟨by decide +kernel, rfl⟩
theorem dlw_902 : D0 mLaw 902 (.invokevirtual 91) 3 905 := ⟨by decide +kernel, rfl⟩
theorem dlw_905 : DCeq mLaw 905 1671 908 := ⟨766, by decide +kernel, by decide, rfl⟩
theorem dlw_908 : DKi mLaw 908 (nI 0) 909 := Or.inl ⟨0, by decide +kernel, by decide, rfl⟩
theorem dlw_909 : D0 mLaw 909 (.ireturn) 1 910 := ⟨by decide +kernel, rfl⟩
theorem dlw_910 : DLa mLaw 910 1 911 := Or.inl ⟨1, by decide +kernel, rfl, rfl⟩
theorem dlw_911 : DLa mLaw 911 0 912 := Or.inl ⟨0, by decide +kernel, rfl, rfl⟩
theorem dlw_912 : DLi mLaw 912 3 913 := Or.inl ⟨3, by decide +kernel, rfl, rfl⟩
theorem dlw_913 : DKi mLaw 913 (nI 1) 914 := Or.inl ⟨1, by decide +kernel, by decide, rfl⟩
theorem dlw_914 : D0 mLaw 914 (.iadd) 1 915 := ⟨by decide +kernel, rfl⟩
theorem dlw_915 : D0 mLaw 915 (.iaload) 1 916 := ⟨by decide +kernel, rfl⟩
theorem dlw_916 : DLa mLaw 916 0 917 := Or.inl ⟨0, by decide +kernel, rfl, rfl⟩
theorem dlw_917 : DLi mLaw 917 3 918 := Or.inl ⟨3, by decide +kernel, rfl, rfl⟩
theorem dlw_918 : DKi mLaw 918 (nI 2) 919 := Or.inl ⟨2, by decide +kernel, by decide, rfl⟩
theorem dlw_919 : D0 mLaw 919 (.iadd) 1 920 := ⟨by decide +kernel, rfl⟩
theorem dlw_920 : D0 mLaw 920 (.iaload) 1 921 := ⟨by decide +kernel, rfl⟩
theorem dlw_921 : DLa mLaw 921 0 922 := Or.inl ⟨0, by decide +kernel, rfl, rfl⟩
theorem dlw_922 : DLi mLaw 922 3 923 := Or.inl ⟨3, by decide +kernel, rfl, rfl⟩
theorem dlw_923 : DKi mLaw 923 (nI 3) 924 := Or.inl ⟨3, by decide +kernel, by decide, rfl⟩
theorem dlw_924 : D0 mLaw 924 (.iadd) 1 925 := ⟨by decide +kernel, rfl⟩
theorem dlw_925 : D0 mLaw 925 (.iaload) 1 926 := ⟨by decide +kernel, rfl⟩
theorem dlw_926 : D0 mLaw 926 (.invokevirtual 92) 3 929 := ⟨by decide +kernel, rfl⟩
theorem dlw_929 : DLa mLaw 929 2 930 := Or.inl ⟨2, by decide +kernel, rfl, rfl⟩
theorem dlw_930 : DLa mLaw 930 0 931 := Or.inl ⟨0, by decide +kernel, rfl, rfl⟩
theorem dlw_931 : DLi mLaw 931 3 932 := Or.inl ⟨3, by decide +kernel, rfl, rfl⟩
theorem dlw_932 : DKi mLaw 932 (nI 1) 933 := Or.inl ⟨1, by decide +kernel, by decide, rfl⟩
theorem dlw_933 : D0 mLaw 933 (.iadd) 1 934 := ⟨by decide +kernel, rfl⟩
theorem dlw_934 : D0 mLaw 934 (.iaload) 1 935 := ⟨by decide +kernel, rfl⟩
theorem dlw_935 : DLa mLaw 935 0 936 := Or.inl ⟨0, by decide +kernel, rfl, rfl⟩
theorem dlw_936 : DLi mLaw 936 3 937 := Or.inl ⟨3, by decide +kernel, rfl, rfl⟩
theorem dlw_937 : DKi mLaw 937 (nI 2) 938 := Or.inl ⟨2, by decide +kernel, by decide, rfl⟩
theorem dlw_938 : D0 mLaw 938 (.iadd) 1 939 := ⟨by decide +kernel, rfl⟩
theorem dlw_939 : D0 mLaw 939 (.iaload) 1 940 := ⟨by decide +kernel, rfl⟩
theorem dlw_940 : DLa mLaw 940 0 941 := Or.inl ⟨0, by decide +kernel, rfl, rfl⟩
theorem dlw_941 : DLi mLaw 941 3 942 := Or.inl ⟨3, by decide +kernel, rfl, rfl⟩
theorem dlw_942 : DKi mLaw 942 (nI 3) 943 := Or.inl ⟨3, by decide +kernel, by decide, rfl⟩
theorem dlw_943 : D0 mLaw 943 (.iadd) 1 944 := ⟨by decide +kernel, rfl⟩
theorem dlw_944 : D0 mLaw 944 (.iaload) 1 945 := ⟨by decide +kernel, rfl⟩
theorem dlw_945 : D0 mLaw 945 (.invokevirtual 95) 3 948 := ⟨by decide +kernel, rfl⟩
theorem dlw_948 : DCeq mLaw 948 1671 951 := ⟨723, by decide +kernel, by decide, rfl⟩
theorem dlw_951 : DKi mLaw 951 (nI 0) 952 := Or.inl ⟨0, by decide +kernel, by decide, rfl⟩
theorem dlw_952 : D0 mLaw 952 (.ireturn) 1 953 := ⟨by decide +kernel, rfl⟩
theorem dlw_953 : DLa mLaw 953 1 954 := Or.inl ⟨1, by decide +kernel, rfl, rfl⟩
theorem dlw_954 : DLa mLaw 954 0 955 := Or.inl ⟨0, by decide +kernel, rfl, rfl⟩
theorem dlw_955 : DLi mLaw 955 3 956 := Or.inl ⟨3, by decide +kernel, rfl, rfl⟩
theorem dlw_956 : DKi mLaw 956 (nI 1) 957 := Or.inl ⟨1, by decide +kernel, by decide, rfl⟩
theorem dlw_957 : D0 mLaw 957 (.iadd) 1 958 := ⟨by decide +kernel, rfl⟩
theorem dlw_958 : D0 mLaw 958 (.iaload) 1 959 := ⟨by decide +kernel, rfl⟩
theorem dlw_959 : DLa mLaw 959 0 960 := Or.inl ⟨0, by decide +kernel, rfl, rfl⟩
theorem dlw_960 : DLi mLaw 960 3 961 := Or.inl ⟨3, by decide +kernel, rfl, rfl⟩
theorem dlw_961 : DKi mLaw 961 (nI 2) 962 := Or.inl ⟨2, by decide +kernel, by decide, rfl⟩
theorem dlw_962 : D0 mLaw 962 (.iadd) 1 963 := ⟨by decide +kernel, rfl⟩
theorem dlw_963 : D0 mLaw 963 (.iaload) 1 964 := ⟨by decide +kernel, rfl⟩
theorem dlw_964 : DLa mLaw 964 0 965 := Or.inl ⟨0, by decide +kernel, rfl, rfl⟩
theorem dlw_965 : DLi mLaw 965 3 966 := Or.inl ⟨3, by decide +kernel, rfl, rfl⟩
theorem dlw_966 : DKi mLaw 966 (nI 3) 967 := Or.inl ⟨3, by decide +kernel, by decide, rfl⟩
theorem dlw_967 : D0 mLaw 967 (.iadd) 1 968 := ⟨by decide +kernel, rfl⟩
theorem dlw_968 : D0 mLaw 968 (.iaload) 1 969 := ⟨by decide +kernel, rfl⟩
theorem dlw_969 : DLa mLaw 969 0 970 := Or.inl ⟨0, by decide +kernel, rfl, rfl⟩
theorem dlw_970 : DLi mLaw 970 3 971 := Or.inl ⟨3, by decide +kernel, rfl, rfl⟩
theorem dlw_971 : DKi mLaw 971 (nI 4) 972 := Or.inl ⟨4, by decide +kernel, by decide, rfl⟩
theorem dlw_972 : D0 mLaw 972 (.iadd) 1 973 := ⟨by decide +kernel, rfl⟩
theorem dlw_973 : D0 mLaw 973 (.iaload) 1 974 := ⟨by decide +kernel, rfl⟩
theorem dlw_974 : D0 mLaw 974 (.invokevirtual 96) 3 977 := ⟨by decide +kernel, rfl⟩
theorem dlw_977 : DLa mLaw 977 2 978 := Or.inl ⟨2, by decide +kernel, rfl, rfl⟩
theorem dlw_978 : DLa mLaw 978 0 979 := Or.inl ⟨0, by decide +kernel, rfl, rfl⟩
theorem dlw_979 : DLi mLaw 979 3 980 := Or.inl ⟨3, by decide +kernel, rfl, rfl⟩
theorem dlw_980 : DKi mLaw 980 (nI 1) 981 := Or.inl ⟨1, by decide +kernel, by decide, rfl⟩
theorem dlw_981 : D0 mLaw 981 (.iadd) 1 982 := ⟨by decide +kernel, rfl⟩
theorem dlw_982 : D0 mLaw 982 (.iaload) 1 983 := ⟨by decide +kernel, rfl⟩
theorem dlw_983 : DLa mLaw 983 0 984 := Or.inl ⟨0, by decide +kernel, rfl, rfl⟩
theorem dlw_984 : DLi mLaw 984 3 985 := Or.inl ⟨3, by decide +kernel, rfl, rfl⟩
theorem dlw_985 : DKi mLaw 985 (nI 2) 986 := Or.inl ⟨2, by decide +kernel, by decide, rfl⟩
theorem dlw_986 : D0 mLaw 986 (.iadd) 1 987 := ⟨by decide +kernel, rfl⟩
theorem dlw_987 : D0 mLaw 987 (.iaload) 1 988 := ⟨by decide +kernel, rfl⟩
theorem dlw_988 : DLa mLaw 988 0 989 := Or.inl ⟨0, by decide +kernel, rfl, rfl⟩
theorem dlw_989 : DLi mLaw 989 3 990 := Or.inl ⟨3, by decide +kernel, rfl, rfl⟩
theorem dlw_990 : DKi mLaw 990 (nI 3) 991 := Or.inl ⟨3, by decide +kernel, by decide, rfl⟩
theorem dlw_991 : D0 mLaw 991 (.iadd) 1 992 := ⟨by decide +kernel, rfl⟩
theorem dlw_992 : D0 mLaw 992 (.iaload) 1 993 := ⟨by decide +kernel, rfl⟩
theorem dlw_993 : DLa mLaw 993 0 994 := Or.inl ⟨0, by decide +kernel, rfl, rfl⟩
theorem dlw_994 : DLi mLaw 994 3 995 := Or.inl ⟨3, by decide +kernel, rfl, rfl⟩
theorem dlw_995 : DKi mLaw 995 (nI 4) 996 := Or.inl ⟨4, by decide +kernel, by decide, rfl⟩
theorem dlw_996 : D0 mLaw 996 (.iadd) 1 997 := ⟨by decide +kernel, rfl⟩
theorem dlw_997 : D0 mLaw 997 (.iaload) 1 998 := ⟨by decide +kernel, rfl⟩
theorem dlw_998 : D0 mLaw 998 (.invokevirtual 99) 3 1001 := ⟨by decide +kernel, rfl⟩
theorem dlw_1001 : DCeq mLaw 1001 1671 1004 := ⟨670, by decide +kernel, by decide, rfl⟩
theorem dlw_1004 : DKi mLaw 1004 (nI 0) 1005 := Or.inl ⟨0, by decide +kernel, by decide, rfl⟩
theorem dlw_1005 : D0 mLaw 1005 (.ireturn) 1 1006 := ⟨by decide +kernel, rfl⟩
theorem dlw_1006 : DLa mLaw 1006 1 1007 := Or.inl ⟨1, by decide +kernel, rfl, rfl⟩
theorem dlw_1007 : DLa mLaw 1007 0 1008 := Or.inl ⟨0, by decide +kernel, rfl, rfl⟩
theorem dlw_1008 : DLi mLaw 1008 3 1009 := Or.inl ⟨3, by decide +kernel, rfl, rfl⟩
theorem dlw_1009 : DKi mLaw 1009 (nI 1) 1010 := Or.inl ⟨1, by decide +kernel, by decide, rfl⟩
theorem dlw_1010 : D0 mLaw 1010 (.iadd) 1 1011 := ⟨by decide +kernel, rfl⟩
theorem dlw_1011 : D0 mLaw 1011 (.iaload) 1 1012 := ⟨by decide +kernel, rfl⟩
theorem dlw_1012 : DLa mLaw 1012 0 1013 := Or.inl ⟨0, by decide +kernel, rfl, rfl⟩
theorem dlw_1013 : DLi mLaw 1013 3 1014 := Or.inl ⟨3, by decide +kernel, rfl, rfl⟩
theorem dlw_1014 : DKi mLaw 1014 (nI 2) 1015 := Or.inl ⟨2, by decide +kernel, by decide, rfl⟩
theorem dlw_1015 : D0 mLaw 1015 (.iadd) 1 1016 := ⟨by decide +kernel, rfl⟩
theorem dlw_1016 : D0 mLaw 1016 (.iaload) 1 1017 := ⟨by decide +kernel, rfl⟩
theorem dlw_1017 : DLa mLaw 1017 0 1018 := Or.inl ⟨0, by decide +kernel, rfl, rfl⟩
theorem dlw_1018 : DLi mLaw 1018 3 1019 := Or.inl ⟨3, by decide +kernel, rfl, rfl⟩
theorem dlw_1019 : DKi mLaw 1019 (nI 3) 1020 := Or.inl ⟨3, by decide +kernel, by decide, rfl⟩
theorem dlw_1020 : D0 mLaw 1020 (.iadd) 1 1021 := ⟨by decide +kernel, rfl⟩
theorem dlw_1021 : D0 mLaw 1021 (.iaload) 1 1022 := ⟨by decide +kernel, rfl⟩
theorem dlw_1022 : D0 mLaw 1022 (.invokevirtual 100) 3 1025 := ⟨by decide +kernel, rfl⟩
theorem dlw_1025 : DLa mLaw 1025 2 1026 := Or.inl ⟨2, by decide +kernel, rfl, rfl⟩
theorem dlw_1026 : DLa mLaw 1026 0 1027 := Or.inl ⟨0, by decide +kernel, rfl, rfl⟩
theorem dlw_1027 : DLi mLaw 1027 3 1028 := Or.inl ⟨3, by decide +kernel, rfl, rfl⟩
theorem dlw_1028 : DKi mLaw 1028 (nI 1) 1029 := Or.inl ⟨1, by decide +kernel, by decide, rfl⟩
theorem dlw_1029 : D0 mLaw 1029 (.iadd) 1 1030 := ⟨by decide +kernel, rfl⟩
theorem dlw_1030 : D0 mLaw 1030 (.iaload) 1 1031 := ⟨by decide +kernel, rfl⟩
theorem dlw_1031 : DLa mLaw 1031 0 1032 := Or.inl ⟨0, by decide +kernel, rfl, rfl⟩
theorem dlw_1032 : DLi mLaw 1032 3 1033 := Or.inl ⟨3, by decide +kernel, rfl, rfl⟩
theorem dlw_1033 : DKi mLaw 1033 (nI 2) 1034 := Or.inl ⟨2, by decide +kernel, by decide, rfl⟩
theorem dlw_1034 : D0 mLaw 1034 (.iadd) 1 1035 := ⟨by decide +kernel, rfl⟩
theorem dlw_1035 : D0 mLaw 1035 (.iaload) 1 1036 := ⟨by decide +kernel, rfl⟩
theorem dlw_1036 : DLa mLaw 1036 0 1037 := Or.inl ⟨0, by decide +kernel, rfl, rfl⟩
theorem dlw_1037 : DLi mLaw 1037 3 1038 := Or.inl ⟨3, by decide +kernel, rfl, rfl⟩
theorem dlw_1038 : DKi mLaw 1038 (nI 3) 1039 := Or.inl ⟨3, by decide +kernel, by decide, rfl⟩
theorem dlw_1039 : D0 mLaw 1039 (.iadd) 1 1040 := ⟨by decide +kernel, rfl⟩
theorem dlw_1040 : D0 mLaw 1040 (.iaload) 1 1041 := ⟨by decide +kernel, rfl⟩
theorem dlw_1041 : D0 mLaw 1041 (.invokevirtual 103) 3 1044 := ⟨by decide +kernel, rfl⟩
theorem dlw_1044 : DCeq mLaw 1044 1671 1047 := ⟨627, by decide +kernel, by decide, rfl⟩
theorem dlw_1047 : DKi mLaw 1047 (nI 0) 1048 := Or.inl ⟨0, by decide +kernel, by decide, rfl⟩
theorem dlw_1048 : D0 mLaw 1048 (.ireturn) 1 1049 := ⟨by decide +kernel, rfl⟩
theorem dlw_1049 : DLa mLaw 1049 1 1050 := Or.inl ⟨1, by decide +kernel, rfl, rfl⟩
theorem dlw_1050 : DLa mLaw 1050 0 1051 := Or.inl ⟨0, by decide +kernel, rfl, rfl⟩
theorem dlw_1051 : DLi mLaw 1051 3 1052 := Or.inl ⟨3, by decide +kernel, rfl, rfl⟩
theorem dlw_1052 : DKi mLaw 1052 (nI 1) 1053 := Or.inl ⟨1, by decide +kernel, by decide, rfl⟩
theorem dlw_1053 : D0 mLaw 1053 (.iadd) 1 1054 := ⟨by decide +kernel, rfl⟩
theorem dlw_1054 : D0 mLaw 1054 (.iaload) 1 1055 := ⟨by decide +kernel, rfl⟩
theorem dlw_1055 : D0 mLaw 1055 (.invokevirtual 104) 3 1058 := ⟨by decide +kernel, rfl⟩
theorem dlw_1058 : DLa mLaw 1058 2 1059 := Or.inl ⟨2, by decide +kernel, rfl, rfl⟩
theorem dlw_1059 : DLa mLaw 1059 0 1060 := Or.inl ⟨0, by decide +kernel, rfl, rfl⟩
theorem dlw_1060 : DLi mLaw 1060 3 1061 := Or.inl ⟨3, by decide +kernel, rfl, rfl⟩
theorem dlw_1061 : DKi mLaw 1061 (nI 1) 1062 := Or.inl ⟨1, by decide +kernel, by decide, rfl⟩
theorem dlw_1062 : D0 mLaw 1062 (.iadd) 1 1063 := ⟨by decide +kernel, rfl⟩
theorem dlw_1063 : D0 mLaw 1063 (.iaload) 1 1064 := ⟨by decide +kernel, rfl⟩
theorem dlw_1064 : D0 mLaw 1064 (.invokevirtual 107) 3 1067 := ⟨by decide +kernel, rfl⟩
theorem dlw_1067 : DCeq mLaw 1067 1671 1070 := ⟨604, by decide +kernel, by decide, rfl⟩
theorem dlw_1070 : DKi mLaw 1070 (nI 0) 1071 := Or.inl ⟨0, by decide +kernel, by decide, rfl⟩
theorem dlw_1071 : D0 mLaw 1071 (.ireturn) 1 1072 := ⟨by decide +kernel, rfl⟩
theorem dlw_1072 : DLa mLaw 1072 1 1073 := Or.inl ⟨1, by decide +kernel, rfl, rfl⟩
theorem dlw_1073 : DLa mLaw 1073 0 1074 := Or.inl ⟨0, by decide +kernel, rfl, rfl⟩
theorem dlw_1074 : DLi mLaw 1074 3 1075 := Or.inl ⟨3, by decide +kernel, rfl, rfl⟩
theorem dlw_1075 : DKi mLaw 1075 (nI 1) 1076 := Or.inl ⟨1, by decide +kernel, by decide, rfl⟩
theorem dlw_1076 : D0 mLaw 1076 (.iadd) 1 1077 := ⟨by decide +kernel, rfl⟩
theorem dlw_1077 : D0 mLaw 1077 (.iaload) 1 1078 := ⟨by decide +kernel, rfl⟩
theorem dlw_1078 : DLa mLaw 1078 0 1079 := Or.inl ⟨0, by decide +kernel, rfl, rfl⟩
theorem dlw_1079 : DLi mLaw 1079 3 1080 := Or.inl ⟨3, by decide +kernel, rfl, rfl⟩
theorem dlw_1080 : DKi mLaw 1080 (nI 2) 1081 := Or.inl ⟨2, by decide +kernel, by decide, rfl⟩
theorem dlw_1081 : D0 mLaw 1081 (.iadd) 1 1082 := ⟨by decide +kernel, rfl⟩
theorem dlw_1082 : D0 mLaw 1082 (.iaload) 1 1083 := ⟨by decide +kernel, rfl⟩
theorem dlw_1083 : DLa mLaw 1083 0 1084 := Or.inl ⟨0, by decide +kernel, rfl, rfl⟩
theorem dlw_1084 : DLi mLaw 1084 3 1085 := Or.inl ⟨3, by decide +kernel, rfl, rfl⟩
theorem dlw_1085 : DKi mLaw 1085 (nI 3) 1086 := Or.inl ⟨3, by decide +kernel, by decide, rfl⟩
theorem dlw_1086 : D0 mLaw 1086 (.iadd) 1 1087 := ⟨by decide +kernel, rfl⟩
theorem dlw_1087 : D0 mLaw 1087 (.iaload) 1 1088 := ⟨by decide +kernel, rfl⟩
theorem dlw_1088 : DLa mLaw 1088 0 1089 := Or.inl ⟨0, by decide +kernel, rfl, rfl⟩
theorem dlw_1089 : DLi mLaw 1089 3 1090 := Or.inl ⟨3, by decide +kernel, rfl, rfl⟩
theorem dlw_1090 : DKi mLaw 1090 (nI 4) 1091 := Or.inl ⟨4, by decide +kernel, by decide, rfl⟩
theorem dlw_1091 : D0 mLaw 1091 (.iadd) 1 1092 := ⟨by decide +kernel, rfl⟩
theorem dlw_1092 : D0 mLaw 1092 (.iaload) 1 1093 := ⟨by decide +kernel, rfl⟩
theorem dlw_1093 : D0 mLaw 1093 (.invokevirtual 108) 3 1096 := ⟨by decide +kernel, rfl⟩
theorem dlw_1096 : DLa mLaw 1096 2 1097 := Or.inl ⟨2, by decide +kernel, rfl, rfl⟩
theorem dlw_1097 : DLa mLaw 1097 0 1098 := Or.inl ⟨0, by decide +kernel, rfl, rfl⟩
theorem dlw_1098 : DLi mLaw 1098 3 1099 := Or.inl ⟨3, by decide +kernel, rfl, rfl⟩
theorem dlw_1099 : DKi mLaw 1099 (nI 1) 1100 := Or.inl ⟨1, by decide +kernel, by decide, rfl⟩
theorem dlw_1100 : D0 mLaw 1100 (.iadd) 1 1101 := ⟨by decide +kernel, rfl⟩
theorem dlw_1101 : D0 mLaw 1101 (.iaload) 1 1102 := ⟨by decide +kernel, rfl⟩
theorem dlw_1102 : DLa mLaw 1102 0 1103 := Or.inl ⟨0, by decide +kernel, rfl, rfl⟩
theorem dlw_1103 : DLi mLaw 1103 3 1104 := Or.inl ⟨3, by decide +kernel, rfl, rfl⟩
theorem dlw_1104 : DKi mLaw 1104 (nI 2) 1105 := Or.inl ⟨2, by decide +kernel, by decide, rfl⟩
theorem dlw_1105 : D0 mLaw 1105 (.iadd) 1 1106 := ⟨by decide +kernel, rfl⟩
theorem dlw_1106 : D0 mLaw 1106 (.iaload) 1 1107 := ⟨by decide +kernel, rfl⟩
theorem dlw_1107 : DLa mLaw 1107 0 1108 := Or.inl ⟨0, by decide +kernel, rfl, rfl⟩
theorem dlw_1108 : DLi mLaw 1108 3 1109 := Or.inl ⟨3, by decide +kernel, rfl, rfl⟩
theorem dlw_1109 : DKi mLaw 1109 (nI 3) 1110 := Or.inl ⟨3, by decide +kernel, by decide, rfl⟩
theorem dlw_1110 : D0 mLaw 1110 (.iadd) 1 1111 := ⟨by decide +kernel, rfl⟩
theorem dlw_1111 : D0 mLaw 1111 (.iaload) 1 1112 := ⟨by decide +kernel, rfl⟩
theorem dlw_1112 : DLa mLaw 1112 0 1113 := Or.inl ⟨0, by decide +kernel, rfl, rfl⟩
theorem dlw_1113 : DLi mLaw 1113 3 1114 := Or.inl ⟨3, by decide +kernel, rfl, rfl⟩
theorem dlw_1114 : DKi mLaw 1114 (nI 4) 1115 := Or.inl ⟨4, by decide +kernel, by decide, rfl⟩
theorem dlw_1115 : D0 mLaw 1115 (.iadd) 1 1116 := ⟨by decide +kernel, rfl⟩
theorem dlw_1116 : D0 mLaw 1116 (.iaload) 1 1117 := ⟨by decide +kernel, rfl⟩
theorem dlw_1117 : D0 mLaw 1117 (.invokevirtual 111) 3 1120 := ⟨by decide +kernel, rfl⟩
theorem dlw_1120 : DCeq mLaw 1120 1671 1123 := ⟨551, by decide +kernel, by decide, rfl⟩
theorem dlw_1123 : DKi mLaw 1123 (nI 0) 1124 := Or.inl ⟨0, by decide +kernel, by decide, rfl⟩
theorem dlw_1124 : D0 mLaw 1124 (.ireturn) 1 1125 := ⟨by decide +kernel, rfl⟩
theorem dlw_1125 : DLa mLaw 1125 1 1126 := Or.inl ⟨1, by decide +kernel, rfl, rfl⟩
theorem dlw_1126 : DLa mLaw 1126 0 1127 := Or.inl ⟨0, by decide +kernel, rfl, rfl⟩
theorem dlw_1127 : DLi mLaw 1127 3 1128 := Or.inl ⟨3, by decide +kernel, rfl, rfl⟩
theorem dlw_1128 : DKi mLaw 1128 (nI 1) 1129 := Or.inl ⟨1, by decide +kernel, by decide, rfl⟩
theorem dlw_1129 : D0 mLaw 1129 (.iadd) 1 1130 := ⟨by decide +kernel, rfl⟩
theorem dlw_1130 : D0 mLaw 1130 (.iaload) 1 1131 := ⟨by decide +kernel, rfl⟩
theorem dlw_1131 : DLa mLaw 1131 0 1132 := Or.inl ⟨0, by decide +kernel, rfl, rfl⟩
theorem dlw_1132 : DLi mLaw 1132 3 1133 := Or.inl ⟨3, by decide +kernel, rfl, rfl⟩
theorem dlw_1133 : DKi mLaw 1133 (nI 2) 1134 := Or.inl ⟨2, by decide +kernel, by decide, rfl⟩
theorem dlw_1134 : D0 mLaw 1134 (.iadd) 1 1135 := ⟨by decide +kernel, rfl⟩
theorem dlw_1135 : D0 mLaw 1135 (.iaload) 1 1136 := ⟨by decide +kernel, rfl⟩
theorem dlw_1136 : D0 mLaw 1136 (.invokevirtual 112) 3 1139 := ⟨by decide +kernel, rfl⟩
theorem dlw_1139 : DLa mLaw 1139 2 1140 := Or.inl ⟨2, by decide +kernel, rfl, rfl⟩
theorem dlw_1140 : DLa mLaw 1140 0 1141 := Or.inl ⟨0, by decide +kernel, rfl, rfl⟩
theorem dlw_1141 : DLi mLaw 1141 3 1142 := Or.inl ⟨3, by decide +kernel, rfl, rfl⟩
theorem dlw_1142 : DKi mLaw 1142 (nI 1) 1143 := Or.inl ⟨1, by decide +kernel, by decide, rfl⟩
theorem dlw_1143 : D0 mLaw 1143 (.iadd) 1 1144 := ⟨by decide +kernel, rfl⟩
theorem dlw_1144 : D0 mLaw 1144 (.iaload) 1 1145 := ⟨by decide +kernel, rfl⟩
theorem dlw_1145 : DLa mLaw 1145 0 1146 := Or.inl ⟨0, by decide +kernel, rfl, rfl⟩
theorem dlw_1146 : DLi mLaw 1146 3 1147 := Or.inl ⟨3, by decide +kernel, rfl, rfl⟩
theorem dlw_1147 : DKi mLaw 1147 (nI 2) 1148 := Or.inl ⟨2, by decide +kernel, by decide, rfl⟩
theorem dlw_1148 : D0 mLaw 1148 (.iadd) 1 1149 := ⟨by decide +kernel, rfl⟩
theorem dlw_1149 : D0 mLaw 1149 (.iaload) 1 1150 := ⟨by decide +kernel, rfl⟩
theorem dlw_1150 : D0 mLaw 1150 (.invokevirtual 115) 3 1153 := ⟨by decide +kernel, rfl⟩
theorem dlw_1153 : DCeq mLaw 1153 1671 1156 := ⟨518, by decide +kernel, by decide, rfl⟩
theorem dlw_1156 : DKi mLaw 1156 (nI 0) 1157 := Or.inl ⟨0, by decide +kernel, by decide, rfl⟩
theorem dlw_1157 : D0 mLaw 1157 (.ireturn) 1 1158 := ⟨by decide +kernel, rfl⟩
theorem dlw_1158 : DLa mLaw 1158 1 1159 := Or.inl ⟨1, by decide +kernel, rfl, rfl⟩
theorem dlw_1159 : DLa mLaw 1159 0 1160 := Or.inl ⟨0, by decide +kernel, rfl, rfl⟩
theorem dlw_1160 : DLi mLaw 1160 3 1161 := Or.inl ⟨3, by decide +kernel, rfl, rfl⟩
theorem dlw_1161 : DKi mLaw 1161 (nI 1) 1162 := Or.inl ⟨1, by decide +kernel, by decide, rfl⟩
theorem dlw_1162 : D0 mLaw 1162 (.iadd) 1 1163 := ⟨by decide +kernel, rfl⟩
theorem dlw_1163 : D0 mLaw 1163 (.iaload) 1 1164 := ⟨by decide +kernel, rfl⟩
theorem dlw_1164 : DLa mLaw 1164 0 1165 := Or.inl ⟨0, by decide +kernel, rfl, rfl⟩
theorem dlw_1165 : DLi mLaw 1165 3 1166 := Or.inl ⟨3, by decide +kernel, rfl, rfl⟩
theorem dlw_1166 : DKi mLaw 1166 (nI 2) 1167 := Or.inl ⟨2, by decide +kernel, by decide, rfl⟩
theorem dlw_1167 : D0 mLaw 1167 (.iadd) 1 1168 := ⟨by decide +kernel, rfl⟩
theorem dlw_1168 : D0 mLaw 1168 (.iaload) 1 1169 := ⟨by decide +kernel, rfl⟩
theorem dlw_1169 : DLa mLaw 1169 0 1170 := Or.inl ⟨0, by decide +kernel, rfl, rfl⟩
theorem dlw_1170 : DLi mLaw 1170 3 1171 := Or.inl ⟨3, by decide +kernel, rfl, rfl⟩
theorem dlw_1171 : DKi mLaw 1171 (nI 3) 1172 := Or.inl ⟨3, by decide +kernel, by decide, rfl⟩
theorem dlw_1172 : D0 mLaw 1172 (.iadd) 1 1173 := ⟨by decide +kernel, rfl⟩
theorem dlw_1173 : D0 mLaw 1173 (.iaload) 1 1174 := ⟨by decide +kernel, rfl⟩
theorem dlw_1174 : D0 mLaw 1174 (.invokevirtual 116) 3 1177 := ⟨by decide +kernel, rfl⟩
theorem dlw_1177 : DLa mLaw 1177 2 1178 := Or.inl ⟨2, by decide +kernel, rfl, rfl⟩
theorem dlw_1178 : DLa mLaw 1178 0 1179 := Or.inl ⟨0, by decide +kernel, rfl, rfl⟩
theorem dlw_1179 : DLi mLaw 1179 3 1180 := Or.inl ⟨3, by decide +kernel, rfl, rfl⟩
theorem dlw_1180 : DKi mLaw 1180 (nI 1) 1181 := Or.inl ⟨1, by decide +kernel, by decide, rfl⟩
theorem dlw_1181 : D0 mLaw 1181 (.iadd) 1 1182 := ⟨by decide +kernel, rfl⟩
theorem dlw_1182 : D0 mLaw 1182 (.iaload) 1 1183 := ⟨by decide +kernel, rfl⟩
theorem dlw_1183 : DLa mLaw 1183 0 1184 := Or.inl ⟨0, by decide +kernel, rfl, rfl⟩
theorem dlw_1184 : DLi mLaw 1184 3 1185 := Or.inl ⟨3, by decide +kernel, rfl, rfl⟩
theorem dlw_1185 : DKi mLaw 1185 (nI 2) 1186 := Or.inl ⟨2, by decide +kernel, by decide, rfl⟩
theorem dlw_1186 : D0 mLaw 1186 (.iadd) 1 1187 := ⟨by decide +kernel, rfl⟩
theorem dlw_1187 : D0 mLaw 1187 (.iaload) 1 1188 := ⟨by decide +kernel, rfl⟩
theorem dlw_1188 : DLa mLaw 1188 0 1189 := Or.inl ⟨0, by decide +kernel, rfl, rfl⟩
theorem dlw_1189 : DLi mLaw 1189 3 1190 := Or.inl ⟨3, by decide +kernel, rfl, rfl⟩
theorem dlw_1190 : DKi mLaw 1190 (nI 3) 1191 := Or.inl ⟨3, by decide +kernel, by decide, rfl⟩
theorem dlw_1191 : D0 mLaw 1191 (.iadd) 1 1192 := ⟨by decide +kernel, rfl⟩
theorem dlw_1192 : D0 mLaw 1192 (.iaload) 1 1193 := ⟨by decide +kernel, rfl⟩
theorem dlw_1193 : D0 mLaw 1193 (.invokevirtual 119) 3 1196 := ⟨by decide +kernel, rfl⟩
theorem dlw_1196 : DCeq mLaw 1196 1671 1199 := ⟨475, by decide +kernel, by decide, rfl⟩
theorem dlw_1199 : DKi mLaw 1199 (nI 0) 1200 := Or.inl ⟨0, by decide +kernel, by decide, rfl⟩
theorem dlw_1200 : D0 mLaw 1200 (.ireturn) 1 1201 := ⟨by decide +kernel, rfl⟩
theorem dlw_1201 : DLa mLaw 1201 1 1202 := Or.inl ⟨1, by decide +kernel, rfl, rfl⟩
theorem dlw_1202 : DLa mLaw 1202 0 1203 := Or.inl ⟨0, by decide +kernel, rfl, rfl⟩
theorem dlw_1203 : DLi mLaw 1203 3 1204 := Or.inl ⟨3, by decide +kernel, rfl, rfl⟩
theorem dlw_1204 : DKi mLaw 1204 (nI 1) 1205 := Or.inl ⟨1, by decide +kernel, by decide, rfl⟩
theorem dlw_1205 : D0 mLaw 1205 (.iadd) 1 1206 := ⟨by decide +kernel, rfl⟩
theorem dlw_1206 : D0 mLaw 1206 (.iaload) 1 1207 := ⟨by decide +kernel, rfl⟩
theorem dlw_1207 : DLa mLaw 1207 0 1208 := Or.inl ⟨0, by decide +kernel, rfl, rfl⟩
theorem dlw_1208 : DLi mLaw 1208 3 1209 := Or.inl ⟨3, by decide +kernel, rfl, rfl⟩
theorem dlw_1209 : DKi mLaw 1209 (nI 2) 1210 := Or.inl ⟨2, by decide +kernel, by decide, rfl⟩
theorem dlw_1210 : D0 mLaw 1210 (.iadd) 1 1211 := ⟨by decide +kernel, rfl⟩
theorem dlw_1211 : D0 mLaw 1211 (.iaload) 1 1212 := ⟨by decide +kernel, rfl⟩
theorem dlw_1212 : D0 mLaw 1212 (.invokevirtual 120) 3 1215 := ⟨by decide +kernel, rfl⟩
theorem dlw_1215 : DLa mLaw 1215 2 1216 := Or.inl ⟨2, by decide +kernel, rfl, rfl⟩
theorem dlw_1216 : DLa mLaw 1216 0 1217 := Or.inl ⟨0, by decide +kernel, rfl, rfl⟩
theorem dlw_1217 : DLi mLaw 1217 3 1218 := Or.inl ⟨3, by decide +kernel, rfl, rfl⟩
theorem dlw_1218 : DKi mLaw 1218 (nI 1) 1219 := Or.inl ⟨1, by decide +kernel, by decide, rfl⟩
theorem dlw_1219 : D0 mLaw 1219 (.iadd) 1 1220 := ⟨by decide +kernel, rfl⟩
theorem dlw_1220 : D0 mLaw 1220 (.iaload) 1 1221 := ⟨by decide +kernel, rfl⟩
theorem dlw_1221 : DLa mLaw 1221 0 1222 := Or.inl ⟨0, by decide +kernel, rfl, rfl⟩
theorem dlw_1222 : DLi mLaw 1222 3 1223 := Or.inl ⟨3, by decide +kernel, rfl, rfl⟩
theorem dlw_1223 : DKi mLaw 1223 (nI 2) 1224 := Or.inl ⟨2, by decide +kernel, by decide, rfl⟩
theorem dlw_1224 : D0 mLaw 1224 (.iadd) 1 1225 := ⟨by decide +kernel, rfl⟩
theorem dlw_1225 : D0 mLaw 1225 (.iaload) 1 1226 := ⟨by decide +kernel, rfl⟩
theorem dlw_1226 : D0 mLaw 1226 (.invokevirtual 123) 3 1229 := ⟨by decide +kernel, rfl⟩
theorem dlw_1229 : DCeq mLaw 1229 1671 1232 := ⟨442, by decide +kernel, by decide, rfl⟩
theorem dlw_1232 : DKi mLaw 1232 (nI 0) 1233 := Or.inl ⟨0, by decide +kernel, by decide, rfl⟩
theorem dlw_1233 : D0 mLaw 1233 (.ireturn) 1 1234 := ⟨by decide +kernel, rfl⟩
theorem dlw_1234 : DLa mLaw 1234 1 1235 := Or.inl ⟨1, by decide +kernel, rfl, rfl⟩
theorem dlw_1235 : DLa mLaw 1235 0 1236 := Or.inl ⟨0, by decide +kernel, rfl, rfl⟩
theorem dlw_1236 : DLi mLaw 1236 3 1237 := Or.inl ⟨3, by decide +kernel, rfl, rfl⟩
theorem dlw_1237 : DKi mLaw 1237 (nI 1) 1238 := Or.inl ⟨1, by decide +kernel, by decide, rfl⟩
theorem dlw_1238 : D0 mLaw 1238 (.iadd) 1 1239 := ⟨by decide +kernel, rfl⟩
theorem dlw_1239 : D0 mLaw 1239 (.iaload) 1 1240 := ⟨by decide +kernel, rfl⟩
theorem dlw_1240 : DLa mLaw 1240 0 1241 := Or.inl ⟨0, by decide +kernel, rfl, rfl⟩
theorem dlw_1241 : DLi mLaw 1241 3 1242 := Or.inl ⟨3, by decide +kernel, rfl, rfl⟩
theorem dlw_1242 : DKi mLaw 1242 (nI 2) 1243 := Or.inl ⟨2, by decide +kernel, by decide, rfl⟩
theorem dlw_1243 : D0 mLaw 1243 (.iadd) 1 1244 := ⟨by decide +kernel, rfl⟩
theorem dlw_1244 : D0 mLaw 1244 (.iaload) 1 1245 := ⟨by decide +kernel, rfl⟩
theorem dlw_1245 : D0 mLaw 1245 (.invokevirtual 124) 3 1248 := ⟨by decide +kernel, rfl⟩
theorem dlw_1248 : DLa mLaw 1248 2 1249 := Or.inl ⟨2, by decide +kernel, rfl, rfl⟩
theorem dlw_1249 : DLa mLaw 1249 0 1250 := Or.inl ⟨0, by decide +kernel, rfl, rfl⟩
theorem dlw_1250 : DLi mLaw 1250 3 1251 := Or.inl ⟨3, by decide +kernel, rfl, rfl⟩
theorem dlw_1251 : DKi mLaw 1251 (nI 1) 1252 := Or.inl ⟨1, by decide +kernel, by decide, rfl⟩
theorem dlw_1252 : D0 mLaw 1252 (.iadd) 1 1253 := ⟨by decide +kernel, rfl⟩
theorem dlw_1253 : D0 mLaw 1253 (.iaload) 1 1254 := ⟨by decide +kernel, rfl⟩
theorem dlw_1254 : DLa mLaw 1254 0 1255 := Or.inl ⟨0, by decide +kernel, rfl, rfl⟩
theorem dlw_1255 : DLi mLaw 1255 3 1256 := Or.inl ⟨3, by decide +kernel, rfl, rfl⟩
theorem dlw_1256 : DKi mLaw 1256 (nI 2) 1257 := Or.inl ⟨2, by decide +kernel, by decide, rfl⟩
theorem dlw_1257 : D0 mLaw 1257 (.iadd) 1 1258 := ⟨by decide +kernel, rfl⟩
theorem dlw_1258 : D0 mLaw 1258 (.iaload) 1 1259 := ⟨by decide +kernel, rfl⟩
theorem dlw_1259 : D0 mLaw 1259 (.invokevirtual 127) 3 1262 := ⟨by decide +kernel, rfl⟩
theorem dlw_1262 : DCeq mLaw 1262 1671 1265 := ⟨409, by decide +kernel, by decide, rfl⟩
theorem dlw_1265 : DKi mLaw 1265 (nI 0) 1266 := Or.inl ⟨0, by decide +kernel, by decide, rfl⟩
theorem dlw_1266 : D0 mLaw 1266 (.ireturn) 1 1267 := ⟨by decide +kernel, rfl⟩
theorem dlw_1267 : DLa mLaw 1267 1 1268 := Or.inl ⟨1, by decide +kernel, rfl, rfl⟩
theorem dlw_1268 : DLa mLaw 1268 0 1269 := Or.inl ⟨0, by decide +kernel, rfl, rfl⟩
theorem dlw_1269 : DLi mLaw 1269 3 1270 := Or.inl ⟨3, by decide +kernel, rfl, rfl⟩
theorem dlw_1270 : DKi mLaw 1270 (nI 1) 1271 := Or.inl ⟨1, by decide +kernel, by decide, rfl⟩
theorem dlw_1271 : D0 mLaw 1271 (.iadd) 1 1272 := ⟨by decide +kernel, rfl⟩
theorem dlw_1272 : D0 mLaw 1272 (.iaload) 1 1273 := ⟨by decide +kernel, rfl⟩
theorem dlw_1273 : DLa mLaw 1273 0 1274 := Or.inl ⟨0, by decide +kernel, rfl, rfl⟩
theorem dlw_1274 : DLi mLaw 1274 3 1275 := Or.inl ⟨3, by decide +kernel, rfl, rfl⟩
theorem dlw_1275 : DKi mLaw 1275 (nI 2) 1276 := Or.inl ⟨2, by decide +kernel, by decide, rfl⟩
theorem dlw_1276 : D0 mLaw 1276 (.iadd) 1 1277 := ⟨by decide +kernel, rfl⟩
theorem dlw_1277 : D0 mLaw 1277 (.iaload) 1 1278 := ⟨by decide +kernel, rfl⟩
theorem dlw_1278 : DLa mLaw 1278 0 1279 := Or.inl ⟨0, by decide +kernel, rfl, rfl⟩
theorem dlw_1279 : DLi mLaw 1279 3 1280 := Or.inl ⟨3, by decide +kernel, rfl, rfl⟩
theorem dlw_1280 : DKi mLaw 1280 (nI 3) 1281 := Or.inl ⟨3, by decide +kernel, by decide, rfl⟩
theorem dlw_1281 : D0 mLaw 1281 (.iadd) 1 1282 := ⟨by decide +kernel, rfl⟩
theorem dlw_1282 : D0 mLaw 1282 (.iaload) 1 1283 := ⟨by decide +kernel, rfl⟩
theorem dlw_1283 : D0 mLaw 1283 (.invokevirtual 128) 3 1286 := ⟨by decide +kernel, rfl⟩
theorem dlw_1286 : DLa mLaw 1286 2 1287 := Or.inl ⟨2, by decide +kernel, rfl, rfl⟩
theorem dlw_1287 : DLa mLaw 1287 0 1288 := Or.inl ⟨0, by decide +kernel, rfl, rfl⟩
theorem dlw_1288 : DLi mLaw 1288 3 1289 := Or.inl ⟨3, by decide +kernel, rfl, rfl⟩
theorem dlw_1289 : DKi mLaw 1289 (nI 1) 1290 := Or.inl ⟨1, by decide +kernel, by decide, rfl⟩
theorem dlw_1290 : D0 mLaw 1290 (.iadd) 1 1291 := ⟨by decide +kernel, rfl⟩
theorem dlw_1291 : D0 mLaw 1291 (.iaload) 1 1292 := ⟨by decide +kernel, rfl⟩
theorem dlw_1292 : DLa mLaw 1292 0 1293 := Or.inl ⟨0, by decide +kernel, rfl, rfl⟩
theorem dlw_1293 : DLi mLaw 1293 3 1294 := Or.inl ⟨3, by decide +kernel, rfl, rfl⟩
theorem dlw_1294 : DKi mLaw 1294 (nI 2) 1295 := Or.inl ⟨2, by decide +kernel, by decide, rfl⟩
theorem dlw_1295 : D0 mLaw 1295 (.iadd) 1 1296 := ⟨by decide +kernel, rfl⟩
theorem dlw_1296 : D0 mLaw 1296 (.iaload) 1 1297 := ⟨by decide +kernel, rfl⟩
theorem dlw_1297 : DLa mLaw 1297 0 1298 := Or.inl ⟨0, by decide +kernel, rfl, rfl⟩
theorem dlw_1298 : DLi mLaw 1298 3 1299 := Or.inl ⟨3, by decide +kernel, rfl, rfl⟩
theorem dlw_1299 : DKi mLaw 1299 (nI 3) 1300 := Or.inl ⟨3, by decide +kernel, by decide, rfl⟩
theorem dlw_1300 : D0 mLaw 1300 (.iadd) 1 1301 := ⟨by decide +kernel, rfl⟩
theorem dlw_1301 : D0 mLaw 1301 (.iaload) 1 1302 := ⟨by decide +kernel, rfl⟩
theorem dlw_1302 : D0 mLaw 1302 (.invokevirtual 131) 3 1305 := ⟨by decide +kernel, rfl⟩
theorem dlw_1305 : DCeq mLaw 1305 1671 1308 := ⟨366, by decide +kernel, by decide, rfl⟩
theorem dlw_1308 : DKi mLaw 1308 (nI 0) 1309 := Or.inl ⟨0, by decide +kernel, by decide, rfl⟩
theorem dlw_1309 : D0 mLaw 1309 (.ireturn) 1 1310 := ⟨by decide +kernel, rfl⟩
theorem dlw_1310 : DLa mLaw 1310 1 1311 := Or.inl ⟨1, by decide +kernel, rfl, rfl⟩
theorem dlw_1311 : DLa mLaw 1311 0 1312 := Or.inl ⟨0, by decide +kernel, rfl, rfl⟩
theorem dlw_1312 : DLi mLaw 1312 3 1313 := Or.inl ⟨3, by decide +kernel, rfl, rfl⟩
theorem dlw_1313 : DKi mLaw 1313 (nI 1) 1314 := Or.inl ⟨1, by decide +kernel, by decide, rfl⟩
theorem dlw_1314 : D0 mLaw 1314 (.iadd) 1 1315 := ⟨by decide +kernel, rfl⟩
theorem dlw_1315 : D0 mLaw 1315 (.iaload) 1 1316 := ⟨by decide +kernel, rfl⟩
theorem dlw_1316 : DLa mLaw 1316 0 1317 := Or.inl ⟨0, by decide +kernel, rfl, rfl⟩
theorem dlw_1317 : DLi mLaw 1317 3 1318 := Or.inl ⟨3, by decide +kernel, rfl, rfl⟩
theorem dlw_1318 : DKi mLaw 1318 (nI 2) 1319 := Or.inl ⟨2, by decide +kernel, by decide, rfl⟩
theorem dlw_1319 : D0 mLaw 1319 (.iadd) 1 1320 := ⟨by decide +kernel, rfl⟩
theorem dlw_1320 : D0 mLaw 1320 (.iaload) 1 1321 := ⟨by decide +kernel, rfl⟩
theorem dlw_1321 : D0 mLaw 1321 (.invokevirtual 132) 3 1324 := ⟨by decide +kernel, rfl⟩
theorem dlw_1324 : DLa mLaw 1324 2 1325 := Or.inl ⟨2, by decide +kernel, rfl, rfl⟩
theorem dlw_1325 : DLa mLaw 1325 0 1326 := Or.inl ⟨0, by decide +kernel, rfl, rfl⟩
theorem dlw_1326 : DLi mLaw 1326 3 1327 := Or.inl ⟨3, by decide +kernel, rfl, rfl⟩
theorem dlw_1327 : DKi mLaw 1327 (nI 1) 1328 := Or.inl ⟨1, by decide +kernel, by decide, rfl⟩
theorem dlw_1328 : D0 mLaw 1328 (.iadd) 1 1329 := ⟨by decide +kernel, rfl⟩
theorem dlw_1329 : D0 mLaw 1329 (.iaload) 1 1330 := ⟨by decide +kernel, rfl⟩
theorem dlw_1330 : DLa mLaw 1330 0 1331 := Or.inl ⟨0, by decide +kernel, rfl, rfl⟩
theorem dlw_1331 : DLi mLaw 1331 3 1332 := Or.inl ⟨3, by decide +kernel, rfl, rfl⟩
theorem dlw_1332 : DKi mLaw 1332 (nI 2) 1333 := Or.inl ⟨2, by decide +kernel, by decide, rfl⟩
theorem dlw_1333 : D0 mLaw 1333 (.iadd) 1 1334 := ⟨by decide +kernel, rfl⟩
theorem dlw_1334 : D0 mLaw 1334 (.iaload) 1 1335 := ⟨by decide +kernel, rfl⟩
theorem dlw_1335 : D0 mLaw 1335 (.invokevirtual 135) 3 1338 := ⟨by decide +kernel, rfl⟩
theorem dlw_1338 : DCeq mLaw 1338 1671 1341 := ⟨333, by decide +kernel, by decide, rfl⟩
theorem dlw_1341 : DKi mLaw 1341 (nI 0) 1342 := Or.inl ⟨0, by decide +kernel, by decide, rfl⟩
theorem dlw_1342 : D0 mLaw 1342 (.ireturn) 1 1343 := ⟨by decide +kernel, rfl⟩
theorem dlw_1343 : DLa mLaw 1343 1 1344 := Or.inl ⟨1, by decide +kernel, rfl, rfl⟩
theorem dlw_1344 : DLa mLaw 1344 0 1345 := Or.inl ⟨0, by decide +kernel, rfl, rfl⟩
theorem dlw_1345 : DLi mLaw 1345 3 1346 := Or.inl ⟨3, by decide +kernel, rfl, rfl⟩
theorem dlw_1346 : DKi mLaw 1346 (nI 1) 1347 := Or.inl ⟨1, by decide +kernel, by decide, rfl⟩
theorem dlw_1347 : D0 mLaw 1347 (.iadd) 1 1348 := ⟨by decide +kernel, rfl⟩
theorem dlw_1348 : D0 mLaw 1348 (.iaload) 1 1349 := ⟨by decide +kernel, rfl⟩
theorem dlw_1349 : DLa mLaw 1349 0 1350 := Or.inl ⟨0, by decide +kernel, rfl, rfl⟩
theorem dlw_1350 : DLi mLaw 1350 3 1351 := Or.inl ⟨3, by decide +kernel, rfl, rfl⟩
theorem dlw_1351 : DKi mLaw 1351 (nI 2) 1352 := Or.inl ⟨2, by decide +kernel, by decide, rfl⟩
theorem dlw_1352 : D0 mLaw 1352 (.iadd) 1 1353 := ⟨by decide +kernel, rfl⟩
theorem dlw_1353 : D0 mLaw 1353 (.iaload) 1 1354 := ⟨by decide +kernel, rfl⟩
theorem dlw_1354 : D0 mLaw 1354 (.invokevirtual 136) 3 1357 := ⟨by decide +kernel, rfl⟩
theorem dlw_1357 : DLa mLaw 1357 2 1358 := Or.inl ⟨2, by decide +kernel, rfl, rfl⟩
theorem dlw_1358 : DLa mLaw 1358 0 1359 := Or.inl ⟨0, by decide +kernel, rfl, rfl⟩
theorem dlw_1359 : DLi mLaw 1359 3 1360 := Or.inl ⟨3, by decide +kernel, rfl, rfl⟩
theorem dlw_1360 : DKi mLaw 1360 (nI 1) 1361 := Or.inl ⟨1, by decide +kernel, by decide, rfl⟩
theorem dlw_1361 : D0 mLaw 1361 (.iadd) 1 1362 := ⟨by decide +kernel, rfl⟩
theorem dlw_1362 : D0 mLaw 1362 (.iaload) 1 1363 := ⟨by decide +kernel, rfl⟩
theorem dlw_1363 : DLa mLaw 1363 0 1364 := Or.inl ⟨0, by decide +kernel, rfl, rfl⟩
theorem dlw_1364 : DLi mLaw 1364 3 1365 := Or.inl ⟨3, by decide +kernel, rfl, rfl⟩
theorem dlw_1365 : DKi mLaw 1365 (nI 2) 1366 := Or.inl ⟨2, by decide +kernel, by decide, rfl⟩
theorem dlw_1366 : D0 mLaw 1366 (.iadd) 1 1367 := ⟨by decide +kernel, rfl⟩
theorem dlw_1367 : D0 mLaw 1367 (.iaload) 1 1368 := ⟨by decide +kernel, rfl⟩
theorem dlw_1368 : D0 mLaw 1368 (.invokevirtual 139) 3 1371 := ⟨by decide +kernel, rfl⟩
theorem dlw_1371 : DCeq mLaw 1371 1671 1374 := ⟨300, by decide +kernel, by decide, rfl⟩
theorem dlw_1374 : DKi mLaw 1374 (nI 0) 1375 := Or.inl ⟨0, by decide +kernel, by decide, rfl⟩
theorem dlw_1375 : D0 mLaw 1375 (.ireturn) 1 1376 := ⟨by decide +kernel, rfl⟩
theorem dlw_1376 : DLa mLaw 1376 1 1377 := Or.inl ⟨1, by decide +kernel, rfl, rfl⟩
theorem dlw_1377 : DLa mLaw 1377 0 1378 := Or.inl ⟨0, by decide +kernel, rfl, rfl⟩
theorem dlw_1378 : DLi mLaw 1378 3 1379 := Or.inl ⟨3, by decide +kernel, rfl, rfl⟩
theorem dlw_1379 : DKi mLaw 1379 (nI 1) 1380 := Or.inl ⟨1, by decide +kernel, by decide, rfl⟩
theorem dlw_1380 : D0 mLaw 1380 (.iadd) 1 1381 := ⟨by decide +kernel, rfl⟩
theorem dlw_1381 : D0 mLaw 1381 (.iaload) 1 1382 := ⟨by decide +kernel, rfl⟩
theorem dlw_1382 : DLa mLaw 1382 0 1383 := Or.inl ⟨0, by decide +kernel, rfl, rfl⟩
theorem dlw_1383 : DLi mLaw 1383 3 1384 := Or.inl ⟨3, by decide +kernel, rfl, rfl⟩
theorem dlw_1384 : DKi mLaw 1384 (nI 2) 1385 := Or.inl ⟨2, by decide +kernel, by decide, rfl⟩
theorem dlw_1385 : D0 mLaw 1385 (.iadd) 1 1386 := ⟨by decide +kernel, rfl⟩
theorem dlw_1386 : D0 mLaw 1386 (.iaload) 1 1387 := ⟨by decide +kernel, rfl⟩
theorem dlw_1387 : DLa mLaw 1387 0 1388 := Or.inl ⟨0, by decide +kernel, rfl, rfl⟩
theorem dlw_1388 : DLi mLaw 1388 3 1389 := Or.inl ⟨3, by decide +kernel, rfl, rfl⟩
theorem dlw_1389 : DKi mLaw 1389 (nI 3) 1390 := Or.inl ⟨3, by decide +kernel, by decide, rfl⟩
theorem dlw_1390 : D0 mLaw 1390 (.iadd) 1 1391 := ⟨by decide +kernel, rfl⟩
theorem dlw_1391 : D0 mLaw 1391 (.iaload) 1 1392 := ⟨by decide +kernel, rfl⟩
theorem dlw_1392 : D0 mLaw 1392 (.invokevirtual 140) 3 1395 := ⟨by decide +kernel, rfl⟩
theorem dlw_1395 : DLa mLaw 1395 2 1396 := Or.inl ⟨2, by decide +kernel, rfl, rfl⟩
theorem dlw_1396 : DLa mLaw 1396 0 1397 := Or.inl ⟨0, by decide +kernel, rfl, rfl⟩
theorem dlw_1397 : DLi mLaw 1397 3 1398 := Or.inl ⟨3, by decide +kernel, rfl, rfl⟩
theorem dlw_1398 : DKi mLaw 1398 (nI 1) 1399 := Or.inl ⟨1, by decide +kernel, by decide, rfl⟩
theorem dlw_1399 : D0 mLaw 1399 (.iadd) 1 1400 := ⟨by decide +kernel, rfl⟩
theorem dlw_1400 : D0 mLaw 1400 (.iaload) 1 1401 := ⟨by decide +kernel, rfl⟩
theorem dlw_1401 : DLa mLaw 1401 0 1402 := Or.inl ⟨0, by decide +kernel, rfl, rfl⟩
theorem dlw_1402 : DLi mLaw 1402 3 1403 := Or.inl ⟨3, by decide +kernel, rfl, rfl⟩
theorem dlw_1403 : DKi mLaw 1403 (nI 2) 1404 := Or.inl ⟨2, by decide +kernel, by decide, rfl⟩
theorem dlw_1404 : D0 mLaw 1404 (.iadd) 1 1405 := ⟨by decide +kernel, rfl⟩
theorem dlw_1405 : D0 mLaw 1405 (.iaload) 1 1406 := ⟨by decide +kernel, rfl⟩
theorem dlw_1406 : DLa mLaw 1406 0 1407 := Or.inl ⟨0, by decide +kernel, rfl, rfl⟩
theorem dlw_1407 : DLi mLaw 1407 3 1408 := Or.inl ⟨3, by decide +kernel, rfl, rfl⟩
theorem dlw_1408 : DKi mLaw 1408 (nI 3) 1409 := Or.inl ⟨3, by decide +kernel, by decide, rfl⟩
theorem dlw_1409 : D0 mLaw 1409 (.iadd) 1 1410 := ⟨by decide +kernel, rfl⟩
theorem dlw_1410 : D0 mLaw 1410 (.iaload) 1 1411 := ⟨by decide +kernel, rfl⟩
theorem dlw_1411 : D0 mLaw 1411 (.invokevirtual 143) 3 1414 := ⟨by decide +kernel, rfl⟩
theorem dlw_1414 : DCeq mLaw 1414 1671 1417 := ⟨257, by decide +kernel, by decide, rfl⟩
theorem dlw_1417 : DKi mLaw 1417 (nI 0) 1418 := Or.inl ⟨0, by decide +kernel, by decide, rfl⟩
theorem dlw_1418 : D0 mLaw 1418 (.ireturn) 1 1419 := ⟨by decide +kernel, rfl⟩
theorem dlw_1419 : DLa mLaw 1419 1 1420 := Or.inl ⟨1, by decide +kernel, rfl, rfl⟩
theorem dlw_1420 : DLa mLaw 1420 0 1421 := Or.inl ⟨0, by decide +kernel, rfl, rfl⟩
theorem dlw_1421 : DLi mLaw 1421 3 1422 := Or.inl ⟨3, by decide +kernel, rfl, rfl⟩
theorem dlw_1422 : DKi mLaw 1422 (nI 1) 1423 := Or.inl ⟨1, by decide +kernel, by decide, rfl⟩
theorem dlw_1423 : D0 mLaw 1423 (.iadd) 1 1424 := ⟨by decide +kernel, rfl⟩
theorem dlw_1424 : D0 mLaw 1424 (.iaload) 1 1425 := ⟨by decide +kernel, rfl⟩
theorem dlw_1425 : D0 mLaw 1425 (.invokevirtual 144) 3 1428 := ⟨by decide +kernel, rfl⟩
theorem dlw_1428 : DLa mLaw 1428 2 1429 := Or.inl ⟨2, by decide +kernel, rfl, rfl⟩
theorem dlw_1429 : DLa mLaw 1429 0 1430 := Or.inl ⟨0, by decide +kernel, rfl, rfl⟩
theorem dlw_1430 : DLi mLaw 1430 3 1431 := Or.inl ⟨3, by decide +kernel, rfl, rfl⟩
theorem dlw_1431 : DKi mLaw 1431 (nI 1) 1432 := Or.inl ⟨1, by decide +kernel, by decide, rfl⟩
theorem dlw_1432 : D0 mLaw 1432 (.iadd) 1 1433 := ⟨by decide +kernel, rfl⟩
theorem dlw_1433 : D0 mLaw 1433 (.iaload) 1 1434 := ⟨by decide +kernel, rfl⟩
theorem dlw_1434 : D0 mLaw 1434 (.invokevirtual 147) 3 1437 := ⟨by decide +kernel, rfl⟩
theorem dlw_1437 : DCeq mLaw 1437 1671 1440 := ⟨234, by decide +kernel, by decide, rfl⟩
theorem dlw_1440 : DKi mLaw 1440 (nI 0) 1441 := Or.inl ⟨0, by decide +kernel, by decide, rfl⟩
theorem dlw_1441 : D0 mLaw 1441 (.ireturn) 1 1442 := ⟨by decide +kernel, rfl⟩
theorem dlw_1442 : DLa mLaw 1442 1 1443 := Or.inl ⟨1, by decide +kernel, rfl, rfl⟩
theorem dlw_1443 : DLa mLaw 1443 0 1444 := Or.inl ⟨0, by decide +kernel, rfl, rfl⟩
theorem dlw_1444 : DLi mLaw 1444 3 1445 := Or.inl ⟨3, by decide +kernel, rfl, rfl⟩
theorem dlw_1445 : DKi mLaw 1445 (nI 1) 1446 := Or.inl ⟨1, by decide +kernel, by decide, rfl⟩
theorem dlw_1446 : D0 mLaw 1446 (.iadd) 1 1447 := ⟨by decide +kernel, rfl⟩
theorem dlw_1447 : D0 mLaw 1447 (.iaload) 1 1448 := ⟨by decide +kernel, rfl⟩
theorem dlw_1448 : DLa mLaw 1448 0 1449 := Or.inl ⟨0, by decide +kernel, rfl, rfl⟩
theorem dlw_1449 : DLi mLaw 1449 3 1450 := Or.inl ⟨3, by decide +kernel, rfl, rfl⟩
theorem dlw_1450 : DKi mLaw 1450 (nI 2) 1451 := Or.inl ⟨2, by decide +kernel, by decide, rfl⟩
theorem dlw_1451 : D0 mLaw 1451 (.iadd) 1 1452 := ⟨by decide +kernel, rfl⟩
theorem dlw_1452 : D0 mLaw 1452 (.iaload) 1 1453 := ⟨by decide +kernel, rfl⟩
theorem dlw_1453 : DLa mLaw 1453 0 1454 := Or.inl ⟨0, by decide +kernel, rfl, rfl⟩
theorem dlw_1454 : DLi mLaw 1454 3 1455 := Or.inl ⟨3, by decide +kernel, rfl, rfl⟩
theorem dlw_1455 : DKi mLaw 1455 (nI 3) 1456 := Or.inl ⟨3, by decide +kernel, by decide, rfl⟩
theorem dlw_1456 : D0 mLaw 1456 (.iadd) 1 1457 := ⟨by decide +kernel, rfl⟩
theorem dlw_1457 : D0 mLaw 1457 (.iaload) 1 1458 := ⟨by decide +kernel, rfl⟩
theorem dlw_1458 : DLa mLaw 1458 0 1459 := Or.inl ⟨0, by decide +kernel, rfl, rfl⟩
theorem dlw_1459 : DLi mLaw 1459 3 1460 := Or.inl ⟨3, by decide +kernel, rfl, rfl⟩
theorem dlw_1460 : DKi mLaw 1460 (nI 4) 1461 := Or.inl ⟨4, by decide +kernel, by decide, rfl⟩
theorem dlw_1461 : D0 mLaw 1461 (.iadd) 1 1462 := ⟨by decide +kernel, rfl⟩
theorem dlw_1462 : D0 mLaw 1462 (.iaload) 1 1463 := ⟨by decide +kernel, rfl⟩
theorem dlw_1463 : D0 mLaw 1463 (.invokevirtual 148) 3 1466 := ⟨by decide +kernel, rfl⟩
theorem dlw_1466 : DLa mLaw 1466 2 1467 := Or.inl ⟨2, by decide +kernel, rfl, rfl⟩
theorem dlw_1467 : DLa mLaw 1467 0 1468 := Or.inl ⟨0, by decide +kernel, rfl, rfl⟩
theorem dlw_1468 : DLi mLaw 1468 3 1469 := Or.inl ⟨3, by decide +kernel, rfl, rfl⟩
theorem dlw_1469 : DKi mLaw 1469 (nI 1) 1470 := Or.inl ⟨1, by decide +kernel, by decide, rfl⟩
theorem dlw_1470 : D0 mLaw 1470 (.iadd) 1 1471 := ⟨by decide +kernel, rfl⟩
theorem dlw_1471 : D0 mLaw 1471 (.iaload) 1 1472 := ⟨by decide +kernel, rfl⟩
theorem dlw_1472 : DLa mLaw 1472 0 1473 := Or.inl ⟨0, by decide +kernel, rfl, rfl⟩
theorem dlw_1473 : DLi mLaw 1473 3 1474 := Or.inl ⟨3, by decide +kernel, rfl, rfl⟩
theorem dlw_1474 : DKi mLaw 1474 (nI 2) 1475 := Or.inl ⟨2, by decide +kernel, by decide, rfl⟩
theorem dlw_1475 : D0 mLaw 1475 (.iadd) 1 1476 := ⟨by decide +kernel, rfl⟩
theorem dlw_1476 : D0 mLaw 1476 (.iaload) 1 1477 := ⟨by decide +kernel, rfl⟩
theorem dlw_1477 : DLa mLaw 1477 0 1478 := Or.inl ⟨0, by decide +kernel, rfl, rfl⟩
theorem dlw_1478 : DLi mLaw 1478 3 1479 := Or.inl ⟨3, by decide +kernel, rfl, rfl⟩
theorem dlw_1479 : DKi mLaw 1479 (nI 3) 1480 := Or.inl ⟨3, by decide +kernel, by decide, rfl⟩
theorem dlw_1480 : D0 mLaw 1480 (.iadd) 1 1481 := ⟨by decide +kernel, rfl⟩
theorem dlw_1481 : D0 mLaw 1481 (.iaload) 1 1482 := ⟨by decide +kernel, rfl⟩
theorem dlw_1482 : DLa mLaw 1482 0 1483 := Or.inl ⟨0, by decide +kernel, rfl, rfl⟩
theorem dlw_1483 : DLi mLaw 1483 3 1484 := Or.inl ⟨3, by decide +kernel, rfl, rfl⟩
theorem dlw_1484 : DKi mLaw 1484 (nI 4) 1485 := Or.inl ⟨4, by decide +kernel, by decide, rfl⟩
theorem dlw_1485 : D0 mLaw 1485 (.iadd) 1 1486 := ⟨by decide +kernel, rfl⟩
theorem dlw_1486 : D0 mLaw 1486 (.iaload) 1 1487 := ⟨by decide +kernel, rfl⟩
theorem dlw_1487 : D0 mLaw 1487 (.invokevirtual 151) 3 1490 := ⟨by decide +kernel, rfl⟩
theorem dlw_1490 : DCeq mLaw 1490 1671 1493 := ⟨181, by decide +kernel, by decide, rfl⟩
theorem dlw_1493 : DKi mLaw 1493 (nI 0) 1494 := Or.inl ⟨0, by decide +kernel, by decide, rfl⟩
theorem dlw_1494 : D0 mLaw 1494 (.ireturn) 1 1495 := ⟨by decide +kernel, rfl⟩
theorem dlw_1495 : DLa mLaw 1495 1 1496 := Or.inl ⟨1, by decide +kernel, rfl, rfl⟩
theorem dlw_1496 : DLa mLaw 1496 0 1497 := Or.inl ⟨0, by decide +kernel, rfl, rfl⟩
theorem dlw_1497 : DLi mLaw 1497 3 1498 := Or.inl ⟨3, by decide +kernel, rfl, rfl⟩
theorem dlw_1498 : DKi mLaw 1498 (nI 1) 1499 := Or.inl ⟨1, by decide +kernel, by decide, rfl⟩
theorem dlw_1499 : D0 mLaw 1499 (.iadd) 1 1500 := ⟨by decide +kernel, rfl⟩
theorem dlw_1500 : D0 mLaw 1500 (.iaload) 1 1501 := ⟨by decide +kernel, rfl⟩
theorem dlw_1501 : DLa mLaw 1501 0 1502 := Or.inl ⟨0, by decide +kernel, rfl, rfl⟩
theorem dlw_1502 : DLi mLaw 1502 3 1503 := Or.inl ⟨3, by decide +kernel, rfl, rfl⟩
theorem dlw_1503 : DKi mLaw 1503 (nI 2) 1504 := Or.inl ⟨2, by decide +kernel, by decide, rfl⟩
theorem dlw_1504 : D0 mLaw 1504 (.iadd) 1 1505 := ⟨by decide +kernel, rfl⟩
theorem dlw_1505 : D0 mLaw 1505 (.iaload) 1 1506 := ⟨by decide +kernel, rfl⟩
theorem dlw_1506 : DLa mLaw 1506 0 1507 := Or.inl ⟨0, by decide +kernel, rfl, rfl⟩
theorem dlw_1507 : DLi mLaw 1507 3 1508 := Or.inl ⟨3, by decide +kernel, rfl, rfl⟩
theorem dlw_1508 : DKi mLaw 1508 (nI 3) 1509 := Or.inl ⟨3, by decide +kernel, by decide, rfl⟩
theorem dlw_1509 : D0 mLaw 1509 (.iadd) 1 1510 := ⟨by decide +kernel, rfl⟩
theorem dlw_1510 : D0 mLaw 1510 (.iaload) 1 1511 := ⟨by decide +kernel, rfl⟩
theorem dlw_1511 : D0 mLaw 1511 (.invokevirtual 152) 3 1514 := ⟨by decide +kernel, rfl⟩
theorem dlw_1514 : DLa mLaw 1514 2 1515 := Or.inl ⟨2, by decide +kernel, rfl, rfl⟩
theorem dlw_1515 : DLa mLaw 1515 0 1516 := Or.inl ⟨0, by decide +kernel, rfl, rfl⟩
theorem dlw_1516 : DLi mLaw 1516 3 1517 := Or.inl ⟨3, by decide +kernel, rfl, rfl⟩
theorem dlw_1517 : DKi mLaw 1517 (nI 1) 1518 := Or.inl ⟨1, by decide +kernel, by decide, rfl⟩
theorem dlw_1518 : D0 mLaw 1518 (.iadd) 1 1519 := ⟨by decide +kernel, rfl⟩
theorem dlw_1519 : D0 mLaw 1519 (.iaload) 1 1520 := ⟨by decide +kernel, rfl⟩
theorem dlw_1520 : DLa mLaw 1520 0 1521 := Or.inl ⟨0, by decide +kernel, rfl, rfl⟩
theorem dlw_1521 : DLi mLaw 1521 3 1522 := Or.inl ⟨3, by decide +kernel, rfl, rfl⟩
theorem dlw_1522 : DKi mLaw 1522 (nI 2) 1523 := Or.inl ⟨2, by decide +kernel, by decide, rfl⟩
theorem dlw_1523 : D0 mLaw 1523 (.iadd) 1 1524 := ⟨by decide +kernel, rfl⟩
theorem dlw_1524 : D0 mLaw 1524 (.iaload) 1 1525 := ⟨by decide +kernel, rfl⟩
theorem dlw_1525 : DLa mLaw 1525 0 1526 := Or.inl ⟨0, by decide +kernel, rfl, rfl⟩
theorem dlw_1526 : DLi mLaw 1526 3 1527 := Or.inl ⟨3, by decide +kernel, rfl, rfl⟩
theorem dlw_1527 : DKi mLaw 1527 (nI 3) 1528 := Or.inl ⟨3, by decide +kernel, by decide, rfl⟩
theorem dlw_1528 : D0 mLaw 1528 (.iadd) 1 1529 := ⟨by decide +kernel, rfl⟩
theorem dlw_1529 : D0 mLaw 1529 (.iaload) 1 1530 := ⟨by decide +kernel, rfl⟩
theorem dlw_1530 : D0 mLaw 1530 (.invokevirtual 155) 3 1533 := ⟨by decide +kernel, rfl⟩
theorem dlw_1533 : DCeq mLaw 1533 1671 1536 := ⟨138, by decide +kernel, by decide, rfl⟩
theorem dlw_1536 : DKi mLaw 1536 (nI 0) 1537 := Or.inl ⟨0, by decide +kernel, by decide, rfl⟩
theorem dlw_1537 : D0 mLaw 1537 (.ireturn) 1 1538 := ⟨by decide +kernel, rfl⟩
theorem dlw_1538 : DLa mLaw 1538 1 1539 := Or.inl ⟨1, by decide +kernel, rfl, rfl⟩
theorem dlw_1539 : DLa mLaw 1539 0 1540 := Or.inl ⟨0, by decide +kernel, rfl, rfl⟩
theorem dlw_1540 : DLi mLaw 1540 3 1541 := Or.inl ⟨3, by decide +kernel, rfl, rfl⟩
theorem dlw_1541 : DKi mLaw 1541 (nI 1) 1542 := Or.inl ⟨1, by decide +kernel, by decide, rfl⟩
theorem dlw_1542 : D0 mLaw 1542 (.iadd) 1 1543 := ⟨by decide +kernel, rfl⟩
theorem dlw_1543 : D0 mLaw 1543 (.iaload) 1 1544 := ⟨by decide +kernel, rfl⟩
theorem dlw_1544 : DLa mLaw 1544 0 1545 := Or.inl ⟨0, by decide +kernel, rfl, rfl⟩
theorem dlw_1545 : DLi mLaw 1545 3 1546 := Or.inl ⟨3, by decide +kernel, rfl, rfl⟩
theorem dlw_1546 : DKi mLaw 1546 (nI 2) 1547 := Or.inl ⟨2, by decide +kernel, by decide, rfl⟩
theorem dlw_1547 : D0 mLaw 1547 (.iadd) 1 1548 := ⟨by decide +kernel, rfl⟩
theorem dlw_1548 : D0 mLaw 1548 (.iaload) 1 1549 := ⟨by decide +kernel, rfl⟩
theorem dlw_1549 : DLa mLaw 1549 0 1550 := Or.inl ⟨0, by decide +kernel, rfl, rfl⟩
theorem dlw_1550 : DLi mLaw 1550 3 1551 := Or.inl ⟨3, by decide +kernel, rfl, rfl⟩
theorem dlw_1551 : DKi mLaw 1551 (nI 3) 1552 := Or.inl ⟨3, by decide +kernel, by decide, rfl⟩
theorem dlw_1552 : D0 mLaw 1552 (.iadd) 1 1553 := ⟨by decide +kernel, rfl⟩
theorem dlw_1553 : D0 mLaw 1553 (.iaload) 1 1554 := ⟨by decide +kernel, rfl⟩
theorem dlw_1554 : DLa mLaw 1554 0 1555 := Or.inl ⟨0, by decide +kernel, rfl, rfl⟩
theorem dlw_1555 : DLi mLaw 1555 3 1556 := Or.inl ⟨3, by decide +kernel, rfl, rfl⟩
theorem dlw_1556 : DKi mLaw 1556 (nI 4) 1557 := Or.inl ⟨4, by decide +kernel, by decide, rfl⟩
theorem dlw_1557 : D0 mLaw 1557 (.iadd) 1 1558 := ⟨by decide +kernel, rfl⟩
theorem dlw_1558 : D0 mLaw 1558 (.iaload) 1 1559 := ⟨by decide +kernel, rfl⟩
theorem dlw_1559 : DLa mLaw 1559 0 1560 := Or.inl ⟨0, by decide +kernel, rfl, rfl⟩
theorem dlw_1560 : DLi mLaw 1560 3 1561 := Or.inl ⟨3, by decide +kernel, rfl, rfl⟩
theorem dlw_1561 : DKi mLaw 1561 (nI 5) 1562 := Or.inl ⟨5, by decide +kernel, by decide, rfl⟩
theorem dlw_1562 : D0 mLaw 1562 (.iadd) 1 1563 := ⟨by decide +kernel, rfl⟩
theorem dlw_1563 : D0 mLaw 1563 (.iaload) 1 1564 := ⟨by decide +kernel, rfl⟩
theorem dlw_1564 : D0 mLaw 1564 (.invokevirtual 156) 3 1567 := ⟨by decide +kernel, rfl⟩
theorem dlw_1567 : DLa mLaw 1567 2 1568 := Or.inl ⟨2, by decide +kernel, rfl, rfl⟩
theorem dlw_1568 : DLa mLaw 1568 0 1569 := Or.inl ⟨0, by decide +kernel, rfl, rfl⟩
theorem dlw_1569 : DLi mLaw 1569 3 1570 := Or.inl ⟨3, by decide +kernel, rfl, rfl⟩
theorem dlw_1570 : DKi mLaw 1570 (nI 1) 1571 := Or.inl ⟨1, by decide +kernel, by decide, rfl⟩
theorem dlw_1571 : D0 mLaw 1571 (.iadd) 1 1572 := ⟨by decide +kernel, rfl⟩
theorem dlw_1572 : D0 mLaw 1572 (.iaload) 1 1573 := ⟨by decide +kernel, rfl⟩
theorem dlw_1573 : DLa mLaw 1573 0 1574 := Or.inl ⟨0, by decide +kernel, rfl, rfl⟩
theorem dlw_1574 : DLi mLaw 1574 3 1575 := Or.inl ⟨3, by decide +kernel, rfl, rfl⟩
theorem dlw_1575 : DKi mLaw 1575 (nI 2) 1576 := Or.inl ⟨2, by decide +kernel, by decide, rfl⟩
theorem dlw_1576 : D0 mLaw 1576 (.iadd) 1 1577 := ⟨by decide +kernel, rfl⟩
theorem dlw_1577 : D0 mLaw 1577 (.iaload) 1 1578 := ⟨by decide +kernel, rfl⟩
theorem dlw_1578 : DLa mLaw 1578 0 1579 := Or.inl ⟨0, by decide +kernel, rfl, rfl⟩
theorem dlw_1579 : DLi mLaw 1579 3 1580 := Or.inl ⟨3, by decide +kernel, rfl, rfl⟩
theorem dlw_1580 : DKi mLaw 1580 (nI 3) 1581 := Or.inl ⟨3, by decide +kernel, by decide, rfl⟩
theorem dlw_1581 : D0 mLaw 1581 (.iadd) 1 1582 := ⟨by decide +kernel, rfl⟩
theorem dlw_1582 : D0 mLaw 1582 (.iaload) 1 1583 := ⟨by decide +kernel, rfl⟩
theorem dlw_1583 : DLa mLaw 1583 0 1584 := Or.inl ⟨0, by decide +kernel, rfl, rfl⟩
theorem dlw_1584 : DLi mLaw 1584 3 1585 := Or.inl ⟨3, by decide +kernel, rfl, rfl⟩
theorem dlw_1585 : DKi mLaw 1585 (nI 4) 1586 := Or.inl ⟨4, by decide +kernel, by decide, rfl⟩
theorem dlw_1586 : D0 mLaw 1586 (.iadd) 1 1587 := ⟨by decide +kernel, rfl⟩
theorem dlw_1587 : D0 mLaw 1587 (.iaload) 1 1588 := ⟨by decide +kernel, rfl⟩
theorem dlw_1588 : DLa mLaw 1588 0 1589 := Or.inl ⟨0, by decide +kernel, rfl, rfl⟩
theorem dlw_1589 : DLi mLaw 1589 3 1590 := Or.inl ⟨3, by decide +kernel, rfl, rfl⟩
theorem dlw_1590 : DKi mLaw 1590 (nI 5) 1591 := Or.inl ⟨5, by decide +kernel, by decide, rfl⟩
theorem dlw_1591 : D0 mLaw 1591 (.iadd) 1 1592 := ⟨by decide +kernel, rfl⟩
theorem dlw_1592 : D0 mLaw 1592 (.iaload) 1 1593 := ⟨by decide +kernel, rfl⟩
theorem dlw_1593 : D0 mLaw 1593 (.invokevirtual 160) 3 1596 := ⟨by decide +kernel, rfl⟩
theorem dlw_1596 : DCeq mLaw 1596 1671 1599 := ⟨75, by decide +kernel, by decide, rfl⟩
theorem dlw_1599 : DKi mLaw 1599 (nI 0) 1600 := Or.inl ⟨0, by decide +kernel, by decide, rfl⟩
theorem dlw_1600 : D0 mLaw 1600 (.ireturn) 1 1601 := ⟨by decide +kernel, rfl⟩
theorem dlw_1601 : DLa mLaw 1601 1 1602 := Or.inl ⟨1, by decide +kernel, rfl, rfl⟩
theorem dlw_1602 : DLa mLaw 1602 0 1603 := Or.inl ⟨0, by decide +kernel, rfl, rfl⟩
theorem dlw_1603 : DLi mLaw 1603 3 1604 := Or.inl ⟨3, by decide +kernel, rfl, rfl⟩
theorem dlw_1604 : DKi mLaw 1604 (nI 1) 1605 := Or.inl ⟨1, by decide +kernel, by decide, rfl⟩
theorem dlw_1605 : D0 mLaw 1605 (.iadd) 1 1606 := ⟨by decide +kernel, rfl⟩
theorem dlw_1606 : D0 mLaw 1606 (.iaload) 1 1607 := ⟨by decide +kernel, rfl⟩
theorem dlw_1607 : DLa mLaw 1607 0 1608 := Or.inl ⟨0, by decide +kernel, rfl, rfl⟩
theorem dlw_1608 : DLi mLaw 1608 3 1609 := Or.inl ⟨3, by decide +kernel, rfl, rfl⟩
theorem dlw_1609 : DKi mLaw 1609 (nI 2) 1610 := Or.inl ⟨2, by decide +kernel, by decide, rfl⟩
theorem dlw_1610 : D0 mLaw 1610 (.iadd) 1 1611 := ⟨by decide +kernel, rfl⟩
theorem dlw_1611 : D0 mLaw 1611 (.iaload) 1 1612 := ⟨by decide +kernel, rfl⟩
theorem dlw_1612 : D0 mLaw 1612 (.invokevirtual 161) 3 1615 := ⟨by decide +kernel, rfl⟩
theorem dlw_1615 : DLa mLaw 1615 2 1616 := Or.inl ⟨2, by decide +kernel, rfl, rfl⟩
theorem dlw_1616 : DLa mLaw 1616 0 1617 := Or.inl ⟨0, by decide +kernel, rfl, rfl⟩
theorem dlw_1617 : DLi mLaw 1617 3 1618 := Or.inl ⟨3, by decide +kernel, rfl, rfl⟩
theorem dlw_1618 : DKi mLaw 1618 (nI 1) 1619 := Or.inl ⟨1, by decide +kernel, by decide, rfl⟩
theorem dlw_1619 : D0 mLaw 1619 (.iadd) 1 1620 := ⟨by decide +kernel, rfl⟩
theorem dlw_1620 : D0 mLaw 1620 (.iaload) 1 1621 := ⟨by decide +kernel, rfl⟩
theorem dlw_1621 : DLa mLaw 1621 0 1622 := Or.inl ⟨0, by decide +kernel, rfl, rfl⟩
theorem dlw_1622 : DLi mLaw 1622 3 1623 := Or.inl ⟨3, by decide +kernel, rfl, rfl⟩
theorem dlw_1623 : DKi mLaw 1623 (nI 2) 1624 := Or.inl ⟨2, by decide +kernel, by decide, rfl⟩
theorem dlw_1624 : D0 mLaw 1624 (.iadd) 1 1625 := ⟨by decide +kernel, rfl⟩
theorem dlw_1625 : D0 mLaw 1625 (.iaload) 1 1626 := ⟨by decide +kernel, rfl⟩
theorem dlw_1626 : D0 mLaw 1626 (.invokevirtual 164) 3 1629 := ⟨by decide +kernel, rfl⟩
theorem dlw_1629 : DCeq mLaw 1629 1671 1632 := ⟨42, by decide +kernel, by decide, rfl⟩
theorem dlw_1632 : DKi mLaw 1632 (nI 0) 1633 := Or.inl ⟨0, by decide +kernel, by decide, rfl⟩
theorem dlw_1633 : D0 mLaw 1633 (.ireturn) 1 1634 := ⟨by decide +kernel, rfl⟩
theorem dlw_1634 : DLa mLaw 1634 1 1635 := Or.inl ⟨1, by decide +kernel, rfl, rfl⟩
theorem dlw_1635 : DLa mLaw 1635 0 1636 := Or.inl ⟨0, by decide +kernel, rfl, rfl⟩
theorem dlw_1636 : DLi mLaw 1636 3 1637 := Or.inl ⟨3, by decide +kernel, rfl, rfl⟩
theorem dlw_1637 : DKi mLaw 1637 (nI 1) 1638 := Or.inl ⟨1, by decide +kernel, by decide, rfl⟩
theorem dlw_1638 : D0 mLaw 1638 (.iadd) 1 1639 := ⟨by decide +kernel, rfl⟩
theorem dlw_1639 : D0 mLaw 1639 (.iaload) 1 1640 := ⟨by decide +kernel, rfl⟩
theorem dlw_1640 : D0 mLaw 1640 (.invokevirtual 165) 3 1643 := ⟨by decide +kernel, rfl⟩
theorem dlw_1643 : DLa mLaw 1643 2 1644 := Or.inl ⟨2, by decide +kernel, rfl, rfl⟩
theorem dlw_1644 : DLa mLaw 1644 0 1645 := Or.inl ⟨0, by decide +kernel, rfl, rfl⟩
theorem dlw_1645 : DLi mLaw 1645 3 1646 := Or.inl ⟨3, by decide +kernel, rfl, rfl⟩
theorem dlw_1646 : DKi mLaw 1646 (nI 1) 1647 := Or.inl ⟨1, by decide +kernel, by decide, rfl⟩
theorem dlw_1647 : D0 mLaw 1647 (.iadd) 1 1648 := ⟨by decide +kernel, rfl⟩
theorem dlw_1648 : D0 mLaw 1648 (.iaload) 1 1649 := ⟨by decide +kernel, rfl⟩
theorem dlw_1649 : D0 mLaw 1649 (.invokevirtual 168) 3 1652 := ⟨by decide +kernel, rfl⟩
theorem dlw_1652 : DCeq mLaw 1652 1671 1655 := ⟨19, by decide +kernel, by decide, rfl⟩
theorem dlw_1655 : DKi mLaw 1655 (nI 0) 1656 := Or.inl ⟨0, by decide +kernel, by decide, rfl⟩
theorem dlw_1656 : D0 mLaw 1656 (.ireturn) 1 1657 := ⟨by decide +kernel, rfl⟩
theorem dlw_1657 : DLa mLaw 1657 1 1658 := Or.inl ⟨1, by decide +kernel, rfl, rfl⟩
theorem dlw_1658 : D0 mLaw 1658 (.invokevirtual 169) 3 1661 := ⟨by decide +kernel, rfl⟩
theorem dlw_1661 : DLa mLaw 1661 2 1662 := Or.inl ⟨2, by decide +kernel, rfl, rfl⟩
theorem dlw_1662 : D0 mLaw 1662 (.invokevirtual 173) 3 1665 := ⟨by decide +kernel, rfl⟩
theorem dlw_1665 : D0 mLaw 1665 (.lcmp) 1 1666 := ⟨by decide +kernel, rfl⟩
theorem dlw_1666 : DFeq mLaw 1666 1671 1669 := ⟨5, by decide +kernel, by decide, rfl⟩
theorem dlw_1669 : DKi mLaw 1669 (nI 0) 1670 := Or.inl ⟨0, by decide +kernel, by decide, rfl⟩
theorem dlw_1670 : D0 mLaw 1670 (.ireturn) 1 1671 := ⟨by decide +kernel, rfl⟩
theorem dlw_1671 : DIn mLaw 1671 3 (nI 8) 1674 := ⟨by decide, 8, by decide +kernel, by decide, rfl⟩
theorem dlw_1674 : DG mLaw 1674 18 := ⟨(-1656), by decide +kernel, by decide⟩
theorem dlw_1677 : DKi mLaw 1677 (nI 1) 1678 := Or.inl ⟨1, by decide +kernel, by decide, rfl⟩
theorem dlw_1678 : D0 mLaw 1678 (.ireturn) 1 1679 := ⟨by decide +kernel, rfl⟩
