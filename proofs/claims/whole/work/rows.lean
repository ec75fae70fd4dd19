section
-- ===== PART A: goes FIRST, ahead of the names: the tables' words, and 'selects' of the private methods out of them =====
/-- a private method of a class that the tables say can be made, by its rows of tables_1 -/
def lw_okq (q : MethodName × Nat) : Prop := (q.1.cls ≠ "java/lang/invoke/MethodHandle" ∧ q.1.cls ≠ "java/lang/invoke/VarHandle") ∧ Cond.instantiable q.1.cls q.2 ∈ tables_1 ∧ Cond.privateMethod q.1 ∈ tables_1 ∧ Cond.instanceMethod q.1 ∈ tables_1
theorem lw_p0 : lw_okq (⟨"TurningVillage$Land", "interpret", "()V"⟩, 11) := ⟨⟨by decide +kernel, by decide +kernel⟩, List.mem_of_getElem? (i := 23) (by decide +kernel), List.mem_of_getElem? (i := 281) (by decide +kernel), List.mem_of_getElem? (i := 282) (by decide +kernel)⟩
theorem lw_p1 : lw_okq (⟨"TurningVillage$Land", "forget", "()V"⟩, 11) := ⟨⟨by decide +kernel, by decide +kernel⟩, List.mem_of_getElem? (i := 23) (by decide +kernel), List.mem_of_getElem? (i := 285) (by decide +kernel), List.mem_of_getElem? (i := 286) (by decide +kernel)⟩
theorem lw_p2 : lw_okq (⟨"TurningVillage$Land", "takeSigns", "()I"⟩, 11) := ⟨⟨by decide +kernel, by decide +kernel⟩, List.mem_of_getElem? (i := 23) (by decide +kernel), List.mem_of_getElem? (i := 292) (by decide +kernel), List.mem_of_getElem? (i := 293) (by decide +kernel)⟩
theorem lw_p3 : lw_okq (⟨"TurningVillage$Land", "signAt", "(I)I"⟩, 11) := ⟨⟨by decide +kernel, by decide +kernel⟩, List.mem_of_getElem? (i := 23) (by decide +kernel), List.mem_of_getElem? (i := 296) (by decide +kernel), List.mem_of_getElem? (i := 297) (by decide +kernel)⟩
theorem lw_p4 : lw_okq (⟨"TurningVillage$Land", "takeParts", "()I"⟩, 11) := ⟨⟨by decide +kernel, by decide +kernel⟩, List.mem_of_getElem? (i := 23) (by decide +kernel), List.mem_of_getElem? (i := 303) (by decide +kernel), List.mem_of_getElem? (i := 304) (by decide +kernel)⟩
theorem lw_p5 : lw_okq (⟨"TurningVillage$Land", "takePath", "(I)I"⟩, 11) := ⟨⟨by decide +kernel, by decide +kernel⟩, List.mem_of_getElem? (i := 23) (by decide +kernel), List.mem_of_getElem? (i := 307) (by decide +kernel), List.mem_of_getElem? (i := 308) (by decide +kernel)⟩
theorem lw_p6 : lw_okq (⟨"TurningVillage$Land", "figureAt", "(I)I"⟩, 11) := ⟨⟨by decide +kernel, by decide +kernel⟩, List.mem_of_getElem? (i := 23) (by decide +kernel), List.mem_of_getElem? (i := 311) (by decide +kernel), List.mem_of_getElem? (i := 312) (by decide +kernel)⟩
theorem lw_p7 : lw_okq (⟨"TurningVillage$Land", "takeBridge", "(I)I"⟩, 11) := ⟨⟨by decide +kernel, by decide +kernel⟩, List.mem_of_getElem? (i := 23) (by decide +kernel), List.mem_of_getElem? (i := 316) (by decide +kernel), List.mem_of_getElem? (i := 317) (by decide +kernel)⟩
theorem lw_p8 : lw_okq (⟨"TurningVillage$Gales", "counts", "(I)Z"⟩, 12) := ⟨⟨by decide +kernel, by decide +kernel⟩, List.mem_of_getElem? (i := 76) (by decide +kernel), List.mem_of_getElem? (i := 368) (by decide +kernel), List.mem_of_getElem? (i := 369) (by decide +kernel)⟩
theorem lw_p9 : lw_okq (⟨"TurningVillage", "found", "(I)I"⟩, 9) := ⟨⟨by decide +kernel, by decide +kernel⟩, List.mem_of_getElem? (i := 15) (by decide +kernel), List.mem_of_getElem? (i := 379) (by decide +kernel), List.mem_of_getElem? (i := 380) (by decide +kernel)⟩
theorem lw_p10 : lw_okq (⟨"TurningVillage", "daysWith", "(II)I"⟩, 9) := ⟨⟨by decide +kernel, by decide +kernel⟩, List.mem_of_getElem? (i := 15) (by decide +kernel), List.mem_of_getElem? (i := 431) (by decide +kernel), List.mem_of_getElem? (i := 432) (by decide +kernel)⟩
theorem lw_p11 : lw_okq (⟨"TurningVillage", "walkTo", "(III)I"⟩, 9) := ⟨⟨by decide +kernel, by decide +kernel⟩, List.mem_of_getElem? (i := 15) (by decide +kernel), List.mem_of_getElem? (i := 485) (by decide +kernel), List.mem_of_getElem? (i := 486) (by decide +kernel)⟩
theorem lw_p12 : lw_okq (⟨"TurningVillage$Walker", "join", "(II)V"⟩, 2) := ⟨⟨by decide +kernel, by decide +kernel⟩, List.mem_of_getElem? (i := 142) (by decide +kernel), List.mem_of_getElem? (i := 501) (by decide +kernel), List.mem_of_getElem? (i := 502) (by decide +kernel)⟩
theorem lw_p13 : lw_okq (⟨"TurningVillage", "reckonJoys", "(II)V"⟩, 9) := ⟨⟨by decide +kernel, by decide +kernel⟩, List.mem_of_getElem? (i := 15) (by decide +kernel), List.mem_of_getElem? (i := 547) (by decide +kernel), List.mem_of_getElem? (i := 548) (by decide +kernel)⟩
theorem lw_p14 : lw_okq (⟨"TurningVillage$Tenants", "changeFirstPair", "()Z"⟩, 5) := ⟨⟨by decide +kernel, by decide +kernel⟩, List.mem_of_getElem? (i := 155) (by decide +kernel), List.mem_of_getElem? (i := 560) (by decide +kernel), List.mem_of_getElem? (i := 561) (by decide +kernel)⟩
theorem lw_p15 : lw_okq (⟨"TurningVillage$Tenants", "wouldChange", "(II)Z"⟩, 5) := ⟨⟨by decide +kernel, by decide +kernel⟩, List.mem_of_getElem? (i := 155) (by decide +kernel), List.mem_of_getElem? (i := 564) (by decide +kernel), List.mem_of_getElem? (i := 565) (by decide +kernel)⟩
def lw_privs_1 : List (MethodName × Nat) := [(⟨"TurningVillage$Land", "interpret", "()V"⟩, 11), (⟨"TurningVillage$Land", "forget", "()V"⟩, 11), (⟨"TurningVillage$Land", "takeSigns", "()I"⟩, 11), (⟨"TurningVillage$Land", "signAt", "(I)I"⟩, 11), (⟨"TurningVillage$Land", "takeParts", "()I"⟩, 11), (⟨"TurningVillage$Land", "takePath", "(I)I"⟩, 11), (⟨"TurningVillage$Land", "figureAt", "(I)I"⟩, 11), (⟨"TurningVillage$Land", "takeBridge", "(I)I"⟩, 11), (⟨"TurningVillage$Gales", "counts", "(I)Z"⟩, 12), (⟨"TurningVillage", "found", "(I)I"⟩, 9), (⟨"TurningVillage", "daysWith", "(II)I"⟩, 9), (⟨"TurningVillage", "walkTo", "(III)I"⟩, 9), (⟨"TurningVillage$Walker", "join", "(II)V"⟩, 2), (⟨"TurningVillage", "reckonJoys", "(II)V"⟩, 9), (⟨"TurningVillage$Tenants", "changeFirstPair", "()Z"⟩, 5), (⟨"TurningVillage$Tenants", "wouldChange", "(II)Z"⟩, 5)]
theorem lw_r1 : ∀ q ∈ lw_privs_1, lw_okq q := List.forall_mem_cons.mpr ⟨lw_p0, List.forall_mem_cons.mpr ⟨lw_p1, List.forall_mem_cons.mpr ⟨lw_p2, List.forall_mem_cons.mpr ⟨lw_p3, List.forall_mem_cons.mpr ⟨lw_p4, List.forall_mem_cons.mpr ⟨lw_p5, List.forall_mem_cons.mpr ⟨lw_p6, List.forall_mem_cons.mpr ⟨lw_p7, List.forall_mem_cons.mpr ⟨lw_p8, List.forall_mem_cons.mpr ⟨lw_p9, List.forall_mem_cons.mpr ⟨lw_p10, List.forall_mem_cons.mpr ⟨lw_p11, List.forall_mem_cons.mpr ⟨lw_p12, List.forall_mem_cons.mpr ⟨lw_p13, List.forall_mem_cons.mpr ⟨lw_p14, List.forall_mem_cons.mpr ⟨lw_p15, fun _ h => absurd h List.not_mem_nil⟩⟩⟩⟩⟩⟩⟩⟩⟩⟩⟩⟩⟩⟩⟩⟩
theorem lw_p16 : lw_okq (⟨"TurningVillage$Tenants", "joyWith", "(III)I"⟩, 5) := ⟨⟨by decide +kernel, by decide +kernel⟩, List.mem_of_getElem? (i := 155) (by decide +kernel), List.mem_of_getElem? (i := 582) (by decide +kernel), List.mem_of_getElem? (i := 583) (by decide +kernel)⟩
theorem lw_p17 : lw_okq (⟨"TurningVillage$Tenants", "leastBestRow", "(II)I"⟩, 5) := ⟨⟨by decide +kernel, by decide +kernel⟩, List.mem_of_getElem? (i := 155) (by decide +kernel), List.mem_of_getElem? (i := 589) (by decide +kernel), List.mem_of_getElem? (i := 590) (by decide +kernel)⟩
theorem lw_p18 : lw_okq (⟨"TurningVillage$Harvest", "reckonCrops", "(LTurningVillage$Land;)J"⟩, 9) := ⟨⟨by decide +kernel, by decide +kernel⟩, List.mem_of_getElem? (i := 179) (by decide +kernel), List.mem_of_getElem? (i := 617) (by decide +kernel), List.mem_of_getElem? (i := 618) (by decide +kernel)⟩
theorem lw_p19 : lw_okq (⟨"TurningVillage$Harvest", "extend", "(II)V"⟩, 9) := ⟨⟨by decide +kernel, by decide +kernel⟩, List.mem_of_getElem? (i := 179) (by decide +kernel), List.mem_of_getElem? (i := 626) (by decide +kernel), List.mem_of_getElem? (i := 627) (by decide +kernel)⟩
theorem lw_p20 : lw_okq (⟨"TurningVillage$Harvest", "note", "(II)V"⟩, 9) := ⟨⟨by decide +kernel, by decide +kernel⟩, List.mem_of_getElem? (i := 179) (by decide +kernel), List.mem_of_getElem? (i := 630) (by decide +kernel), List.mem_of_getElem? (i := 631) (by decide +kernel)⟩
theorem lw_p21 : lw_okq (⟨"TurningVillage", "longestWait", "(II)I"⟩, 9) := ⟨⟨by decide +kernel, by decide +kernel⟩, List.mem_of_getElem? (i := 15) (by decide +kernel), List.mem_of_getElem? (i := 639) (by decide +kernel), List.mem_of_getElem? (i := 640) (by decide +kernel)⟩
theorem lw_p22 : lw_okq (⟨"TurningVillage", "digestPlaces", "(J)J"⟩, 9) := ⟨⟨by decide +kernel, by decide +kernel⟩, List.mem_of_getElem? (i := 15) (by decide +kernel), List.mem_of_getElem? (i := 717) (by decide +kernel), List.mem_of_getElem? (i := 718) (by decide +kernel)⟩
theorem lw_p23 : lw_okq (⟨"TurningVillage", "digestRows", "(J)J"⟩, 9) := ⟨⟨by decide +kernel, by decide +kernel⟩, List.mem_of_getElem? (i := 15) (by decide +kernel), List.mem_of_getElem? (i := 722) (by decide +kernel), List.mem_of_getElem? (i := 723) (by decide +kernel)⟩
theorem lw_p24 : lw_okq (⟨"TurningVillage", "digestTenants", "(J)J"⟩, 9) := ⟨⟨by decide +kernel, by decide +kernel⟩, List.mem_of_getElem? (i := 15) (by decide +kernel), List.mem_of_getElem? (i := 732) (by decide +kernel), List.mem_of_getElem? (i := 733) (by decide +kernel)⟩
theorem lw_p25 : lw_okq (⟨"TurningVillageModel", "faultNow", "()I"⟩, 30) := ⟨⟨by decide +kernel, by decide +kernel⟩, List.mem_of_getElem? (i := 739) (by decide +kernel), List.mem_of_getElem? (i := 852) (by decide +kernel), List.mem_of_getElem? (i := 853) (by decide +kernel)⟩
theorem lw_p26 : lw_okq (⟨"TurningVillageModel", "reads", "()I"⟩, 30) := ⟨⟨by decide +kernel, by decide +kernel⟩, List.mem_of_getElem? (i := 739) (by decide +kernel), List.mem_of_getElem? (i := 856) (by decide +kernel), List.mem_of_getElem? (i := 857) (by decide +kernel)⟩
theorem lw_p27 : lw_okq (⟨"TurningVillageModel", "byteAt", "(I)I"⟩, 30) := ⟨⟨by decide +kernel, by decide +kernel⟩, List.mem_of_getElem? (i := 739) (by decide +kernel), List.mem_of_getElem? (i := 860) (by decide +kernel), List.mem_of_getElem? (i := 861) (by decide +kernel)⟩
theorem lw_p28 : lw_okq (⟨"TurningVillageModel", "mayBe", "(II)Z"⟩, 30) := ⟨⟨by decide +kernel, by decide +kernel⟩, List.mem_of_getElem? (i := 739) (by decide +kernel), List.mem_of_getElem? (i := 867) (by decide +kernel), List.mem_of_getElem? (i := 868) (by decide +kernel)⟩
theorem lw_p29 : lw_okq (⟨"TurningVillageModel", "placeOf", "(II)I"⟩, 30) := ⟨⟨by decide +kernel, by decide +kernel⟩, List.mem_of_getElem? (i := 739) (by decide +kernel), List.mem_of_getElem? (i := 878) (by decide +kernel), List.mem_of_getElem? (i := 879) (by decide +kernel)⟩
theorem lw_p30 : lw_okq (⟨"TurningVillageModel", "galeMore", "(III)I"⟩, 30) := ⟨⟨by decide +kernel, by decide +kernel⟩, List.mem_of_getElem? (i := 739) (by decide +kernel), List.mem_of_getElem? (i := 890) (by decide +kernel), List.mem_of_getElem? (i := 891) (by decide +kernel)⟩
theorem lw_p31 : lw_okq (⟨"TurningVillageModel", "meets", "(I)I"⟩, 30) := ⟨⟨by decide +kernel, by decide +kernel⟩, List.mem_of_getElem? (i := 739) (by decide +kernel), List.mem_of_getElem? (i := 901) (by decide +kernel), List.mem_of_getElem? (i := 902) (by decide +kernel)⟩
def lw_privs_2 : List (MethodName × Nat) := [(⟨"TurningVillage$Tenants", "joyWith", "(III)I"⟩, 5), (⟨"TurningVillage$Tenants", "leastBestRow", "(II)I"⟩, 5), (⟨"TurningVillage$Harvest", "reckonCrops", "(LTurningVillage$Land;)J"⟩, 9), (⟨"TurningVillage$Harvest", "extend", "(II)V"⟩, 9), (⟨"TurningVillage$Harvest", "note", "(II)V"⟩, 9), (⟨"TurningVillage", "longestWait", "(II)I"⟩, 9), (⟨"TurningVillage", "digestPlaces", "(J)J"⟩, 9), (⟨"TurningVillage", "digestRows", "(J)J"⟩, 9), (⟨"TurningVillage", "digestTenants", "(J)J"⟩, 9), (⟨"TurningVillageModel", "faultNow", "()I"⟩, 30), (⟨"TurningVillageModel", "reads", "()I"⟩, 30), (⟨"TurningVillageModel", "byteAt", "(I)I"⟩, 30), (⟨"TurningVillageModel", "mayBe", "(II)Z"⟩, 30), (⟨"TurningVillageModel", "placeOf", "(II)I"⟩, 30), (⟨"TurningVillageModel", "galeMore", "(III)I"⟩, 30), (⟨"TurningVillageModel", "meets", "(I)I"⟩, 30)]
theorem lw_r2 : ∀ q ∈ lw_privs_2, lw_okq q := List.forall_mem_cons.mpr ⟨lw_p16, List.forall_mem_cons.mpr ⟨lw_p17, List.forall_mem_cons.mpr ⟨lw_p18, List.forall_mem_cons.mpr ⟨lw_p19, List.forall_mem_cons.mpr ⟨lw_p20, List.forall_mem_cons.mpr ⟨lw_p21, List.forall_mem_cons.mpr ⟨lw_p22, List.forall_mem_cons.mpr ⟨lw_p23, List.forall_mem_cons.mpr ⟨lw_p24, List.forall_mem_cons.mpr ⟨lw_p25, List.forall_mem_cons.mpr ⟨lw_p26, List.forall_mem_cons.mpr ⟨lw_p27, List.forall_mem_cons.mpr ⟨lw_p28, List.forall_mem_cons.mpr ⟨lw_p29, List.forall_mem_cons.mpr ⟨lw_p30, List.forall_mem_cons.mpr ⟨lw_p31, fun _ h => absurd h List.not_mem_nil⟩⟩⟩⟩⟩⟩⟩⟩⟩⟩⟩⟩⟩⟩⟩⟩
theorem lw_p32 : lw_okq (⟨"TurningVillageModel", "turnOf", "(I)I"⟩, 30) := ⟨⟨by decide +kernel, by decide +kernel⟩, List.mem_of_getElem? (i := 739) (by decide +kernel), List.mem_of_getElem? (i := 920) (by decide +kernel), List.mem_of_getElem? (i := 921) (by decide +kernel)⟩
theorem lw_p33 : lw_okq (⟨"TurningVillageModel", "lays", "()V"⟩, 30) := ⟨⟨by decide +kernel, by decide +kernel⟩, List.mem_of_getElem? (i := 739) (by decide +kernel), List.mem_of_getElem? (i := 924) (by decide +kernel), List.mem_of_getElem? (i := 925) (by decide +kernel)⟩
theorem lw_p34 : lw_okq (⟨"TurningVillageModel", "doesCount", "(I)Z"⟩, 30) := ⟨⟨by decide +kernel, by decide +kernel⟩, List.mem_of_getElem? (i := 739) (by decide +kernel), List.mem_of_getElem? (i := 928) (by decide +kernel), List.mem_of_getElem? (i := 929) (by decide +kernel)⟩
theorem lw_p35 : lw_okq (⟨"TurningVillageModel", "isOver", "(III)Z"⟩, 30) := ⟨⟨by decide +kernel, by decide +kernel⟩, List.mem_of_getElem? (i := 739) (by decide +kernel), List.mem_of_getElem? (i := 936) (by decide +kernel), List.mem_of_getElem? (i := 937) (by decide +kernel)⟩
theorem lw_p36 : lw_okq (⟨"TurningVillageModel", "doorOf", "(III)I"⟩, 30) := ⟨⟨by decide +kernel, by decide +kernel⟩, List.mem_of_getElem? (i := 739) (by decide +kernel), List.mem_of_getElem? (i := 944) (by decide +kernel), List.mem_of_getElem? (i := 945) (by decide +kernel)⟩
theorem lw_p37 : lw_okq (⟨"TurningVillageModel", "doorAt", "(II)I"⟩, 30) := ⟨⟨by decide +kernel, by decide +kernel⟩, List.mem_of_getElem? (i := 739) (by decide +kernel), List.mem_of_getElem? (i := 948) (by decide +kernel), List.mem_of_getElem? (i := 949) (by decide +kernel)⟩
theorem lw_p38 : lw_okq (⟨"TurningVillageModel", "daysOf", "(IIII)I"⟩, 30) := ⟨⟨by decide +kernel, by decide +kernel⟩, List.mem_of_getElem? (i := 739) (by decide +kernel), List.mem_of_getElem? (i := 966) (by decide +kernel), List.mem_of_getElem? (i := 967) (by decide +kernel)⟩
theorem lw_p39 : lw_okq (⟨"TurningVillageModel", "shineOf", "(III)I"⟩, 30) := ⟨⟨by decide +kernel, by decide +kernel⟩, List.mem_of_getElem? (i := 739) (by decide +kernel), List.mem_of_getElem? (i := 977) (by decide +kernel), List.mem_of_getElem? (i := 978) (by decide +kernel)⟩
theorem lw_p40 : lw_okq (⟨"TurningVillageModel", "aheadOf", "(IIII)I"⟩, 30) := ⟨⟨by decide +kernel, by decide +kernel⟩, List.mem_of_getElem? (i := 739) (by decide +kernel), List.mem_of_getElem? (i := 985) (by decide +kernel), List.mem_of_getElem? (i := 986) (by decide +kernel)⟩
theorem lw_p41 : lw_okq (⟨"TurningVillageModel", "works", "(IIII)Z"⟩, 30) := ⟨⟨by decide +kernel, by decide +kernel⟩, List.mem_of_getElem? (i := 739) (by decide +kernel), List.mem_of_getElem? (i := 993) (by decide +kernel), List.mem_of_getElem? (i := 994) (by decide +kernel)⟩
theorem lw_p42 : lw_okq (⟨"TurningVillageModel", "soonOf", "(IIII)I"⟩, 30) := ⟨⟨by decide +kernel, by decide +kernel⟩, List.mem_of_getElem? (i := 739) (by decide +kernel), List.mem_of_getElem? (i := 1006) (by decide +kernel), List.mem_of_getElem? (i := 1007) (by decide +kernel)⟩
theorem lw_p43 : lw_okq (⟨"TurningVillageModel", "begins", "(II)V"⟩, 30) := ⟨⟨by decide +kernel, by decide +kernel⟩, List.mem_of_getElem? (i := 739) (by decide +kernel), List.mem_of_getElem? (i := 1010) (by decide +kernel), List.mem_of_getElem? (i := 1011) (by decide +kernel)⟩
theorem lw_p44 : lw_okq (⟨"TurningVillageModel", "goes", "(II)V"⟩, 30) := ⟨⟨by decide +kernel, by decide +kernel⟩, List.mem_of_getElem? (i := 739) (by decide +kernel), List.mem_of_getElem? (i := 1015) (by decide +kernel), List.mem_of_getElem? (i := 1016) (by decide +kernel)⟩
theorem lw_p45 : lw_okq (⟨"TurningVillageModel", "isStep", "(III)Z"⟩, 30) := ⟨⟨by decide +kernel, by decide +kernel⟩, List.mem_of_getElem? (i := 739) (by decide +kernel), List.mem_of_getElem? (i := 1019) (by decide +kernel), List.mem_of_getElem? (i := 1020) (by decide +kernel)⟩
theorem lw_p46 : lw_okq (⟨"TurningVillageModel", "meetOf", "(IIII)I"⟩, 30) := ⟨⟨by decide +kernel, by decide +kernel⟩, List.mem_of_getElem? (i := 739) (by decide +kernel), List.mem_of_getElem? (i := 1031) (by decide +kernel), List.mem_of_getElem? (i := 1032) (by decide +kernel)⟩
theorem lw_p47 : lw_okq (⟨"TurningVillageModel", "laysJoy", "(II)V"⟩, 30) := ⟨⟨by decide +kernel, by decide +kernel⟩, List.mem_of_getElem? (i := 739) (by decide +kernel), List.mem_of_getElem? (i := 1047) (by decide +kernel), List.mem_of_getElem? (i := 1048) (by decide +kernel)⟩
def lw_privs_3 : List (MethodName × Nat) := [(⟨"TurningVillageModel", "turnOf", "(I)I"⟩, 30), (⟨"TurningVillageModel", "lays", "()V"⟩, 30), (⟨"TurningVillageModel", "doesCount", "(I)Z"⟩, 30), (⟨"TurningVillageModel", "isOver", "(III)Z"⟩, 30), (⟨"TurningVillageModel", "doorOf", "(III)I"⟩, 30), (⟨"TurningVillageModel", "doorAt", "(II)I"⟩, 30), (⟨"TurningVillageModel", "daysOf", "(IIII)I"⟩, 30), (⟨"TurningVillageModel", "shineOf", "(III)I"⟩, 30), (⟨"TurningVillageModel", "aheadOf", "(IIII)I"⟩, 30), (⟨"TurningVillageModel", "works", "(IIII)Z"⟩, 30), (⟨"TurningVillageModel", "soonOf", "(IIII)I"⟩, 30), (⟨"TurningVillageModel", "begins", "(II)V"⟩, 30), (⟨"TurningVillageModel", "goes", "(II)V"⟩, 30), (⟨"TurningVillageModel", "isStep", "(III)Z"⟩, 30), (⟨"TurningVillageModel", "meetOf", "(IIII)I"⟩, 30), (⟨"TurningVillageModel", "laysJoy", "(II)V"⟩, 30)]
theorem lw_r3 : ∀ q ∈ lw_privs_3, lw_okq q := List.forall_mem_cons.mpr ⟨lw_p32, List.forall_mem_cons.mpr ⟨lw_p33, List.forall_mem_cons.mpr ⟨lw_p34, List.forall_mem_cons.mpr ⟨lw_p35, List.forall_mem_cons.mpr ⟨lw_p36, List.forall_mem_cons.mpr ⟨lw_p37, List.forall_mem_cons.mpr ⟨lw_p38, List.forall_mem_cons.mpr ⟨lw_p39, List.forall_mem_cons.mpr ⟨lw_p40, List.forall_mem_cons.mpr ⟨lw_p41, List.forall_mem_cons.mpr ⟨lw_p42, List.forall_mem_cons.mpr ⟨lw_p43, List.forall_mem_cons.mpr ⟨lw_p44, List.forall_mem_cons.mpr ⟨lw_p45, List.forall_mem_cons.mpr ⟨lw_p46, List.forall_mem_cons.mpr ⟨lw_p47, fun _ h => absurd h List.not_mem_nil⟩⟩⟩⟩⟩⟩⟩⟩⟩⟩⟩⟩⟩⟩⟩⟩
theorem lw_p48 : lw_okq (⟨"TurningVillageModel", "bestOf", "(III)I"⟩, 30) := ⟨⟨by decide +kernel, by decide +kernel⟩, List.mem_of_getElem? (i := 739) (by decide +kernel), List.mem_of_getElem? (i := 1059) (by decide +kernel), List.mem_of_getElem? (i := 1060) (by decide +kernel)⟩
theorem lw_p49 : lw_okq (⟨"TurningVillageModel", "envyOf", "(II)I"⟩, 30) := ⟨⟨by decide +kernel, by decide +kernel⟩, List.mem_of_getElem? (i := 739) (by decide +kernel), List.mem_of_getElem? (i := 1073) (by decide +kernel), List.mem_of_getElem? (i := 1074) (by decide +kernel)⟩
theorem lw_p50 : lw_okq (⟨"TurningVillageModel", "historyOf", "(III)I"⟩, 30) := ⟨⟨by decide +kernel, by decide +kernel⟩, List.mem_of_getElem? (i := 739) (by decide +kernel), List.mem_of_getElem? (i := 1085) (by decide +kernel), List.mem_of_getElem? (i := 1086) (by decide +kernel)⟩
theorem lw_p51 : lw_okq (⟨"TurningVillageModel", "waitsOf", "(II)I"⟩, 30) := ⟨⟨by decide +kernel, by decide +kernel⟩, List.mem_of_getElem? (i := 739) (by decide +kernel), List.mem_of_getElem? (i := 1093) (by decide +kernel), List.mem_of_getElem? (i := 1094) (by decide +kernel)⟩
theorem lw_p52 : lw_okq (⟨"TurningVillageModel", "digOf", "(II)I"⟩, 30) := ⟨⟨by decide +kernel, by decide +kernel⟩, List.mem_of_getElem? (i := 739) (by decide +kernel), List.mem_of_getElem? (i := 1101) (by decide +kernel), List.mem_of_getElem? (i := 1102) (by decide +kernel)⟩
theorem lw_p53 : lw_okq (⟨"TurningVillageModel", "lacks", "(III)I"⟩, 30) := ⟨⟨by decide +kernel, by decide +kernel⟩, List.mem_of_getElem? (i := 739) (by decide +kernel), List.mem_of_getElem? (i := 1117) (by decide +kernel), List.mem_of_getElem? (i := 1118) (by decide +kernel)⟩
theorem lw_p54 : lw_okq (⟨"TurningVillageModel", "keep", "(III)V"⟩, 30) := ⟨⟨by decide +kernel, by decide +kernel⟩, List.mem_of_getElem? (i := 739) (by decide +kernel), List.mem_of_getElem? (i := 1121) (by decide +kernel), List.mem_of_getElem? (i := 1122) (by decide +kernel)⟩
theorem lw_p55 : lw_okq (⟨"TurningVillageModel", "sumOf", "(I)I"⟩, 30) := ⟨⟨by decide +kernel, by decide +kernel⟩, List.mem_of_getElem? (i := 739) (by decide +kernel), List.mem_of_getElem? (i := 1142) (by decide +kernel), List.mem_of_getElem? (i := 1143) (by decide +kernel)⟩
def lw_privs_4 : List (MethodName × Nat) := [(⟨"TurningVillageModel", "bestOf", "(III)I"⟩, 30), (⟨"TurningVillageModel", "envyOf", "(II)I"⟩, 30), (⟨"TurningVillageModel", "historyOf", "(III)I"⟩, 30), (⟨"TurningVillageModel", "waitsOf", "(II)I"⟩, 30), (⟨"TurningVillageModel", "digOf", "(II)I"⟩, 30), (⟨"TurningVillageModel", "lacks", "(III)I"⟩, 30), (⟨"TurningVillageModel", "keep", "(III)V"⟩, 30), (⟨"TurningVillageModel", "sumOf", "(I)I"⟩, 30)]
theorem lw_r4 : ∀ q ∈ lw_privs_4, lw_okq q := List.forall_mem_cons.mpr ⟨lw_p48, List.forall_mem_cons.mpr ⟨lw_p49, List.forall_mem_cons.mpr ⟨lw_p50, List.forall_mem_cons.mpr ⟨lw_p51, List.forall_mem_cons.mpr ⟨lw_p52, List.forall_mem_cons.mpr ⟨lw_p53, List.forall_mem_cons.mpr ⟨lw_p54, List.forall_mem_cons.mpr ⟨lw_p55, fun _ h => absurd h List.not_mem_nil⟩⟩⟩⟩⟩⟩⟩⟩
def lw_privs : List (MethodName × Nat) := lw_privs_1 ++ (lw_privs_2 ++ (lw_privs_3 ++ (lw_privs_4)))
def lw_tbl : List Cond := k2_sels lw_privs ++ tables_1
theorem lw_privs_ok : ∀ q ∈ lw_privs, lw_okq q := by
  show ∀ q ∈ lw_privs_1 ++ (lw_privs_2 ++ (lw_privs_3 ++ (lw_privs_4))), lw_okq q
  exact List.forall_mem_append.mpr ⟨lw_r1, List.forall_mem_append.mpr ⟨lw_r2, List.forall_mem_append.mpr ⟨lw_r3, lw_r4⟩⟩⟩
end
section
def RX0 : String := "TurningVillage$Chance"
def TX0 : u_T := fun k => match k with
  | 0 => ("TurningVillage$Chance", "weights", "[J", true)
  | _ => ("TurningVillage$Chance", "all", "J", false)
def tyX0 : Nat → FieldType := fun k => match k with
  | 0 => .array .long
  | _ => .long
abbrev wsX00 : List Cond := u_ws RX0 TX0 2
theorem nmX0 : ∀ a, a < 2 → ∀ b, b < 2 → a ≠ b → (TX0 a).2.1 ≠ (TX0 b).2.1 := by decide +kernel
theorem tyX0_ok : ∀ k, k < 2 → parseFieldDescriptor (TX0 k).2.2.1 = some (tyX0 k) := by decide +kernel
abbrev cX0_init : ByteArray := prog_2_method_1_code
def yX0_init : MethodName := ⟨RX0, "<init>", "()V"⟩
abbrev cX0_begin : ByteArray := prog_2_method_2_code
def yX0_begin : MethodName := ⟨RX0, "begin", "(I)V"⟩
abbrev cX0_oneDay : ByteArray := prog_2_method_3_code
def yX0_oneDay : MethodName := ⟨RX0, "oneDay", "(I)V"⟩
abbrev cX0_left : ByteArray := prog_2_method_4_code
def yX0_left : MethodName := ⟨RX0, "left", "()J"⟩
def RX1 : String := "TurningVillage$Gales"
def TX1 : u_T := fun k => match k with
  | 0 => ("TurningVillage$Gales", "number", "I", false)
  | 1 => ("TurningVillage$Gales", "days", "[I", true)
  | 2 => ("TurningVillage$Gales", "froms", "[I", true)
  | 3 => ("TurningVillage$Gales", "told", "[I", true)
  | 4 => ("TurningVillage$Gales", "taken", "[I", true)
  | 5 => ("TurningVillage$Gales", "latest", "I", false)
  | 6 => ("TurningVillage$Gales", "asOf", "I", false)
  | 7 => ("TurningVillage$Gales", "wing", "I", false)
  | 8 => ("TurningVillage$Gales", "begin", "I", false)
  | 9 => ("TurningVillage$Gales", "turns", "[I", true)
  | 10 => ("TurningVillage$Gales", "daysOfTurn", "[I", true)
  | _ => ("TurningVillage$Gales", "firstDays", "[I", true)
def tyX1 : Nat → FieldType := fun k => match k with
  | 0 => .int
  | 1 => .array .int
  | 2 => .array .int
  | 3 => .array .int
  | 4 => .array .int
  | 5 => .int
  | 6 => .int
  | 7 => .int
  | 8 => .int
  | 9 => .array .int
  | 10 => .array .int
  | _ => .array .int
abbrev wsX10 : List Cond := u_ws RX1 TX1 12
theorem nmX1 : ∀ a, a < 12 → ∀ b, b < 12 → a ≠ b → (TX1 a).2.1 ≠ (TX1 b).2.1 := by decide +kernel
theorem tyX1_ok : ∀ k, k < 12 → parseFieldDescriptor (TX1 k).2.2.1 = some (tyX1 k) := by decide +kernel
abbrev cX1_init : ByteArray := prog_3_method_1_code
def yX1_init : MethodName := ⟨RX1, "<init>", "()V"⟩
abbrev cX1_mayBeTold : ByteArray := prog_3_method_2_code
def yX1_mayBeTold : MethodName := ⟨RX1, "mayBeTold", "(I)Z"⟩
abbrev cX1_add : ByteArray := prog_3_method_3_code
def yX1_add : MethodName := ⟨RX1, "add", "(III)Z"⟩
abbrev cX1_isTaken : ByteArray := prog_3_method_4_code
def yX1_isTaken : MethodName := ⟨RX1, "isTaken", "(I)Z"⟩
abbrev cX1_remove : ByteArray := prog_3_method_5_code
def yX1_remove : MethodName := ⟨RX1, "remove", "(II)V"⟩
abbrev cX1_change : ByteArray := prog_3_method_6_code
def yX1_change : MethodName := ⟨RX1, "change", "(II)I"⟩
abbrev cX1_counts : ByteArray := prog_3_method_7_code
def yX1_counts : MethodName := ⟨RX1, "counts", "(I)Z"⟩
abbrev cX1_counting : ByteArray := prog_3_method_8_code
def yX1_counting : MethodName := ⟨RX1, "counting", "()I"⟩
abbrev cX1_reckonTurns : ByteArray := prog_3_method_9_code
def yX1_reckonTurns : MethodName := ⟨RX1, "reckonTurns", "()V"⟩
abbrev cX1_tally : ByteArray := prog_3_method_10_code
def yX1_tally : MethodName := ⟨RX1, "tally", "(II)V"⟩
abbrev cX1_findFirstDays : ByteArray := prog_3_method_11_code
def yX1_findFirstDays : MethodName := ⟨RX1, "findFirstDays", "(I)V"⟩
def RX2 : String := "TurningVillage$Harvest"
def TX2 : u_T := fun k => match k with
  | 0 => ("TurningVillage$Harvest", "known", "[I", true)
  | 1 => ("TurningVillage$Harvest", "cropOfTurn", "[J", true)
  | 2 => ("TurningVillage$Harvest", "bits", "[I", true)
  | 3 => ("TurningVillage$Harvest", "turns", "[I", true)
  | 4 => ("TurningVillage$Harvest", "crops", "[J", true)
  | 5 => ("TurningVillage$Harvest", "fitting", "I", false)
  | 6 => ("TurningVillage$Harvest", "first", "I", false)
  | 7 => ("TurningVillage$Harvest", "sureWith", "I", false)
  | _ => ("TurningVillage$Harvest", "sureWithout", "I", false)
def tyX2 : Nat → FieldType := fun k => match k with
  | 0 => .array .int
  | 1 => .array .long
  | 2 => .array .int
  | 3 => .array .int
  | 4 => .array .long
  | 5 => .int
  | 6 => .int
  | 7 => .int
  | _ => .int
abbrev wsX20 : List Cond := u_ws RX2 TX2 9
theorem nmX2 : ∀ a, a < 9 → ∀ b, b < 9 → a ≠ b → (TX2 a).2.1 ≠ (TX2 b).2.1 := by decide +kernel
theorem tyX2_ok : ∀ k, k < 9 → parseFieldDescriptor (TX2 k).2.2.1 = some (tyX2 k) := by decide +kernel
abbrev cX2_init : ByteArray := prog_4_method_1_code
def yX2_init : MethodName := ⟨RX2, "<init>", "()V"⟩
abbrev cX2_search : ByteArray := prog_4_method_2_code
def yX2_search : MethodName := ⟨RX2, "search", "(LTurningVillage$Land;II)V"⟩
abbrev cX2_reckonCrops : ByteArray := prog_4_method_3_code
def yX2_reckonCrops : MethodName := ⟨RX2, "reckonCrops", "(LTurningVillage$Land;)J"⟩
abbrev cX2_extend : ByteArray := prog_4_method_4_code
def yX2_extend : MethodName := ⟨RX2, "extend", "(II)V"⟩
abbrev cX2_note : ByteArray := prog_4_method_5_code
def yX2_note : MethodName := ⟨RX2, "note", "(II)V"⟩
def RX3 : String := "TurningVillage$Land"
def TX3 : u_T := fun k => match k with
  | 0 => ("TurningVillage$Land", "text", "[I", true)
  | 1 => ("TurningVillage$Land", "length", "I", false)
  | 2 => ("TurningVillage$Land", "fault", "I", false)
  | 3 => ("TurningVillage$Land", "things", "[I", true)
  | 4 => ("TurningVillage$Land", "closed", "[I", true)
  | 5 => ("TurningVillage$Land", "suns", "[I", true)
  | 6 => ("TurningVillage$Land", "bridges", "I", false)
  | 7 => ("TurningVillage$Land", "oneEnd", "[I", true)
  | 8 => ("TurningVillage$Land", "otherEnd", "[I", true)
  | 9 => ("TurningVillage$Land", "modulus", "[I", true)
  | _ => ("TurningVillage$Land", "remainder", "[I", true)
def tyX3 : Nat → FieldType := fun k => match k with
  | 0 => .array .int
  | 1 => .int
  | 2 => .int
  | 3 => .array .int
  | 4 => .array .int
  | 5 => .array .int
  | 6 => .int
  | 7 => .array .int
  | 8 => .array .int
  | 9 => .array .int
  | _ => .array .int
abbrev wsX30 : List Cond := u_ws RX3 TX3 11
theorem nmX3 : ∀ a, a < 11 → ∀ b, b < 11 → a ≠ b → (TX3 a).2.1 ≠ (TX3 b).2.1 := by decide +kernel
theorem tyX3_ok : ∀ k, k < 11 → parseFieldDescriptor (TX3 k).2.2.1 = some (tyX3 k) := by decide +kernel
abbrev cX3_init : ByteArray := prog_5_method_1_code
def yX3_init : MethodName := ⟨RX3, "<init>", "()V"⟩
abbrev cX3_append : ByteArray := prog_5_method_2_code
def yX3_append : MethodName := ⟨RX3, "append", "(I)I"⟩
abbrev cX3_empty : ByteArray := prog_5_method_3_code
def yX3_empty : MethodName := ⟨RX3, "empty", "()I"⟩
abbrev cX3_interpret : ByteArray := prog_5_method_4_code
def yX3_interpret : MethodName := ⟨RX3, "interpret", "()V"⟩
abbrev cX3_forget : ByteArray := prog_5_method_5_code
def yX3_forget : MethodName := ⟨RX3, "forget", "()V"⟩
abbrev cX3_takeSigns : ByteArray := prog_5_method_6_code
def yX3_takeSigns : MethodName := ⟨RX3, "takeSigns", "()I"⟩
abbrev cX3_takeParts : ByteArray := prog_5_method_7_code
def yX3_takeParts : MethodName := ⟨RX3, "takeParts", "()I"⟩
abbrev cX3_takePath : ByteArray := prog_5_method_8_code
def yX3_takePath : MethodName := ⟨RX3, "takePath", "(I)I"⟩
abbrev cX3_takeBridge : ByteArray := prog_5_method_9_code
def yX3_takeBridge : MethodName := ⟨RX3, "takeBridge", "(I)I"⟩
abbrev cX3_signAt : ByteArray := prog_5_method_10_code
def yX3_signAt : MethodName := ⟨RX3, "signAt", "(I)I"⟩
abbrev cX3_figureAt : ByteArray := prog_5_method_11_code
def yX3_figureAt : MethodName := ⟨RX3, "figureAt", "(I)I"⟩
abbrev cX3_thingOf : ByteArray := prog_5_method_12_code
def yX3_thingOf : MethodName := ⟨RX3, "thingOf", "(I)I"⟩
abbrev cX3_joins : ByteArray := prog_5_method_13_code
def yX3_joins : MethodName := ⟨RX3, "joins", "(III)Z"⟩
abbrev cX3_meetsAt : ByteArray := prog_5_method_14_code
def yX3_meetsAt : MethodName := ⟨RX3, "meetsAt", "(II)Z"⟩
abbrev cX3_canWork : ByteArray := prog_5_method_15_code
def yX3_canWork : MethodName := ⟨RX3, "canWork", "(IIII)Z"⟩
abbrev cX3_closedPaths : ByteArray := prog_5_method_16_code
def yX3_closedPaths : MethodName := ⟨RX3, "closedPaths", "()I"⟩
def RX4 : String := "TurningVillage$Sheet"
def TX4 : u_T := fun k => match k with
  | 0 => ("TurningVillage$Sheet", "lost", "Z", false)
  | 1 => ("TurningVillage$Sheet", "form", "I", false)
  | 2 => ("TurningVillage$Sheet", "size", "I", false)
  | _ => ("TurningVillage$Sheet", "items", "[I", true)
def tyX4 : Nat → FieldType := fun k => match k with
  | 0 => .boolean
  | 1 => .int
  | 2 => .int
  | _ => .array .int
abbrev wsX40 : List Cond := u_ws RX4 TX4 4
theorem nmX4 : ∀ a, a < 4 → ∀ b, b < 4 → a ≠ b → (TX4 a).2.1 ≠ (TX4 b).2.1 := by decide +kernel
theorem tyX4_ok : ∀ k, k < 4 → parseFieldDescriptor (TX4 k).2.2.1 = some (tyX4 k) := by decide +kernel
abbrev cX4_init : ByteArray := prog_6_method_1_code
def yX4_init : MethodName := ⟨RX4, "<init>", "()V"⟩
abbrev cX4_renew : ByteArray := prog_6_method_2_code
def yX4_renew : MethodName := ⟨RX4, "renew", "(II)V"⟩
abbrev cX4_findingAt : ByteArray := prog_6_method_3_code
def yX4_findingAt : MethodName := ⟨RX4, "findingAt", "(II)I"⟩
abbrev cX4_keep : ByteArray := prog_6_method_4_code
def yX4_keep : MethodName := ⟨RX4, "keep", "(II)V"⟩
abbrev cX4_has : ByteArray := prog_6_method_5_code
def yX4_has : MethodName := ⟨RX4, "has", "(II)Z"⟩
def RX5 : String := "TurningVillage$Tenants"
def TX5 : u_T := fun k => match k with
  | 0 => ("TurningVillage$Tenants", "rows", "[I", true)
  | 1 => ("TurningVillage$Tenants", "wishes", "[I", true)
  | 2 => ("TurningVillage$Tenants", "joys", "[I", true)
  | 3 => ("TurningVillage$Tenants", "mostJoy", "[I", true)
  | _ => ("TurningVillage$Tenants", "bestRows", "[I", true)
def tyX5 : Nat → FieldType := fun k => match k with
  | 0 => .array .int
  | 1 => .array .int
  | 2 => .array .int
  | 3 => .array .int
  | _ => .array .int
abbrev wsX50 : List Cond := u_ws RX5 TX5 5
theorem nmX5 : ∀ a, a < 5 → ∀ b, b < 5 → a ≠ b → (TX5 a).2.1 ≠ (TX5 b).2.1 := by decide +kernel
theorem tyX5_ok : ∀ k, k < 5 → parseFieldDescriptor (TX5 k).2.2.1 = some (tyX5 k) := by decide +kernel
abbrev cX5_init : ByteArray := prog_7_method_1_code
def yX5_init : MethodName := ⟨RX5, "<init>", "()V"⟩
abbrev cX5_changeWish : ByteArray := prog_7_method_2_code
def yX5_changeWish : MethodName := ⟨RX5, "changeWish", "(III)I"⟩
abbrev cX5_inOwnRow : ByteArray := prog_7_method_3_code
def yX5_inOwnRow : MethodName := ⟨RX5, "inOwnRow", "()I"⟩
abbrev cX5_joyIn : ByteArray := prog_7_method_4_code
def yX5_joyIn : MethodName := ⟨RX5, "joyIn", "(IILTurningVillage$Land;[I)I"⟩
abbrev cX5_reckonJoys : ByteArray := prog_7_method_5_code
def yX5_reckonJoys : MethodName := ⟨RX5, "reckonJoys", "(LTurningVillage$Land;[I)V"⟩
abbrev cX5_changeUntilNobodyWould : ByteArray := prog_7_method_6_code
def yX5_changeUntilNobodyWould : MethodName := ⟨RX5, "changeUntilNobodyWould", "()I"⟩
abbrev cX5_changeFirstPair : ByteArray := prog_7_method_7_code
def yX5_changeFirstPair : MethodName := ⟨RX5, "changeFirstPair", "()Z"⟩
abbrev cX5_wouldChange : ByteArray := prog_7_method_8_code
def yX5_wouldChange : MethodName := ⟨RX5, "wouldChange", "(II)Z"⟩
abbrev cX5_findBest : ByteArray := prog_7_method_9_code
def yX5_findBest : MethodName := ⟨RX5, "findBest", "()V"⟩
abbrev cX5_joyWith : ByteArray := prog_7_method_10_code
def yX5_joyWith : MethodName := ⟨RX5, "joyWith", "(III)I"⟩
abbrev cX5_leastBestRow : ByteArray := prog_7_method_11_code
def yX5_leastBestRow : MethodName := ⟨RX5, "leastBestRow", "(II)I"⟩
abbrev cX5_bestJoy : ByteArray := prog_7_method_12_code
def yX5_bestJoy : MethodName := ⟨RX5, "bestJoy", "()I"⟩
abbrev cX5_envious : ByteArray := prog_7_method_13_code
def yX5_envious : MethodName := ⟨RX5, "envious", "()I"⟩
def RX6 : String := "TurningVillage$Walker"
def TX6 : u_T := fun k => match k with
  | 0 => ("TurningVillage$Walker", "steps", "[I", true)
  | _ => ("TurningVillage$Walker", "before", "[I", true)
def tyX6 : Nat → FieldType := fun k => match k with
  | 0 => .array .int
  | _ => .array .int
abbrev wsX60 : List Cond := u_ws RX6 TX6 2
theorem nmX6 : ∀ a, a < 2 → ∀ b, b < 2 → a ≠ b → (TX6 a).2.1 ≠ (TX6 b).2.1 := by decide +kernel
theorem tyX6_ok : ∀ k, k < 2 → parseFieldDescriptor (TX6 k).2.2.1 = some (tyX6 k) := by decide +kernel
abbrev cX6_init : ByteArray := prog_8_method_1_code
def yX6_init : MethodName := ⟨RX6, "<init>", "()V"⟩
abbrev cX6_begin : ByteArray := prog_8_method_2_code
def yX6_begin : MethodName := ⟨RX6, "begin", "(I)V"⟩
abbrev cX6_oneDay : ByteArray := prog_8_method_3_code
def yX6_oneDay : MethodName := ⟨RX6, "oneDay", "(LTurningVillage$Land;I)V"⟩
abbrev cX6_join : ByteArray := prog_8_method_4_code
def yX6_join : MethodName := ⟨RX6, "join", "(II)V"⟩
abbrev cX6_isOn : ByteArray := prog_8_method_5_code
def yX6_isOn : MethodName := ⟨RX6, "isOn", "(I)Z"⟩
abbrev cX6_stepsTo : ByteArray := prog_8_method_6_code
def yX6_stepsTo : MethodName := ⟨RX6, "stepsTo", "(I)I"⟩
def RX7 : String := "TurningVillage"
def TX7 : u_T := fun k => match k with
  | 0 => ("TurningVillage", "land", "LTurningVillage$Land;", true)
  | 1 => ("TurningVillage", "gales", "LTurningVillage$Gales;", true)
  | 2 => ("TurningVillage", "chance", "LTurningVillage$Chance;", true)
  | 3 => ("TurningVillage", "walker", "LTurningVillage$Walker;", true)
  | 4 => ("TurningVillage", "companion", "LTurningVillage$Walker;", true)
  | 5 => ("TurningVillage", "tenants", "LTurningVillage$Tenants;", true)
  | 6 => ("TurningVillage", "harvest", "LTurningVillage$Harvest;", true)
  | 7 => ("TurningVillage", "sheets", "[LTurningVillage$Sheet;", true)
  | _ => ("TurningVillage", "finding", "I", false)
def tyX7 : Nat → FieldType := fun k => match k with
  | 0 => .object "TurningVillage$Land"
  | 1 => .object "TurningVillage$Gales"
  | 2 => .object "TurningVillage$Chance"
  | 3 => .object "TurningVillage$Walker"
  | 4 => .object "TurningVillage$Walker"
  | 5 => .object "TurningVillage$Tenants"
  | 6 => .object "TurningVillage$Harvest"
  | 7 => .array (.object "TurningVillage$Sheet")
  | _ => .int
abbrev wsX70 : List Cond := u_ws RX7 TX7 9
theorem nmX7 : ∀ a, a < 9 → ∀ b, b < 9 → a ≠ b → (TX7 a).2.1 ≠ (TX7 b).2.1 := by decide +kernel
theorem tyX7_ok : ∀ k, k < 9 → parseFieldDescriptor (TX7 k).2.2.1 = some (tyX7 k) := by decide +kernel
abbrev cX7_init : ByteArray := prog_1_method_1_code
def yX7_init : MethodName := ⟨RX7, "<init>", "()V"⟩
abbrev cX7_type : ByteArray := prog_1_method_2_code
def yX7_type : MethodName := ⟨RX7, "type", "(I)I"⟩
abbrev cX7_wipe : ByteArray := prog_1_method_3_code
def yX7_wipe : MethodName := ⟨RX7, "wipe", "()I"⟩
abbrev cX7_fault : ByteArray := prog_1_method_4_code
def yX7_fault : MethodName := ⟨RX7, "fault", "()I"⟩
abbrev cX7_place : ByteArray := prog_1_method_5_code
def yX7_place : MethodName := ⟨RX7, "place", "(II)I"⟩
abbrev cX7_bridge : ByteArray := prog_1_method_6_code
def yX7_bridge : MethodName := ⟨RX7, "bridge", "(III)I"⟩
abbrev cX7_gale : ByteArray := prog_1_method_7_code
def yX7_gale : MethodName := ⟨RX7, "gale", "(III)I"⟩
abbrev cX7_read : ByteArray := prog_1_method_8_code
def yX7_read : MethodName := ⟨RX7, "read", "(II)I"⟩
abbrev cX7_takeBack : ByteArray := prog_1_method_9_code
def yX7_takeBack : MethodName := ⟨RX7, "takeBack", "(II)I"⟩
abbrev cX7_set : ByteArray := prog_1_method_10_code
def yX7_set : MethodName := ⟨RX7, "set", "(II)I"⟩
abbrev cX7_sun : ByteArray := prog_1_method_11_code
def yX7_sun : MethodName := ⟨RX7, "sun", "(II)I"⟩
abbrev cX7_turn : ByteArray := prog_1_method_12_code
def yX7_turn : MethodName := ⟨RX7, "turn", "(I)I"⟩
abbrev cX7_door : ByteArray := prog_1_method_13_code
def yX7_door : MethodName := ⟨RX7, "door", "(III)I"⟩
abbrev cX7_share : ByteArray := prog_1_method_14_code
def yX7_share : MethodName := ⟨RX7, "share", "(IIIII)J"⟩
abbrev cX7_shine : ByteArray := prog_1_method_15_code
def yX7_shine : MethodName := ⟨RX7, "shine", "(III)I"⟩
abbrev cX7_ahead : ByteArray := prog_1_method_16_code
def yX7_ahead : MethodName := ⟨RX7, "ahead", "(IIII)I"⟩
abbrev cX7_next : ByteArray := prog_1_method_17_code
def yX7_next : MethodName := ⟨RX7, "next", "(IIII)I"⟩
abbrev cX7_likely : ByteArray := prog_1_method_18_code
def yX7_likely : MethodName := ⟨RX7, "likely", "(IIIIIII)J"⟩
abbrev cX7_soon : ByteArray := prog_1_method_19_code
def yX7_soon : MethodName := ⟨RX7, "soon", "(III)I"⟩
abbrev cX7_carried : ByteArray := prog_1_method_20_code
def yX7_carried : MethodName := ⟨RX7, "carried", "(III)I"⟩
abbrev cX7_meet : ByteArray := prog_1_method_21_code
def yX7_meet : MethodName := ⟨RX7, "meet", "(IIII)I"⟩
abbrev cX7_wish : ByteArray := prog_1_method_22_code
def yX7_wish : MethodName := ⟨RX7, "wish", "(III)I"⟩
abbrev cX7_lives : ByteArray := prog_1_method_23_code
def yX7_lives : MethodName := ⟨RX7, "lives", "(I)I"⟩
abbrev cX7_joy : ByteArray := prog_1_method_24_code
def yX7_joy : MethodName := ⟨RX7, "joy", "(IIII)I"⟩
abbrev cX7_swap : ByteArray := prog_1_method_25_code
def yX7_swap : MethodName := ⟨RX7, "swap", "(II)I"⟩
abbrev cX7_best : ByteArray := prog_1_method_26_code
def yX7_best : MethodName := ⟨RX7, "best", "(III)I"⟩
abbrev cX7_envy : ByteArray := prog_1_method_27_code
def yX7_envy : MethodName := ⟨RX7, "envy", "(II)I"⟩
abbrev cX7_reaped : ByteArray := prog_1_method_28_code
def yX7_reaped : MethodName := ⟨RX7, "reaped", "(II)I"⟩
abbrev cX7_history : ByteArray := prog_1_method_29_code
def yX7_history : MethodName := ⟨RX7, "history", "(III)I"⟩
abbrev cX7_waits : ByteArray := prog_1_method_30_code
def yX7_waits : MethodName := ⟨RX7, "waits", "(II)I"⟩
abbrev cX7_dig : ByteArray := prog_1_method_31_code
def yX7_dig : MethodName := ⟨RX7, "dig", "(II)I"⟩
abbrev cX7_sheet : ByteArray := prog_1_method_32_code
def yX7_sheet : MethodName := ⟨RX7, "sheet", "(III)I"⟩
abbrev cX7_lose : ByteArray := prog_1_method_33_code
def yX7_lose : MethodName := ⟨RX7, "lose", "(I)I"⟩
abbrev cX7_put : ByteArray := prog_1_method_34_code
def yX7_put : MethodName := ⟨RX7, "put", "(IIII)I"⟩
abbrev cX7_get : ByteArray := prog_1_method_35_code
def yX7_get : MethodName := ⟨RX7, "get", "(III)I"⟩
abbrev cX7_copy : ByteArray := prog_1_method_36_code
def yX7_copy : MethodName := ⟨RX7, "copy", "(IIIII)I"⟩
abbrev cX7_write : ByteArray := prog_1_method_37_code
def yX7_write : MethodName := ⟨RX7, "write", "(II)I"⟩
abbrev cX7_count : ByteArray := prog_1_method_38_code
def yX7_count : MethodName := ⟨RX7, "count", "(I)I"⟩
abbrev cX7_digest : ByteArray := prog_1_method_39_code
def yX7_digest : MethodName := ⟨RX7, "digest", "()J"⟩
abbrev cX7_digestPlaces : ByteArray := prog_1_method_40_code
def yX7_digestPlaces : MethodName := ⟨RX7, "digestPlaces", "(J)J"⟩
abbrev cX7_digestRows : ByteArray := prog_1_method_41_code
def yX7_digestRows : MethodName := ⟨RX7, "digestRows", "(J)J"⟩
abbrev cX7_digestTenants : ByteArray := prog_1_method_42_code
def yX7_digestTenants : MethodName := ⟨RX7, "digestTenants", "(J)J"⟩
abbrev cX7_within : ByteArray := prog_1_method_43_code
def yX7_within : MethodName := ⟨RX7, "within", "(II)Z"⟩
abbrev cX7_isDay : ByteArray := prog_1_method_44_code
def yX7_isDay : MethodName := ⟨RX7, "isDay", "(I)Z"⟩
abbrev cX7_isSpan : ByteArray := prog_1_method_45_code
def yX7_isSpan : MethodName := ⟨RX7, "isSpan", "(II)Z"⟩
abbrev cX7_isThing : ByteArray := prog_1_method_46_code
def yX7_isThing : MethodName := ⟨RX7, "isThing", "(I)Z"⟩
abbrev cX7_isSheet : ByteArray := prog_1_method_47_code
def yX7_isSheet : MethodName := ⟨RX7, "isSheet", "(I)Z"⟩
abbrev cX7_isForm : ByteArray := prog_1_method_48_code
def yX7_isForm : MethodName := ⟨RX7, "isForm", "(I)Z"⟩
abbrev cX7_found : ByteArray := prog_1_method_49_code
def yX7_found : MethodName := ⟨RX7, "found", "(I)I"⟩
abbrev cX7_lowestTerms : ByteArray := prog_1_method_50_code
def yX7_lowestTerms : MethodName := ⟨RX7, "lowestTerms", "(JJI)J"⟩
abbrev cX7_daysWith : ByteArray := prog_1_method_51_code
def yX7_daysWith : MethodName := ⟨RX7, "daysWith", "(II)I"⟩
abbrev cX7_walkTo : ByteArray := prog_1_method_52_code
def yX7_walkTo : MethodName := ⟨RX7, "walkTo", "(III)I"⟩
abbrev cX7_reckonJoys : ByteArray := prog_1_method_53_code
def yX7_reckonJoys : MethodName := ⟨RX7, "reckonJoys", "(II)V"⟩
abbrev cX7_longestWait : ByteArray := prog_1_method_54_code
def yX7_longestWait : MethodName := ⟨RX7, "longestWait", "(II)I"⟩
def RX8 : String := "TurningVillageModel"
def TX8 : u_T := fun k => match k with
  | 0 => ("TurningVillageModel", "typed", "I", false)
  | 1 => ("TurningVillageModel", "text", "[I", true)
  | 2 => ("TurningVillageModel", "things", "[I", true)
  | 3 => ("TurningVillageModel", "closed", "[I", true)
  | 4 => ("TurningVillageModel", "bridges", "I", false)
  | 5 => ("TurningVillageModel", "bridge", "[I", true)
  | 6 => ("TurningVillageModel", "suns", "[I", true)
  | 7 => ("TurningVillageModel", "gales", "I", false)
  | 8 => ("TurningVillageModel", "galeDay", "[I", true)
  | 9 => ("TurningVillageModel", "galeFrom", "[I", true)
  | 10 => ("TurningVillageModel", "galeTime", "[I", true)
  | 11 => ("TurningVillageModel", "galeBack", "[I", true)
  | 12 => ("TurningVillageModel", "lastTime", "I", false)
  | 13 => ("TurningVillageModel", "setting", "[I", true)
  | 14 => ("TurningVillageModel", "turns", "[I", true)
  | 15 => ("TurningVillageModel", "chance", "[J", true)
  | 16 => ("TurningVillageModel", "steps", "[I", true)
  | 17 => ("TurningVillageModel", "then", "[I", true)
  | 18 => ("TurningVillageModel", "wishes", "[I", true)
  | 19 => ("TurningVillageModel", "lives", "[I", true)
  | 20 => ("TurningVillageModel", "joys", "[I", true)
  | 21 => ("TurningVillageModel", "mostBehind", "[I", true)
  | 22 => ("TurningVillageModel", "reaped", "[I", true)
  | 23 => ("TurningVillageModel", "fields", "[I", true)
  | 24 => ("TurningVillageModel", "isThere", "[Z", true)
  | 25 => ("TurningVillageModel", "forms", "[I", true)
  | 26 => ("TurningVillageModel", "sizes", "[I", true)
  | 27 => ("TurningVillageModel", "items", "[I", true)
  | 28 => ("TurningVillageModel", "moved", "[I", true)
  | _ => ("TurningVillageModel", "finding", "I", false)
def tyX8 : Nat → FieldType := fun k => match k with
  | 0 => .int
  | 1 => .array .int
  | 2 => .array .int
  | 3 => .array .int
  | 4 => .int
  | 5 => .array .int
  | 6 => .array .int
  | 7 => .int
  | 8 => .array .int
  | 9 => .array .int
  | 10 => .array .int
  | 11 => .array .int
  | 12 => .int
  | 13 => .array .int
  | 14 => .array .int
  | 15 => .array .long
  | 16 => .array .int
  | 17 => .array .int
  | 18 => .array .int
  | 19 => .array .int
  | 20 => .array .int
  | 21 => .array .int
  | 22 => .array .int
  | 23 => .array .int
  | 24 => .array .boolean
  | 25 => .array .int
  | 26 => .array .int
  | 27 => .array .int
  | 28 => .array .int
  | _ => .int
abbrev wsX80 : List Cond := u_ws RX8 TX8 30
theorem nmX8 : ∀ a, a < 30 → ∀ b, b < 30 → a ≠ b → (TX8 a).2.1 ≠ (TX8 b).2.1 := by decide +kernel
theorem tyX8_ok : ∀ k, k < 30 → parseFieldDescriptor (TX8 k).2.2.1 = some (tyX8 k) := by decide +kernel
abbrev cX8_init : ByteArray := prog_10_method_1_code
def yX8_init : MethodName := ⟨RX8, "<init>", "()V"⟩
abbrev cX8_in : ByteArray := prog_10_method_3_code
def yX8_in : MethodName := ⟨RX8, "in", "(III)Z"⟩
abbrev cX8_isIn : ByteArray := prog_10_method_4_code
def yX8_isIn : MethodName := ⟨RX8, "isIn", "(II)Z"⟩
abbrev cX8_no : ByteArray := prog_10_method_5_code
def yX8_no : MethodName := ⟨RX8, "no", "(I)J"⟩
abbrev cX8_lowest : ByteArray := prog_10_method_6_code
def yX8_lowest : MethodName := ⟨RX8, "lowest", "(JJI)J"⟩
abbrev cX8_type : ByteArray := prog_10_method_7_code
def yX8_type : MethodName := ⟨RX8, "type", "(I)I"⟩
abbrev cX8_wipe : ByteArray := prog_10_method_8_code
def yX8_wipe : MethodName := ⟨RX8, "wipe", "()I"⟩
abbrev cX8_byteAt : ByteArray := prog_10_method_9_code
def yX8_byteAt : MethodName := ⟨RX8, "byteAt", "(I)I"⟩
abbrev cX8_thingOf : ByteArray := prog_10_method_10_code
def yX8_thingOf : MethodName := ⟨RX8, "thingOf", "(I)I"⟩
abbrev cX8_mayBe : ByteArray := prog_10_method_11_code
def yX8_mayBe : MethodName := ⟨RX8, "mayBe", "(II)Z"⟩
abbrev cX8_reads : ByteArray := prog_10_method_12_code
def yX8_reads : MethodName := ⟨RX8, "reads", "()I"⟩
abbrev cX8_faultNow : ByteArray := prog_10_method_13_code
def yX8_faultNow : MethodName := ⟨RX8, "faultNow", "()I"⟩
abbrev cX8_fault : ByteArray := prog_10_method_14_code
def yX8_fault : MethodName := ⟨RX8, "fault", "()I"⟩
abbrev cX8_placeOf : ByteArray := prog_10_method_15_code
def yX8_placeOf : MethodName := ⟨RX8, "placeOf", "(II)I"⟩
abbrev cX8_isEighth : ByteArray := prog_10_method_16_code
def yX8_isEighth : MethodName := ⟨RX8, "isEighth", "(I)Z"⟩
abbrev cX8_place : ByteArray := prog_10_method_17_code
def yX8_place : MethodName := ⟨RX8, "place", "(II)I"⟩
abbrev cX8_sun : ByteArray := prog_10_method_18_code
def yX8_sun : MethodName := ⟨RX8, "sun", "(II)I"⟩
abbrev cX8_galeMore : ByteArray := prog_10_method_19_code
def yX8_galeMore : MethodName := ⟨RX8, "galeMore", "(III)I"⟩
abbrev cX8_gale : ByteArray := prog_10_method_20_code
def yX8_gale : MethodName := ⟨RX8, "gale", "(III)I"⟩
abbrev cX8_read : ByteArray := prog_10_method_21_code
def yX8_read : MethodName := ⟨RX8, "read", "(II)I"⟩
abbrev cX8_takeBack : ByteArray := prog_10_method_22_code
def yX8_takeBack : MethodName := ⟨RX8, "takeBack", "(II)I"⟩
abbrev cX8_set : ByteArray := prog_10_method_23_code
def yX8_set : MethodName := ⟨RX8, "set", "(II)I"⟩
abbrev cX8_doesCount : ByteArray := prog_10_method_24_code
def yX8_doesCount : MethodName := ⟨RX8, "doesCount", "(I)Z"⟩
abbrev cX8_lays : ByteArray := prog_10_method_25_code
def yX8_lays : MethodName := ⟨RX8, "lays", "()V"⟩
abbrev cX8_isDay : ByteArray := prog_10_method_26_code
def yX8_isDay : MethodName := ⟨RX8, "isDay", "(I)Z"⟩
abbrev cX8_turnOf : ByteArray := prog_10_method_27_code
def yX8_turnOf : MethodName := ⟨RX8, "turnOf", "(I)I"⟩
abbrev cX8_turn : ByteArray := prog_10_method_28_code
def yX8_turn : MethodName := ⟨RX8, "turn", "(I)I"⟩
abbrev cX8_isOver : ByteArray := prog_10_method_29_code
def yX8_isOver : MethodName := ⟨RX8, "isOver", "(III)Z"⟩
abbrev cX8_bridge : ByteArray := prog_10_method_30_code
def yX8_bridge : MethodName := ⟨RX8, "bridge", "(III)I"⟩
abbrev cX8_doorAt : ByteArray := prog_10_method_31_code
def yX8_doorAt : MethodName := ⟨RX8, "doorAt", "(II)I"⟩
abbrev cX8_doorOf : ByteArray := prog_10_method_32_code
def yX8_doorOf : MethodName := ⟨RX8, "doorOf", "(III)I"⟩
abbrev cX8_door : ByteArray := prog_10_method_33_code
def yX8_door : MethodName := ⟨RX8, "door", "(III)I"⟩
abbrev cX8_isThing : ByteArray := prog_10_method_34_code
def yX8_isThing : MethodName := ⟨RX8, "isThing", "(I)Z"⟩
abbrev cX8_isSpan : ByteArray := prog_10_method_35_code
def yX8_isSpan : MethodName := ⟨RX8, "isSpan", "(II)Z"⟩
abbrev cX8_daysOf : ByteArray := prog_10_method_36_code
def yX8_daysOf : MethodName := ⟨RX8, "daysOf", "(IIII)I"⟩
abbrev cX8_share : ByteArray := prog_10_method_37_code
def yX8_share : MethodName := ⟨RX8, "share", "(IIIII)J"⟩
abbrev cX8_shineOf : ByteArray := prog_10_method_38_code
def yX8_shineOf : MethodName := ⟨RX8, "shineOf", "(III)I"⟩
abbrev cX8_shine : ByteArray := prog_10_method_39_code
def yX8_shine : MethodName := ⟨RX8, "shine", "(III)I"⟩
abbrev cX8_aheadOf : ByteArray := prog_10_method_40_code
def yX8_aheadOf : MethodName := ⟨RX8, "aheadOf", "(IIII)I"⟩
abbrev cX8_ahead : ByteArray := prog_10_method_41_code
def yX8_ahead : MethodName := ⟨RX8, "ahead", "(IIII)I"⟩
abbrev cX8_works : ByteArray := prog_10_method_42_code
def yX8_works : MethodName := ⟨RX8, "works", "(IIII)Z"⟩
abbrev cX8_next : ByteArray := prog_10_method_43_code
def yX8_next : MethodName := ⟨RX8, "next", "(IIII)I"⟩
abbrev cX8_likely : ByteArray := prog_10_method_44_code
def yX8_likely : MethodName := ⟨RX8, "likely", "(IIIIIII)J"⟩
abbrev cX8_begins : ByteArray := prog_10_method_45_code
def yX8_begins : MethodName := ⟨RX8, "begins", "(II)V"⟩
abbrev cX8_isStep : ByteArray := prog_10_method_46_code
def yX8_isStep : MethodName := ⟨RX8, "isStep", "(III)Z"⟩
abbrev cX8_goes : ByteArray := prog_10_method_47_code
def yX8_goes : MethodName := ⟨RX8, "goes", "(II)V"⟩
abbrev cX8_soonOf : ByteArray := prog_10_method_48_code
def yX8_soonOf : MethodName := ⟨RX8, "soonOf", "(IIII)I"⟩
abbrev cX8_soon : ByteArray := prog_10_method_49_code
def yX8_soon : MethodName := ⟨RX8, "soon", "(III)I"⟩
abbrev cX8_carried : ByteArray := prog_10_method_50_code
def yX8_carried : MethodName := ⟨RX8, "carried", "(III)I"⟩
abbrev cX8_meetOf : ByteArray := prog_10_method_51_code
def yX8_meetOf : MethodName := ⟨RX8, "meetOf", "(IIII)I"⟩
abbrev cX8_meet : ByteArray := prog_10_method_52_code
def yX8_meet : MethodName := ⟨RX8, "meet", "(IIII)I"⟩
abbrev cX8_wish : ByteArray := prog_10_method_53_code
def yX8_wish : MethodName := ⟨RX8, "wish", "(III)I"⟩
abbrev cX8_lives : ByteArray := prog_10_method_54_code
def yX8_lives : MethodName := ⟨RX8, "lives", "(I)I"⟩
abbrev cX8_laysJoy : ByteArray := prog_10_method_55_code
def yX8_laysJoy : MethodName := ⟨RX8, "laysJoy", "(II)V"⟩
abbrev cX8_joy : ByteArray := prog_10_method_56_code
def yX8_joy : MethodName := ⟨RX8, "joy", "(IIII)I"⟩
abbrev cX8_swap : ByteArray := prog_10_method_57_code
def yX8_swap : MethodName := ⟨RX8, "swap", "(II)I"⟩
abbrev cX8_ones : ByteArray := prog_10_method_58_code
def yX8_ones : MethodName := ⟨RX8, "ones", "(I)I"⟩
abbrev cX8_bestOf : ByteArray := prog_10_method_59_code
def yX8_bestOf : MethodName := ⟨RX8, "bestOf", "(III)I"⟩
abbrev cX8_best : ByteArray := prog_10_method_60_code
def yX8_best : MethodName := ⟨RX8, "best", "(III)I"⟩
abbrev cX8_envyOf : ByteArray := prog_10_method_61_code
def yX8_envyOf : MethodName := ⟨RX8, "envyOf", "(II)I"⟩
abbrev cX8_envy : ByteArray := prog_10_method_62_code
def yX8_envy : MethodName := ⟨RX8, "envy", "(II)I"⟩
abbrev cX8_reaped : ByteArray := prog_10_method_63_code
def yX8_reaped : MethodName := ⟨RX8, "reaped", "(II)I"⟩
abbrev cX8_historyOf : ByteArray := prog_10_method_64_code
def yX8_historyOf : MethodName := ⟨RX8, "historyOf", "(III)I"⟩
abbrev cX8_history : ByteArray := prog_10_method_65_code
def yX8_history : MethodName := ⟨RX8, "history", "(III)I"⟩
abbrev cX8_waitsOf : ByteArray := prog_10_method_66_code
def yX8_waitsOf : MethodName := ⟨RX8, "waitsOf", "(II)I"⟩
abbrev cX8_waits : ByteArray := prog_10_method_67_code
def yX8_waits : MethodName := ⟨RX8, "waits", "(II)I"⟩
abbrev cX8_digOf : ByteArray := prog_10_method_68_code
def yX8_digOf : MethodName := ⟨RX8, "digOf", "(II)I"⟩
abbrev cX8_dig : ByteArray := prog_10_method_69_code
def yX8_dig : MethodName := ⟨RX8, "dig", "(II)I"⟩
abbrev cX8_meets : ByteArray := prog_10_method_70_code
def yX8_meets : MethodName := ⟨RX8, "meets", "(I)I"⟩
abbrev cX8_isSheet : ByteArray := prog_10_method_71_code
def yX8_isSheet : MethodName := ⟨RX8, "isSheet", "(I)Z"⟩
abbrev cX8_sheet : ByteArray := prog_10_method_72_code
def yX8_sheet : MethodName := ⟨RX8, "sheet", "(III)I"⟩
abbrev cX8_lose : ByteArray := prog_10_method_73_code
def yX8_lose : MethodName := ⟨RX8, "lose", "(I)I"⟩
abbrev cX8_lacks : ByteArray := prog_10_method_74_code
def yX8_lacks : MethodName := ⟨RX8, "lacks", "(III)I"⟩
abbrev cX8_keep : ByteArray := prog_10_method_75_code
def yX8_keep : MethodName := ⟨RX8, "keep", "(III)V"⟩
abbrev cX8_put : ByteArray := prog_10_method_76_code
def yX8_put : MethodName := ⟨RX8, "put", "(IIII)I"⟩
abbrev cX8_get : ByteArray := prog_10_method_77_code
def yX8_get : MethodName := ⟨RX8, "get", "(III)I"⟩
abbrev cX8_copy : ByteArray := prog_10_method_78_code
def yX8_copy : MethodName := ⟨RX8, "copy", "(IIIII)I"⟩
abbrev cX8_write : ByteArray := prog_10_method_79_code
def yX8_write : MethodName := ⟨RX8, "write", "(II)I"⟩
abbrev cX8_sumOf : ByteArray := prog_10_method_80_code
def yX8_sumOf : MethodName := ⟨RX8, "sumOf", "(I)I"⟩
abbrev cX8_count : ByteArray := prog_10_method_81_code
def yX8_count : MethodName := ⟨RX8, "count", "(I)I"⟩
abbrev cX8_digest : ByteArray := prog_10_method_82_code
def yX8_digest : MethodName := ⟨RX8, "digest", "()J"⟩
def RJ6 : String := "java/lang/Integer"
abbrev cJ6_numberOfTrailingZeros_0f7a4 : ByteArray := prog_11_method_48_code
def yJ6_numberOfTrailingZeros_0f7a4 : MethodName := ⟨RJ6, "numberOfTrailingZeros", "(I)I"⟩
abbrev cJ6_bitCount_0f7a4 : ByteArray := prog_11_method_49_code
def yJ6_bitCount_0f7a4 : MethodName := ⟨RJ6, "bitCount", "(I)I"⟩
def RJ9 : String := "java/lang/Math"
abbrev cJ9_max_7cf53 : ByteArray := prog_12_method_65_code
def yJ9_max_7cf53 : MethodName := ⟨RJ9, "max", "(II)I"⟩
abbrev cJ9_min_7cf53 : ByteArray := prog_12_method_69_code
def yJ9_min_7cf53 : MethodName := ⟨RJ9, "min", "(II)I"⟩
def RJ10 : String := "java/lang/System"
def RJ7 : String := "java/util/Arrays"
abbrev cJ7_fill_d0a16 : ByteArray := prog_14_method_101_code
def yJ7_fill_d0a16 : MethodName := ⟨RJ7, "fill", "([JJ)V"⟩
abbrev cJ7_fill_53178 : ByteArray := prog_14_method_103_code
def yJ7_fill_53178 : MethodName := ⟨RJ7, "fill", "([II)V"⟩
def RL : String := "TurningVillageLaw"
abbrev cL_law : ByteArray := code
def yL_law : MethodName := ⟨RL, "law", "([I)Z"⟩
end
section
/-! THE MINI MACHINE: a fixed world of cells whose shape never changes; a method's run is judged by MW, its contract by CallOK. -/
abbrev Mth : Type := MethodName × ByteArray × Nat × Option FieldType × String
def mY (M : Mth) : MethodName := M.1
def mC (M : Mth) : ByteArray := M.2.1
def mN (M : Mth) : Nat := M.2.2.1
def mR (M : Mth) : Option FieldType := M.2.2.2.1
def mO (M : Mth) : String := M.2.2.2.2
abbrev Rho : Type := (Nat → Nat → Int32) × (Nat → Nat → Int64)
abbrev Wd : Type := va_G × (Nat → Nat) × (Nat → ClassId)
def rv (G : Wd) : Value → Value
  | .ref k => .ref (G.2.1 k)
  | v => v
theorem rv_cat (G : Wd) (v : Value) : (rv G v).category = v.category := by cases v <;> rfl
def BT : List Cond := lw_tbl.filter goodWord
theorem bt_of {w : Cond} (h : w ∈ lw_tbl) (g : goodWord w = true) : w ∈ BT := List.mem_filter.mpr ⟨h, g⟩
theorem bt_good {w : Cond} (h : w ∈ BT) : goodWord w = true := (List.mem_filter.mp h).2
theorem bt_in {w : Cond} (h : w ∈ BT) : w ∈ lw_tbl := (List.mem_filter.mp h).1
theorem in_t1 {w : Cond} (h : w ∈ tables_1_1) : w ∈ lw_tbl := List.mem_append_right _ (List.mem_append_left _ h)
theorem in_t2 {w : Cond} (h : w ∈ tables_1_2) : w ∈ lw_tbl := List.mem_append_right _ (List.mem_append_right _ (List.mem_append_left _ h))
theorem in_t3 {w : Cond} (h : w ∈ tables_1_3) : w ∈ lw_tbl := List.mem_append_right _ (List.mem_append_right _ (List.mem_append_right _ (List.mem_append_left _ h)))
theorem in_t4 {w : Cond} (h : w ∈ tables_1_4) : w ∈ lw_tbl := List.mem_append_right _ (List.mem_append_right _ (List.mem_append_right _ (List.mem_append_right _ (List.mem_append_left _ h))))
theorem in_t5 {w : Cond} (h : w ∈ tables_1_5) : w ∈ lw_tbl := List.mem_append_right _ (List.mem_append_right _ (List.mem_append_right _ (List.mem_append_right _ (List.mem_append_right _ h))))
theorem in_s1 {y : MethodName} {n : Nat} (h : (y, n) ∈ lw_privs_1) : Cond.selects y.cls y y ∈ lw_tbl := List.mem_append_left _ (List.mem_map.mpr ⟨(y, n), List.mem_append_left _ h, rfl⟩)
theorem in_s2 {y : MethodName} {n : Nat} (h : (y, n) ∈ lw_privs_2) : Cond.selects y.cls y y ∈ lw_tbl := List.mem_append_left _ (List.mem_map.mpr ⟨(y, n), List.mem_append_right _ (List.mem_append_left _ h), rfl⟩)
theorem in_s3 {y : MethodName} {n : Nat} (h : (y, n) ∈ lw_privs_3) : Cond.selects y.cls y y ∈ lw_tbl := List.mem_append_left _ (List.mem_map.mpr ⟨(y, n), List.mem_append_right _ (List.mem_append_right _ (List.mem_append_left _ h)), rfl⟩)
theorem in_s4 {y : MethodName} {n : Nat} (h : (y, n) ∈ lw_privs_4) : Cond.selects y.cls y y ∈ lw_tbl := List.mem_append_left _ (List.mem_map.mpr ⟨(y, n), List.mem_append_right _ (List.mem_append_right _ (List.mem_append_right _ h)), rfl⟩)
def wsM (M : Mth) : List Cond := Cond.code (mY M) (mC M) (mN M) (mR M) :: BT
theorem goodBT {M : Mth} (h : Cond.code (mY M) (mC M) (mN M) (mR M) ∈ BT) : GoodIn BT (wsM M) := fun w hw => by
  have hm : w ∈ BT := by
    rcases List.mem_cons.mp hw with rfl | h2
    · exact h
    · exact h2
  exact ⟨hm, good_of_word (bt_good hm)⟩
/-! cells -/
def CL : List vw_C := [(RX0, TX0, 2), (RX1, TX1, 12), (RX2, TX2, 9), (RX3, TX3, 11), (RX4, TX4, 4), (RX5, TX5, 5), (RX6, TX6, 2), (RX7, TX7, 9), (RX8, TX8, 30)]
def NC : Nat := 73
def shps : List ((Nat × Nat) ⊕ (Nat × List Nat)) := [.inr (7, [3, 12, 20, 22, 25, 28, 34, 40, 0]), .inr (3, [4, 0, 0, 5, 6, 7, 0, 8, 9, 10, 11]), .inl (0, 60), .inl (0, 8), .inl (0, 8), .inl (0, 8), .inl (0, 4), .inl (0, 4), .inl (0, 4), .inl (0, 4), .inr (1, [0, 13, 14, 15, 16, 0, 0, 0, 0, 17, 18, 19]), .inl (0, 60), .inl (0, 60), .inl (0, 60), .inl (0, 60), .inl (0, 100), .inl (0, 8), .inl (0, 8), .inr (0, [21, 1]), .inl (1, 8), .inr (6, [23, 24]), .inl (0, 16), .inl (0, 16), .inr (6, [26, 27]), .inl (0, 16), .inl (0, 16), .inr (5, [29, 30, 31, 32, 33]), .inl (0, 8), .inl (0, 40), .inl (0, 64), .inl (0, 256), .inl (0, 8), .inr (2, [35, 36, 37, 38, 39, 0, 0, 0, 0]), .inl (0, 8), .inl (1, 8), .inl (0, 13), .inl (0, 13), .inl (1, 13), .inl (42, 4), .inr (4, [0, 0, 0, 45]), .inr (4, [0, 0, 0, 46]), .inr (4, [0, 0, 0, 47]), .inr (4, [0, 0, 0, 48]), .inl (0, 60), .inl (0, 60), .inl (0, 60), .inl (0, 60), .inr (8, [0, 50, 51, 52, 0, 53, 54, 0, 55, 56, 57, 58, 0, 59, 60, 61, 62, 63, 64, 65, 66, 67, 68, 69, 70, 71, 72, 73, 74, 0]), .inl (0, 60), .inl (0, 8), .inl (0, 8), .inl (0, 16), .inl (0, 8), .inl (0, 60), .inl (0, 60), .inl (0, 60), .inl (0, 60), .inl (0, 3), .inl (0, 100), .inl (1, 16), .inl (0, 32), .inl (0, 16), .inl (0, 40), .inl (0, 8), .inl (0, 64), .inl (0, 256), .inl (0, 8), .inl (0, 8), .inl (2, 4), .inl (0, 4), .inl (0, 4), .inl (0, 240), .inl (0, 60)]
def shp (k : Nat) : (Nat × Nat) ⊕ (Nat × List Nat) := shps.getD k (.inl (0, 0))
def fv (G : Wd) (ρ : Rho) (k j f : Nat) : Value := match f with
  | 0 => .int (ρ.1 k j)
  | 1 => .long (ρ.2 k j)
  | n + 2 => .ref (G.2.1 n)
def fvs (G : Wd) (ρ : Rho) (k : Nat) : Nat → List Nat → List Value
  | _, [] => []
  | j, f :: fs => fv G ρ k j f :: fvs G ρ k (j + 1) fs
def arrOf (G : Wd) (ρ : Rho) (k t n : Nat) : ClassId × vp_A := match t with
  | 0 => (G.2.2 0, n, .inl (ρ.1 k))
  | 1 => (G.2.2 1, n, .inr (.inl (ρ.2 k)))
  | 2 => (G.2.2 2, n, .inl (ρ.1 k))
  | b + 3 => (G.2.2 3, n, .inr (.inr (.inr (.inr (fun i => some (G.2.1 (b + i)))))))
def ce (G : Wd) (ρ : Rho) (k : Nat) : va_E := match shp k with
  | .inr (ci, fs) => .inr (ci, fvs G ρ k 0 fs)
  | .inl (t, n) => .inl (arrOf G ρ k t n)
def wsO (G : Wd) (ρ : Rho) : va_W := (List.range NC).map fun k => (G.2.1 k, ce G ρ k)
theorem wsO_at {G : Wd} {ρ : Rho} {k : Nat} (h : k < NC) : (wsO G ρ)[k]? = some (G.2.1 k, ce G ρ k) := by simp [wsO, h]
theorem wsO_set {G : Wd} {ρ ρ' : Rho} {k : Nat} {e : va_E} (h : k < NC) (he : ce G ρ' k = e) (ho : ∀ j, j ≠ k → ce G ρ' j = ce G ρ j) : (wsO G ρ).set k (G.2.1 k, e) = wsO G ρ' := by
  apply List.ext_getElem?
  intro i
  by_cases hi : i < NC
  · rw [wsO_at hi]
    by_cases hik : i = k
    · subst hik
      rw [List.getElem?_set_self (by simpa [wsO] using hi), he]
    · rw [List.getElem?_set_ne (Ne.symm hik), wsO_at hi, ho i hik]
  · rw [List.getElem?_eq_none (by simpa [wsO] using hi), List.getElem?_eq_none (by simpa [wsO] using hi)]
def AG (G : Wd) : Nat → Prop := fun q => ∃ k, k < NC ∧ q = G.2.1 k
def Gd (G : Wd) : Prop := ∀ i j, i < NC → j < NC → G.2.1 i = G.2.1 j → i = j
theorem wsO_D {G : Wd} (hG : Gd G) (ρ : Rho) : va_D (AG G) (wsO G ρ) := by
  have key : ∀ (i : Nat) (q : Nat × va_E), (wsO G ρ)[i]? = some q → i < NC ∧ q.1 = G.2.1 i := by
    intro i q h
    have hi : i < NC := by
      have := (List.getElem?_eq_some_iff.mp h).1
      simpa [wsO] using this
    rw [wsO_at hi] at h
    cases h
    exact ⟨hi, rfl⟩
  refine ⟨fun i j p q hp hq e => ?_, fun k q hq => ?_⟩
  · obtain ⟨h1, h2⟩ := key i p hp
    obtain ⟨h3, h4⟩ := key j q hq
    exact hG i j h1 h3 (by rw [← h2, ← h4]; exact e)
  · obtain ⟨h1, h2⟩ := key k q hq
    exact ⟨k, h1, h2⟩
def tyO (G : Wd) : List (ClassId × FieldType) := [(G.2.2 0, .int), (G.2.2 1, .long), (G.2.2 2, .boolean), (G.2.2 3, .object "TurningVillage$Sheet")]
/-! writes -/
def wI (ρ : Rho) (k j : Nat) (v : Int32) : Rho := (fun a b => if a = k ∧ b = j then v else ρ.1 a b, ρ.2)
def wL (ρ : Rho) (k j : Nat) (v : Int64) : Rho := (ρ.1, fun a b => if a = k ∧ b = j then v else ρ.2 a b)
theorem wI_ne {ρ : Rho} {k j a : Nat} {v : Int32} (h : a ≠ k) : (wI ρ k j v).1 a = ρ.1 a := by
  funext b
  simp [wI, h]
theorem wI_upd {ρ : Rho} {k j : Nat} {v : Int32} : (wI ρ k j v).1 k = upd (ρ.1 k) j v := by
  funext b
  simp [wI, upd]
theorem wL_ne {ρ : Rho} {k j a : Nat} {v : Int64} (h : a ≠ k) : (wL ρ k j v).2 a = ρ.2 a := by
  funext b
  simp [wL, h]
theorem wL_upd {ρ : Rho} {k j : Nat} {v : Int64} : (wL ρ k j v).2 k = vp_updL (ρ.2 k) j v := by
  funext b
  simp [wL, vp_updL]
theorem fvs_congr {G : Wd} {ρ ρ' : Rho} {k : Nat} (h1 : ρ'.1 k = ρ.1 k) (h2 : ρ'.2 k = ρ.2 k) : ∀ (fs : List Nat) (j : Nat), fvs G ρ' k j fs = fvs G ρ k j fs
  | [], _ => rfl
  | f :: fs, j => by
    simp only [fvs]
    rw [fvs_congr h1 h2 fs (j + 1)]
    congr 1
    unfold fv
    split <;> simp [h1, h2]
theorem ce_congr {G : Wd} {ρ ρ' : Rho} {k : Nat} (h1 : ρ'.1 k = ρ.1 k) (h2 : ρ'.2 k = ρ.2 k) : ce G ρ' k = ce G ρ k := by
  unfold ce
  split
  · rw [fvs_congr h1 h2]
  · congr 1
    unfold arrOf
    split <;> simp [h1, h2]
theorem fvs_get {G : Wd} {ρ : Rho} {k : Nat} : ∀ (fs : List Nat) (j i f : Nat), fs[i]? = some f → (fvs G ρ k j fs)[i]? = some (fv G ρ k (j + i) f)
  | [], _, _, _, h => by simp at h
  | g :: fs, j, 0, f, h => by simp at h; subst h; rfl
  | g :: fs, j, i + 1, f, h => by
    simp only [fvs, List.getElem?_cons_succ] at h ⊢
    rw [fvs_get fs (j + 1) i f h, show j + 1 + i = j + (i + 1) by omega]
theorem fvs_setI {G : Wd} {ρ : Rho} {k : Nat} {v : Int32} : ∀ (fs : List Nat) (j i : Nat), fs[i]? = some 0 → (fvs G ρ k j fs).set i (.int v) = fvs G (wI ρ k (j + i) v) k j fs
  | [], _, _, h => by simp at h
  | g :: fs, j, 0, h => by
    simp at h
    subst h
    simp only [fvs, List.set_cons_zero]
    congr 1
    · simp [fv, wI]
    · have : ∀ (l : List Nat) (q : Nat), j < q → fvs G ρ k q l = fvs G (wI ρ k (j + 0) v) k q l := by
        intro l
        induction l with
        | nil => intro q _; rfl
        | cons a l ih =>
          intro q hq
          simp only [fvs]
          rw [ih (q + 1) (by omega)]
          congr 1
          unfold fv
          split
          · simp [wI]; omega
          · rfl
          · rfl
      exact this fs (j + 1) (by omega)
  | g :: fs, j, i + 1, h => by
    simp only [fvs, List.set_cons_succ, List.getElem?_cons_succ] at h ⊢
    rw [fvs_setI fs (j + 1) i h, show j + 1 + i = j + (i + 1) by omega]
    congr 1
    unfold fv
    split
    · simp [wI]
    · rfl
    · rfl
theorem fvs_setL {G : Wd} {ρ : Rho} {k : Nat} {v : Int64} : ∀ (fs : List Nat) (j i : Nat), fs[i]? = some 1 → (fvs G ρ k j fs).set i (.long v) = fvs G (wL ρ k (j + i) v) k j fs
  | [], _, _, h => by simp at h
  | g :: fs, j, 0, h => by
    simp at h
    subst h
    simp only [fvs, List.set_cons_zero]
    congr 1
    · simp [fv, wL]
    · have : ∀ (l : List Nat) (q : Nat), j < q → fvs G ρ k q l = fvs G (wL ρ k (j + 0) v) k q l := by
        intro l
        induction l with
        | nil => intro q _; rfl
        | cons a l ih =>
          intro q hq
          simp only [fvs]
          rw [ih (q + 1) (by omega)]
          congr 1
          unfold fv
          split
          · rfl
          · simp [wL]; omega
          · rfl
      exact this fs (j + 1) (by omega)
  | g :: fs, j, i + 1, h => by
    simp only [fvs, List.set_cons_succ, List.getElem?_cons_succ] at h ⊢
    rw [fvs_setL fs (j + 1) i h, show j + 1 + i = j + (i + 1) by omega]
    congr 1
    unfold fv
    split
    · rfl
    · simp [wL]
    · rfl
theorem fvs_len {G : Wd} {ρ : Rho} {k : Nat} : ∀ (fs : List Nat) (j : Nat), (fvs G ρ k j fs).length = fs.length
  | [], _ => rfl
  | _ :: fs, j => by simp [fvs, fvs_len fs (j + 1)]
/-! locals -/
def lg : List (Option Value) → Nat → Option Value
  | [], _ => none
  | a :: _, 0 => a
  | _ :: t, n + 1 => lg t n
def lset : List (Option Value) → Nat → Option Value → List (Option Value)
  | [], _, _ => []
  | _ :: t, 0, v => v :: t
  | a :: t, n + 1, v => a :: lset t n v
def lk (ls : List (Option Value)) (i : Nat) : List (Option Value) := match i with
  | 0 => ls
  | j + 1 => match lg ls j with
    | some v => if v.category = 2 then lset ls j none else ls
    | none => ls
theorem lg_lset_ne : ∀ (ls : List (Option Value)) (i j : Nat) (v : Option Value), j ≠ i → lg (lset ls i v) j = lg ls j
  | [], _, _, _, _ => rfl
  | _ :: _, 0, 0, _, h => absurd rfl h
  | _ :: _, 0, _ + 1, _, _ => rfl
  | _ :: _, _ + 1, 0, _, _ => rfl
  | _ :: t, i + 1, j + 1, v, h => lg_lset_ne t i j v (fun e => h (by rw [e]))
theorem lg_lset_eq : ∀ (ls : List (Option Value)) (i : Nat) (v : Option Value) (w : Value), lg (lset ls i v) i = some w → v = some w
  | [], _, _, _, h => by simp [lset, lg] at h
  | _ :: _, 0, _, _, h => h
  | _ :: t, i + 1, v, w, h => lg_lset_eq t i v w h
theorem lg_lk {ls : List (Option Value)} {i j : Nat} {w : Value} (h : lg (lk ls i) j = some w) : lg ls j = some w ∧ ¬ (j + 1 = i ∧ w.category = 2) := by
  unfold lk at h
  split at h
  · exact ⟨h, fun q => by omega⟩
  · rename_i n
    split at h
    · rename_i v hv
      split at h
      · rename_i hc
        by_cases hj : j = n
        · subst hj
          exact absurd (lg_lset_eq _ _ _ _ h) (by simp)
        · rw [lg_lset_ne _ _ _ _ hj] at h
          exact ⟨h, fun q => hj (by omega)⟩
      · rename_i hc
        refine ⟨h, fun q => ?_⟩
        have : j = n := by omega
        subst this
        rw [hv] at h
        cases h
        exact hc q.2
    · rename_i hv
      refine ⟨h, fun q => ?_⟩
      have : j = n := by omega
      subst this
      rw [hv] at h
      cases h
def Lok (G : Wd) (ls : List (Option Value)) (lv : List (Nat × Value)) : Prop := ∀ i v, lg ls i = some v → (i, rv G v) ∈ lv
theorem Lok.st1 {G : Wd} {ls : List (Option Value)} {lv : List (Nat × Value)} (h : Lok G ls lv) (i : Nat) (v : Value) : Lok G (lset (lk ls i) i (some v)) ((i, rv G v) :: lv.filter (fun q => !(q.1 == i) && !(q.1 + 1 == i && q.2.category == 2))) := by
  intro j w hj
  by_cases hji : j = i
  · subst hji
    cases lg_lset_eq _ _ _ _ hj
    exact List.mem_cons_self
  · rw [lg_lset_ne _ _ _ _ hji] at hj
    obtain ⟨h1, h2⟩ := lg_lk hj
    refine List.mem_cons_of_mem _ (List.mem_filter.mpr ⟨h j w h1, ?_⟩)
    simp only [rv_cat, Bool.and_eq_true, Bool.not_eq_true', beq_eq_false_iff_ne, ne_eq, Bool.and_eq_false_iff]
    refine ⟨hji, ?_⟩
    by_cases q : j + 1 = i
    · exact Or.inr (fun e => h2 ⟨q, e⟩)
    · exact Or.inl q
theorem Lok.st2 {G : Wd} {ls : List (Option Value)} {lv : List (Nat × Value)} (h : Lok G ls lv) (i : Nat) (v : Value) : Lok G (lset (lset (lk ls i) (i + 1) none) i (some v)) ((i, rv G v) :: lv.filter (fun q => !(q.1 == i) && (!(q.1 == i + 1) && !(q.1 + 1 == i && q.2.category == 2)))) := by
  intro j w hj
  by_cases hji : j = i
  · subst hji
    cases lg_lset_eq _ _ _ _ hj
    exact List.mem_cons_self
  · rw [lg_lset_ne _ _ _ _ hji] at hj
    by_cases hj2 : j = i + 1
    · subst hj2
      exact absurd (lg_lset_eq _ _ _ _ hj) (by simp)
    rw [lg_lset_ne _ _ _ _ hj2] at hj
    obtain ⟨h1, h2⟩ := lg_lk hj
    refine List.mem_cons_of_mem _ (List.mem_filter.mpr ⟨h j w h1, ?_⟩)
    simp only [rv_cat, Bool.and_eq_true, Bool.not_eq_true', beq_eq_false_iff_ne, ne_eq, Bool.and_eq_false_iff]
    refine ⟨hji, hj2, ?_⟩
    by_cases q : j + 1 = i
    · exact Or.inr (fun e => h2 ⟨q, e⟩)
    · exact Or.inl q
/-- the locals of an entry -/
def ent : List Value → List (Option Value)
  | [] => []
  | v :: vs => if v.category = 2 then some v :: none :: ent vs else some v :: ent vs
theorem ent_ok {G : Wd} : ∀ (as : List Value) (tl : List (Option Value)) (o : Nat), (∀ i, lg tl i = none) → ∀ i v, lg (ent as ++ tl) i = some v → (o + i, rv G v) ∈ lv_args o (as.map (rv G))
  | [], tl, _, ht, i, v, h => by
    rw [show ent ([] : List Value) ++ tl = tl from rfl, ht i] at h
    cases h
  | a :: as, tl, o, ht, i, v, h => by
    simp only [List.map_cons, lv_args, rv_cat]
    by_cases hc : a.category = 2
    · simp only [ent, hc, if_true, List.cons_append] at h ⊢
      match i, h with
      | 0, h => cases h; exact List.mem_cons_self
      | 1, h => cases h
      | i + 2, h =>
        have := ent_ok (G := G) as tl (o + 2) ht i v h
        rw [show o + (i + 2) = o + 2 + i by omega]
        exact List.mem_cons_of_mem _ this
    · simp only [ent, hc, if_false, List.cons_append] at h ⊢
      match i, h with
      | 0, h => cases h; exact List.mem_cons_self
      | i + 1, h =>
        have := ent_ok (G := G) as tl (o + 1) ht i v h
        rw [show o + (i + 1) = o + 1 + i by omega]
        exact List.mem_cons_of_mem _ this
theorem lg_none : ∀ (n i : Nat), lg (List.replicate n none) i = none
  | 0, _ => rfl
  | _ + 1, 0 => rfl
  | n + 1, i + 1 => lg_none n i
/-! the judgement -/
def rmL (n : Nat) : Room := { frames := n, cells := 0, slots := 0, locals := 40 * n }
def nestW : Cond := .methodLinkNest "TurningVillage$Land" 81 yX7_within "TurningVillage"
def Cx (M : Mth) (G : Wd) (p : Program) (s : State) (m : MethodId) (args : Array Value) (meth : Method) (c : Code) : Prop :=
  p.tables.exec = Jvm.exec ∧ c.code = mC M ∧ c.maxLocals = mN M ∧ meth.sig.returnType = mR M ∧ s.vm.findClass (mO M) = some m.cls ∧ (∀ w ∈ BT, w.before args s = true) ∧ meth.locks = false ∧ va_K G.1 CL (tyO G) s ∧ Gd G ∧ va_Nw nestW s
def Dy (M : Mth) (G : Wd) (ρ : Rho) (s : State) (H : Heap) (locs : List Loc) (rls : Array Slot) (ls : List (Option Value)) : Prop :=
  va_P G.1 CL (wsO G ρ) H ∧ va_S (AG G) s.heap H locs ∧ ∃ lv, lv_has rls (mN M) lv ∧ Lok G ls lv
def QC (G : Wd) (Q : Option Value → Rho → Prop) : Array Value → State → Outcome → State → Prop := fun _ st o t =>
  (∃ (r : Option Value) (ρ : Rho), o = .returned (r.map (rv G)) ∧ Q r ρ ∧ va_P G.1 CL (wsO G ρ) t.heap) ∧ va_F (AG G) st t
def MW (M : Mth) (n : Nat) (pc : Nat) (ls : List (Option Value)) (st : List Value) (ρ : Rho) (Q : Option Value → Rho → Prop) : Prop :=
  ∀ (G : Wd) (p : Program) (l : Launch) (e : Env) (s : State) (m : MethodId) (args : Array Value) (below : List Frame) (meth : Method) (c : Code) (H : Heap) (locs : List Loc) (rls : Array Slot),
    Cx M G p s m args meth c → Dy M G ρ s H locs rls ls → W p l e (rmL n) s m args below meth c H locs 0 0 (MQ below (QC G Q) args s 0 0 (AG G)) (F0 m pc rls (st.map (rv G)))
def PC (G : Wd) (as : List Value) (ρ : Rho) : Array Value → State → Prop := fun v U => v = (as.map (rv G)).toArray ∧ va_K G.1 CL (tyO G) U ∧ va_P G.1 CL (wsO G ρ) U.heap ∧ va_Nw nestW U
def CallOK (j : Nat) (M : Mth) (as : List Value) (ρ : Rho) (Q : Option Value → Rho → Prop) : Prop :=
  ∀ (l : Launch) (G : Wd), Gd G → Met l (mY M) (wsM M) (rmL j) (PC G as ρ) (QC G Q) 0 0 (AG G)
theorem PC_blind (G : Wd) (as : List Value) (ρ : Rho) : FrameBlind (PC G as ρ) := fun a U g mk h => ⟨h.1, va_K.moved (u := U) (U := U.calling g mk a) (Vm.Alike.refl U.vm) h.2.1, h.2.2.1, va_Nw.same rfl rfl h.2.2.2⟩
theorem QC_mono {G : Wd} {Q Q' : Option Value → Rho → Prop} (h : ∀ r ρ, Q r ρ → Q' r ρ) {a : Array Value} {st t : State} {o : Outcome} (q : QC G Q a st o t) : QC G Q' a st o t := by
  obtain ⟨⟨r, ρ, h1, h2, h3⟩, h4⟩ := q
  exact ⟨⟨r, ρ, h1, h _ _ h2, h3⟩, h4⟩
theorem callOK_of {j : Nat} {M : Mth} {as : List Value} {ρ : Rho} {Q : Option Value → Rho → Prop} {ls : List (Option Value)} (k : Nat) (hpl : plainName (mY M).cls = true) (hO : (mY M).cls = mO M) (hlen : ∀ G, (lg_sl (as.map (rv G))).length ≤ mN M) (hls : ent as ++ List.replicate k none = ls) (h : MW M j 0 ls [] ρ Q) : CallOK j M as ρ Q := by
  intro l G hG
  refine Met.ofW (cc := mC M) (maxL := mN M) (ret := mR M) hpl rfl ?_
  intro p e s m args below meth c s₁ B hml hv
  obtain ⟨rfl, hK, hP, hN⟩ := hv
  have hts := atoms_spec (ws := wsM M) B.pre
  have hown : s.vm.findClass (mO M) = some m.cls := by rw [← hO]; exact findClass_of_methodNamed B.named
  have hl := lv_entry (as.map (rv G)) (n := mN M) (hlen G)
  rw [lg_entry_eq]
  have hL : Lok G ls (lv_args 0 (as.map (rv G))) := by
    intro i v hi
    rw [← hls] at hi
    have := ent_ok (G := G) as (List.replicate k none) 0 (lg_none k) i v hi
    rwa [Nat.zero_add] at this
  exact h G p l e s m _ below meth c s.heap [] _ ⟨B.exec, B.bytes, hml, B.returns, hown, fun w hw => hts w (List.mem_cons_of_mem _ hw), B.notSynchronized, hK, hG, hN⟩ ⟨hP, va_S.rf, _, hl, hL⟩
end
section
variable {M : Mth} {j pc nx : Nat} {ls : List (Option Value)} {st : List Value} {ρ : Rho} {Q : Option Value → Rho → Prop}
theorem lget {G : Wd} {s : State} {H : Heap} {locs : List Loc} {rls : Array Slot} {i : Nat} {v : Value} (D : Dy M G ρ s H locs rls ls) (h : lg ls i = some v) : rls[i]? = some (.val (rv G v)) := by
  obtain ⟨-, -, lv, h1, h2⟩ := D
  exact h1.2.2 _ (h2 i v h)
def D0 (M : Mth) (pc : Nat) (i : Instr) (len nx : Nat) : Prop := decode (mC M) pc = .ok (i, len) ∧ pc + len = nx

theorem w_iadd {x y : Int32} (hd : D0 M pc .iadd 1 nx) (k : MW M j nx ls (.int (x + y) :: st) ρ Q) : MW M j pc ls (.int y :: .int x :: st) ρ Q := by
  obtain ⟨hd, rfl⟩ := hd
  exact fun G p l e s m args below meth c H locs rls C D => lv_iadd C.1 C.2.1 hd (k G p l e s m args below meth c H locs rls C D)
theorem w_isub {x y : Int32} (hd : D0 M pc .isub 1 nx) (k : MW M j nx ls (.int (x - y) :: st) ρ Q) : MW M j pc ls (.int y :: .int x :: st) ρ Q := by
  obtain ⟨hd, rfl⟩ := hd
  exact fun G p l e s m args below meth c H locs rls C D => lv_isub C.1 C.2.1 hd (k G p l e s m args below meth c H locs rls C D)
theorem w_imul {x y : Int32} (hd : D0 M pc .imul 1 nx) (k : MW M j nx ls (.int (x * y) :: st) ρ Q) : MW M j pc ls (.int y :: .int x :: st) ρ Q := by
  obtain ⟨hd, rfl⟩ := hd
  exact fun G p l e s m args below meth c H locs rls C D => lv_imul C.1 C.2.1 hd (k G p l e s m args below meth c H locs rls C D)
theorem w_iand {x y : Int32} (hd : D0 M pc .iand 1 nx) (k : MW M j nx ls (.int (x &&& y) :: st) ρ Q) : MW M j pc ls (.int y :: .int x :: st) ρ Q := by
  obtain ⟨hd, rfl⟩ := hd
  exact fun G p l e s m args below meth c H locs rls C D => lv_iand C.1 C.2.1 hd (k G p l e s m args below meth c H locs rls C D)
theorem w_ior {x y : Int32} (hd : D0 M pc .ior 1 nx) (k : MW M j nx ls (.int (x ||| y) :: st) ρ Q) : MW M j pc ls (.int y :: .int x :: st) ρ Q := by
  obtain ⟨hd, rfl⟩ := hd
  exact fun G p l e s m args below meth c H locs rls C D => lv_ior C.1 C.2.1 hd (k G p l e s m args below meth c H locs rls C D)
theorem w_ixor {x y : Int32} (hd : D0 M pc .ixor 1 nx) (k : MW M j nx ls (.int (x ^^^ y) :: st) ρ Q) : MW M j pc ls (.int y :: .int x :: st) ρ Q := by
  obtain ⟨hd, rfl⟩ := hd
  exact fun G p l e s m args below meth c H locs rls C D => lv_ixor C.1 C.2.1 hd (k G p l e s m args below meth c H locs rls C D)
theorem w_ishl {x y : Int32} (hd : D0 M pc .ishl 1 nx) (k : MW M j nx ls (.int (x <<< (y &&& 31)) :: st) ρ Q) : MW M j pc ls (.int y :: .int x :: st) ρ Q := by
  obtain ⟨hd, rfl⟩ := hd
  exact fun G p l e s m args below meth c H locs rls C D => lv_ishl C.1 C.2.1 hd (k G p l e s m args below meth c H locs rls C D)
theorem w_ishr {x y : Int32} (hd : D0 M pc .ishr 1 nx) (k : MW M j nx ls (.int (x >>> (y &&& 31)) :: st) ρ Q) : MW M j pc ls (.int y :: .int x :: st) ρ Q := by
  obtain ⟨hd, rfl⟩ := hd
  exact fun G p l e s m args below meth c H locs rls C D => lv_ishr C.1 C.2.1 hd (k G p l e s m args below meth c H locs rls C D)
theorem w_ladd {x y : Int64} (hd : D0 M pc .ladd 1 nx) (k : MW M j nx ls (.long (x + y) :: st) ρ Q) : MW M j pc ls (.long y :: .long x :: st) ρ Q := by
  obtain ⟨hd, rfl⟩ := hd
  exact fun G p l e s m args below meth c H locs rls C D => lv_ladd C.1 C.2.1 hd (k G p l e s m args below meth c H locs rls C D)
theorem w_lsub {x y : Int64} (hd : D0 M pc .lsub 1 nx) (k : MW M j nx ls (.long (x - y) :: st) ρ Q) : MW M j pc ls (.long y :: .long x :: st) ρ Q := by
  obtain ⟨hd, rfl⟩ := hd
  exact fun G p l e s m args below meth c H locs rls C D => lv_lsub C.1 C.2.1 hd (k G p l e s m args below meth c H locs rls C D)
theorem w_lmul {x y : Int64} (hd : D0 M pc .lmul 1 nx) (k : MW M j nx ls (.long (x * y) :: st) ρ Q) : MW M j pc ls (.long y :: .long x :: st) ρ Q := by
  obtain ⟨hd, rfl⟩ := hd
  exact fun G p l e s m args below meth c H locs rls C D => lv_lmul C.1 C.2.1 hd (k G p l e s m args below meth c H locs rls C D)
theorem w_lor {x y : Int64} (hd : D0 M pc .lor 1 nx) (k : MW M j nx ls (.long (x ||| y) :: st) ρ Q) : MW M j pc ls (.long y :: .long x :: st) ρ Q := by
  obtain ⟨hd, rfl⟩ := hd
  exact fun G p l e s m args below meth c H locs rls C D => lv_lor C.1 C.2.1 hd (k G p l e s m args below meth c H locs rls C D)
theorem w_irem {x y : Int32} (hd : D0 M pc .irem 1 nx) (hne : ¬ y = 0) (k : MW M j nx ls (.int (x - x / y * y) :: st) ρ Q) : MW M j pc ls (.int y :: .int x :: st) ρ Q := by
  obtain ⟨hd, rfl⟩ := hd
  exact fun G p l e s m args below meth c H locs rls C D => lv_irem C.1 C.2.1 hd hne (k G p l e s m args below meth c H locs rls C D)
theorem w_lrem {x y : Int64} (hd : D0 M pc .lrem 1 nx) (hne : ¬ y = 0) (k : MW M j nx ls (.long (x - x / y * y) :: st) ρ Q) : MW M j pc ls (.long y :: .long x :: st) ρ Q := by
  obtain ⟨hd, rfl⟩ := hd
  exact fun G p l e s m args below meth c H locs rls C D => lv_lrem C.1 C.2.1 hd hne (k G p l e s m args below meth c H locs rls C D)
theorem w_ldiv {x y : Int64} (hd : D0 M pc .ldiv 1 nx) (hne : ¬ y = 0) (k : MW M j nx ls (.long (x / y) :: st) ρ Q) : MW M j pc ls (.long y :: .long x :: st) ρ Q := by
  obtain ⟨hd, rfl⟩ := hd
  exact fun G p l e s m args below meth c H locs rls C D => lv_ldiv C.1 C.2.1 hd hne (k G p l e s m args below meth c H locs rls C D)
theorem w_iushr {x y : Int32} (hd : D0 M pc .iushr 1 nx) (k : MW M j nx ls (.int ((x.toUInt32 >>> (y.toUInt32 &&& Int32.toUInt32 31)).toInt32) :: st) ρ Q) : MW M j pc ls (.int y :: .int x :: st) ρ Q := by
  obtain ⟨hd, rfl⟩ := hd
  exact fun G p l e s m args below meth c H locs rls C D => lv_iushr C.1 C.2.1 hd rfl (k G p l e s m args below meth c H locs rls C D)
theorem w_lshl {x : Int64} {y : Int32} (hd : D0 M pc .lshl 1 nx) (k : MW M j nx ls (.long (x <<< (y.toInt64 &&& 63)) :: st) ρ Q) : MW M j pc ls (.int y :: .long x :: st) ρ Q := by
  obtain ⟨hd, rfl⟩ := hd
  exact fun G p l e s m args below meth c H locs rls C D => lv_lshl C.1 C.2.1 hd rfl (k G p l e s m args below meth c H locs rls C D)
theorem w_i2l {x : Int32} (hd : D0 M pc .i2l 1 nx) (k : MW M j nx ls (.long x.toInt64 :: st) ρ Q) : MW M j pc ls (.int x :: st) ρ Q := by
  obtain ⟨hd, rfl⟩ := hd
  exact fun G p l e s m args below meth c H locs rls C D => lv_i2l C.1 C.2.1 hd rfl (k G p l e s m args below meth c H locs rls C D)
theorem w_i2b {x : Int32} (hd : D0 M pc .i2b 1 nx) (k : MW M j nx ls (.int x.toInt8.toInt32 :: st) ρ Q) : MW M j pc ls (.int x :: st) ρ Q := by
  obtain ⟨hd, rfl⟩ := hd
  exact fun G p l e s m args below meth c H locs rls C D => lv_i2b C.1 C.2.1 hd rfl (k G p l e s m args below meth c H locs rls C D)
theorem w_i2s {x : Int32} (hd : D0 M pc .i2s 1 nx) (k : MW M j nx ls (.int x.toInt16.toInt32 :: st) ρ Q) : MW M j pc ls (.int x :: st) ρ Q := by
  obtain ⟨hd, rfl⟩ := hd
  exact fun G p l e s m args below meth c H locs rls C D => lv_i2s C.1 C.2.1 hd rfl (k G p l e s m args below meth c H locs rls C D)
theorem w_lcmp {x y : Int64} (hd : D0 M pc .lcmp 1 nx) (k : MW M j nx ls (.int (lg_cmp x y) :: st) ρ Q) : MW M j pc ls (.long y :: .long x :: st) ρ Q := by
  obtain ⟨hd, rfl⟩ := hd
  exact fun G p l e s m args below meth c H locs rls C D => W.lcmp C.1 C.2.1 hd (k G p l e s m args below meth c H locs rls C D)
theorem w_dup {v : Value} (hd : D0 M pc .dup 1 nx) (hc : v.category = 1) (k : MW M j nx ls (v :: v :: st) ρ Q) : MW M j pc ls (v :: st) ρ Q := by
  obtain ⟨hd, rfl⟩ := hd
  exact fun G p l e s m args below meth c H locs rls C D => lv_dup C.1 C.2.1 hd ((rv_cat G v).trans hc) (k G p l e s m args below meth c H locs rls C D)
theorem w_pop {v : Value} (hd : D0 M pc .pop 1 nx) (hc : v.category = 1) (k : MW M j nx ls st ρ Q) : MW M j pc ls (v :: st) ρ Q := by
  obtain ⟨hd, rfl⟩ := hd
  exact fun G p l e s m args below meth c H locs rls C D => lv_pop C.1 C.2.1 hd ((rv_cat G v).trans hc) (k G p l e s m args below meth c H locs rls C D)
theorem w_dup2 {v w : Value} (hd : D0 M pc .dup2 1 nx) (hc : v.category = 1) (hc2 : w.category = 1) (k : MW M j nx ls (v :: w :: v :: w :: st) ρ Q) : MW M j pc ls (v :: w :: st) ρ Q := by
  obtain ⟨hd, rfl⟩ := hd
  exact fun G p l e s m args below meth c H locs rls C D => lv_dup2_11 C.1 C.2.1 hd ((rv_cat G v).trans hc) ((rv_cat G w).trans hc2) (k G p l e s m args below meth c H locs rls C D)
def DLi (M : Mth) (pc i nx : Nat) : Prop := (∃ q : Fin 4, decode (mC M) pc = .ok (.iload_n q, 1) ∧ (q : Nat) = i ∧ pc + 1 = nx) ∨ (decode (mC M) pc = .ok (.iload i, 2) ∧ pc + 2 = nx)
theorem w_il {i : Nat} {x : Int32} (hd : DLi M pc i nx) (hl : lg ls i = some (.int x)) (k : MW M j nx ls (.int x :: st) ρ Q) : MW M j pc ls st ρ Q := by
  rcases hd with ⟨q, hd, hi, rfl⟩ | ⟨hd, rfl⟩
  · exact fun G p l e s m args below meth c H locs rls C D => lv_iload_n C.1 C.2.1 hd hi (lget D hl) (k G p l e s m args below meth c H locs rls C D)
  · exact fun G p l e s m args below meth c H locs rls C D => lv_iload C.1 C.2.1 hd (lget D hl) (k G p l e s m args below meth c H locs rls C D)
def DLl (M : Mth) (pc i nx : Nat) : Prop := (∃ q : Fin 4, decode (mC M) pc = .ok (.lload_n q, 1) ∧ (q : Nat) = i ∧ pc + 1 = nx) ∨ (decode (mC M) pc = .ok (.lload i, 2) ∧ pc + 2 = nx)
theorem w_ll {i : Nat} {x : Int64} (hd : DLl M pc i nx) (hl : lg ls i = some (.long x)) (k : MW M j nx ls (.long x :: st) ρ Q) : MW M j pc ls st ρ Q := by
  rcases hd with ⟨q, hd, hi, rfl⟩ | ⟨hd, rfl⟩
  · exact fun G p l e s m args below meth c H locs rls C D => lv_lload_n C.1 C.2.1 hd hi (lget D hl) (k G p l e s m args below meth c H locs rls C D)
  · exact fun G p l e s m args below meth c H locs rls C D => lv_lload C.1 C.2.1 hd (lget D hl) (k G p l e s m args below meth c H locs rls C D)
def DLa (M : Mth) (pc i nx : Nat) : Prop := (∃ q : Fin 4, decode (mC M) pc = .ok (.aload_n q, 1) ∧ (q : Nat) = i ∧ pc + 1 = nx) ∨ (decode (mC M) pc = .ok (.aload i, 2) ∧ pc + 2 = nx)
theorem w_al {i : Nat} {x : Nat} (hd : DLa M pc i nx) (hl : lg ls i = some (.ref x)) (k : MW M j nx ls (.ref x :: st) ρ Q) : MW M j pc ls st ρ Q := by
  rcases hd with ⟨q, hd, hi, rfl⟩ | ⟨hd, rfl⟩
  · exact fun G p l e s m args below meth c H locs rls C D => lv_aload_n C.1 C.2.1 hd hi (lget D hl) (k G p l e s m args below meth c H locs rls C D)
  · exact fun G p l e s m args below meth c H locs rls C D => lv_aload C.1 C.2.1 hd (lget D hl) (k G p l e s m args below meth c H locs rls C D)
def DSi (M : Mth) (pc i nx : Nat) : Prop := i < mN M ∧ ((∃ q : Fin 4, decode (mC M) pc = .ok (.istore_n q, 1) ∧ (q : Nat) = i ∧ pc + 1 = nx) ∨ (decode (mC M) pc = .ok (.istore i, 2) ∧ pc + 2 = nx))
theorem w_is {i : Nat} {x : Int32} {ls2 : List (Option Value)} (hd : DSi M pc i nx) (hl : lset (lk ls i) i (some (.int x)) = ls2) (k : MW M j nx ls2 st ρ Q) : MW M j pc ls (.int x :: st) ρ Q := by
  subst hl
  rcases hd with ⟨hn, ⟨q, hd, hi, rfl⟩ | ⟨hd, rfl⟩⟩
  · exact fun G p l e s m args below meth c H locs rls C D => by
      obtain ⟨hP, hS, lv, h1, h2⟩ := D
      refine lv_istore_n C.1 C.2.1 hd hi h1 hn rfl (fun rls2 hl2 => ?_)
      exact k G p l e s m args below meth c H locs rls2 C ⟨hP, hS, _, hl2, Lok.st1 h2 i (.int x)⟩
  · exact fun G p l e s m args below meth c H locs rls C D => by
      obtain ⟨hP, hS, lv, h1, h2⟩ := D
      refine lv_istore C.1 C.2.1 hd h1 hn rfl (fun rls2 hl2 => ?_)
      exact k G p l e s m args below meth c H locs rls2 C ⟨hP, hS, _, hl2, Lok.st1 h2 i (.int x)⟩
def DSl (M : Mth) (pc i nx : Nat) : Prop := i + 1 < mN M ∧ ((∃ q : Fin 4, decode (mC M) pc = .ok (.lstore_n q, 1) ∧ (q : Nat) = i ∧ pc + 1 = nx) ∨ (decode (mC M) pc = .ok (.lstore i, 2) ∧ pc + 2 = nx))
theorem w_ls {i : Nat} {x : Int64} {ls2 : List (Option Value)} (hd : DSl M pc i nx) (hl : lset (lset (lk ls i) (i + 1) none) i (some (.long x)) = ls2) (k : MW M j nx ls2 st ρ Q) : MW M j pc ls (.long x :: st) ρ Q := by
  subst hl
  rcases hd with ⟨hn, ⟨q, hd, hi, rfl⟩ | ⟨hd, rfl⟩⟩
  · exact fun G p l e s m args below meth c H locs rls C D => by
      obtain ⟨hP, hS, lv, h1, h2⟩ := D
      refine lv_lstore_n C.1 C.2.1 hd hi h1 hn rfl (fun rls2 hl2 => ?_)
      exact k G p l e s m args below meth c H locs rls2 C ⟨hP, hS, _, hl2, Lok.st2 h2 i (.long x)⟩
  · exact fun G p l e s m args below meth c H locs rls C D => by
      obtain ⟨hP, hS, lv, h1, h2⟩ := D
      refine lv_lstore C.1 C.2.1 hd h1 hn rfl (fun rls2 hl2 => ?_)
      exact k G p l e s m args below meth c H locs rls2 C ⟨hP, hS, _, hl2, Lok.st2 h2 i (.long x)⟩
def DSa (M : Mth) (pc i nx : Nat) : Prop := i < mN M ∧ ((∃ q : Fin 4, decode (mC M) pc = .ok (.astore_n q, 1) ∧ (q : Nat) = i ∧ pc + 1 = nx) ∨ (decode (mC M) pc = .ok (.astore i, 2) ∧ pc + 2 = nx))
theorem w_as {i : Nat} {x : Nat} {ls2 : List (Option Value)} (hd : DSa M pc i nx) (hl : lset (lk ls i) i (some (.ref x)) = ls2) (k : MW M j nx ls2 st ρ Q) : MW M j pc ls (.ref x :: st) ρ Q := by
  subst hl
  rcases hd with ⟨hn, ⟨q, hd, hi, rfl⟩ | ⟨hd, rfl⟩⟩
  · exact fun G p l e s m args below meth c H locs rls C D => by
      obtain ⟨hP, hS, lv, h1, h2⟩ := D
      refine lv_astore_n C.1 C.2.1 hd hi h1 hn rfl (fun rls2 hl2 => ?_)
      exact k G p l e s m args below meth c H locs rls2 C ⟨hP, hS, _, hl2, Lok.st1 h2 i (.ref x)⟩
  · exact fun G p l e s m args below meth c H locs rls C D => by
      obtain ⟨hP, hS, lv, h1, h2⟩ := D
      refine lv_astore C.1 C.2.1 hd h1 hn rfl (fun rls2 hl2 => ?_)
      exact k G p l e s m args below meth c H locs rls2 C ⟨hP, hS, _, hl2, Lok.st1 h2 i (.ref x)⟩
def DIn (M : Mth) (pc i : Nat) (v : Int32) (nx : Nat) : Prop := i < mN M ∧ ∃ n, decode (mC M) pc = .ok (.iinc i n, 3) ∧ Int32.ofInt n = v ∧ pc + 3 = nx
theorem w_iinc {i : Nat} {x v : Int32} {ls2 : List (Option Value)} (hd : DIn M pc i v nx) (hg : lg ls i = some (.int x)) (hl : lset (lk ls i) i (some (.int (x + v))) = ls2) (k : MW M j nx ls2 st ρ Q) : MW M j pc ls st ρ Q := by
  subst hl
  obtain ⟨hn, n, hd, rfl, rfl⟩ := hd
  exact fun G p l e s m args below meth c H locs rls C D => by
    obtain ⟨hP, hS, lv, h1, h2⟩ := D
    obtain ⟨q, hq⟩ := List.getElem?_of_mem (h2 i _ hg)
    refine lv_iinc C.1 C.2.1 hd h1 hq rfl hn rfl (fun rls2 hl2 => ?_)
    exact k G p l e s m args below meth c H locs rls2 C ⟨hP, hS, _, hl2, Lok.st1 h2 i (.int (x + Int32.ofInt n))⟩
def DKi (M : Mth) (pc : Nat) (v : Int32) (nx : Nat) : Prop := (∃ n, decode (mC M) pc = .ok (.iconst n, 1) ∧ Int32.ofInt n = v ∧ pc + 1 = nx) ∨ (∃ n, decode (mC M) pc = .ok (.bipush n, 2) ∧ (Int8.ofInt n).toInt32 = v ∧ pc + 2 = nx) ∨ (∃ n, decode (mC M) pc = .ok (.sipush n, 3) ∧ (Int16.ofInt n).toInt32 = v ∧ pc + 3 = nx) ∨ (∃ q, decode (mC M) pc = .ok (.ldc q, 2) ∧ Cond.constant (mO M) q v ∈ BT ∧ pc + 2 = nx) ∨ (∃ q, decode (mC M) pc = .ok (.ldc_w q, 3) ∧ Cond.constant (mO M) q v ∈ BT ∧ pc + 3 = nx)
theorem w_k {v : Int32} (hd : DKi M pc v nx) (k : MW M j nx ls (.int v :: st) ρ Q) : MW M j pc ls st ρ Q := by
  rcases hd with ⟨n, hd, hv, rfl⟩ | ⟨n, hd, hv, rfl⟩ | ⟨n, hd, hv, rfl⟩ | ⟨n, hd, hv, rfl⟩ | ⟨n, hd, hv, rfl⟩
  · exact fun G p l e s m args below meth c H locs rls C D => lv_iconst C.1 C.2.1 hd hv (k G p l e s m args below meth c H locs rls C D)
  · exact fun G p l e s m args below meth c H locs rls C D => lv_bipush C.1 C.2.1 hd hv (k G p l e s m args below meth c H locs rls C D)
  · exact fun G p l e s m args below meth c H locs rls C D => lv_sipush C.1 C.2.1 hd hv (k G p l e s m args below meth c H locs rls C D)
  · exact fun G p l e s m args below meth c H locs rls C D => lv_ldc C.1 C.2.1 C.2.2.2.2.1 (C.2.2.2.2.2.1 _ hv) hd (k G p l e s m args below meth c H locs rls C D)
  · exact fun G p l e s m args below meth c H locs rls C D => lv_ldcw C.1 C.2.1 C.2.2.2.2.1 (C.2.2.2.2.2.1 _ hv) hd (k G p l e s m args below meth c H locs rls C D)
def DKl (M : Mth) (pc : Nat) (v : Int64) (nx : Nat) : Prop := (∃ n, decode (mC M) pc = .ok (.lconst n, 1) ∧ Int64.ofNat n = v ∧ pc + 1 = nx) ∨ (∃ q, decode (mC M) pc = .ok (.ldc2_w q, 3) ∧ Cond.constantLong (mO M) q v ∈ BT ∧ pc + 3 = nx)
theorem w_kl {v : Int64} (hd : DKl M pc v nx) (k : MW M j nx ls (.long v :: st) ρ Q) : MW M j pc ls st ρ Q := by
  rcases hd with ⟨n, hd, hv, rfl⟩ | ⟨n, hd, hv, rfl⟩
  · exact fun G p l e s m args below meth c H locs rls C D => lv_lconst C.1 C.2.1 hd hv (k G p l e s m args below meth c H locs rls C D)
  · exact fun G p l e s m args below meth c H locs rls C D => lv_ldc2 C.1 C.2.1 C.2.2.2.2.1 (C.2.2.2.2.2.1 _ hv) hd (k G p l e s m args below meth c H locs rls C D)
def DFeq (M : Mth) (pc tgt nx : Nat) : Prop := ∃ off : Int, decode (mC M) pc = .ok (.ifCond .eq off, 3) ∧ (pc : Int) + off = (tgt : Int) ∧ pc + 3 = nx
theorem w_ifeq {tgt : Nat} {x : Int32} (hd : DFeq M pc tgt nx) (kt : x = 0 → MW M j tgt ls st ρ Q) (kf : ¬ x = 0 → MW M j nx ls st ρ Q) : MW M j pc ls (.int x :: st) ρ Q := by
  obtain ⟨off, hd, ht, rfl⟩ := hd
  exact fun G p l e s m args below meth c H locs rls C D => lv_if_eq C.1 C.2.1 hd ht (fun h => kt h G p l e s m args below meth c H locs rls C D) (fun h => kf h G p l e s m args below meth c H locs rls C D)
def DCeq (M : Mth) (pc tgt nx : Nat) : Prop := ∃ off : Int, decode (mC M) pc = .ok (.if_icmp .eq off, 3) ∧ (pc : Int) + off = (tgt : Int) ∧ pc + 3 = nx
theorem w_iceq {tgt : Nat} {x y : Int32} (hd : DCeq M pc tgt nx) (kt : x = y → MW M j tgt ls st ρ Q) (kf : ¬ x = y → MW M j nx ls st ρ Q) : MW M j pc ls (.int y :: .int x :: st) ρ Q := by
  obtain ⟨off, hd, ht, rfl⟩ := hd
  exact fun G p l e s m args below meth c H locs rls C D => lv_icmp_eq C.1 C.2.1 hd ht (fun h => kt h G p l e s m args below meth c H locs rls C D) (fun h => kf h G p l e s m args below meth c H locs rls C D)
def DFne (M : Mth) (pc tgt nx : Nat) : Prop := ∃ off : Int, decode (mC M) pc = .ok (.ifCond .ne off, 3) ∧ (pc : Int) + off = (tgt : Int) ∧ pc + 3 = nx
theorem w_ifne {tgt : Nat} {x : Int32} (hd : DFne M pc tgt nx) (kt : ¬ x = 0 → MW M j tgt ls st ρ Q) (kf : x = 0 → MW M j nx ls st ρ Q) : MW M j pc ls (.int x :: st) ρ Q := by
  obtain ⟨off, hd, ht, rfl⟩ := hd
  exact fun G p l e s m args below meth c H locs rls C D => lv_if_ne C.1 C.2.1 hd ht (fun h => kt h G p l e s m args below meth c H locs rls C D) (fun h => kf h G p l e s m args below meth c H locs rls C D)
def DCne (M : Mth) (pc tgt nx : Nat) : Prop := ∃ off : Int, decode (mC M) pc = .ok (.if_icmp .ne off, 3) ∧ (pc : Int) + off = (tgt : Int) ∧ pc + 3 = nx
theorem w_icne {tgt : Nat} {x y : Int32} (hd : DCne M pc tgt nx) (kt : ¬ x = y → MW M j tgt ls st ρ Q) (kf : x = y → MW M j nx ls st ρ Q) : MW M j pc ls (.int y :: .int x :: st) ρ Q := by
  obtain ⟨off, hd, ht, rfl⟩ := hd
  exact fun G p l e s m args below meth c H locs rls C D => lv_icmp_ne C.1 C.2.1 hd ht (fun h => kt h G p l e s m args below meth c H locs rls C D) (fun h => kf h G p l e s m args below meth c H locs rls C D)
def DFlt (M : Mth) (pc tgt nx : Nat) : Prop := ∃ off : Int, decode (mC M) pc = .ok (.ifCond .lt off, 3) ∧ (pc : Int) + off = (tgt : Int) ∧ pc + 3 = nx
theorem w_iflt {tgt : Nat} {x : Int32} (hd : DFlt M pc tgt nx) (kt : x < 0 → MW M j tgt ls st ρ Q) (kf : ¬ x < 0 → MW M j nx ls st ρ Q) : MW M j pc ls (.int x :: st) ρ Q := by
  obtain ⟨off, hd, ht, rfl⟩ := hd
  exact fun G p l e s m args below meth c H locs rls C D => lv_if_lt C.1 C.2.1 hd ht (fun h => kt h G p l e s m args below meth c H locs rls C D) (fun h => kf h G p l e s m args below meth c H locs rls C D)
def DClt (M : Mth) (pc tgt nx : Nat) : Prop := ∃ off : Int, decode (mC M) pc = .ok (.if_icmp .lt off, 3) ∧ (pc : Int) + off = (tgt : Int) ∧ pc + 3 = nx
theorem w_iclt {tgt : Nat} {x y : Int32} (hd : DClt M pc tgt nx) (kt : x < y → MW M j tgt ls st ρ Q) (kf : ¬ x < y → MW M j nx ls st ρ Q) : MW M j pc ls (.int y :: .int x :: st) ρ Q := by
  obtain ⟨off, hd, ht, rfl⟩ := hd
  exact fun G p l e s m args below meth c H locs rls C D => lv_icmp_lt C.1 C.2.1 hd ht (fun h => kt h G p l e s m args below meth c H locs rls C D) (fun h => kf h G p l e s m args below meth c H locs rls C D)
def DFge (M : Mth) (pc tgt nx : Nat) : Prop := ∃ off : Int, decode (mC M) pc = .ok (.ifCond .ge off, 3) ∧ (pc : Int) + off = (tgt : Int) ∧ pc + 3 = nx
theorem w_ifge {tgt : Nat} {x : Int32} (hd : DFge M pc tgt nx) (kt : 0 ≤ x → MW M j tgt ls st ρ Q) (kf : ¬ 0 ≤ x → MW M j nx ls st ρ Q) : MW M j pc ls (.int x :: st) ρ Q := by
  obtain ⟨off, hd, ht, rfl⟩ := hd
  exact fun G p l e s m args below meth c H locs rls C D => lv_if_ge C.1 C.2.1 hd ht (fun h => kt h G p l e s m args below meth c H locs rls C D) (fun h => kf h G p l e s m args below meth c H locs rls C D)
def DCge (M : Mth) (pc tgt nx : Nat) : Prop := ∃ off : Int, decode (mC M) pc = .ok (.if_icmp .ge off, 3) ∧ (pc : Int) + off = (tgt : Int) ∧ pc + 3 = nx
theorem w_icge {tgt : Nat} {x y : Int32} (hd : DCge M pc tgt nx) (kt : y ≤ x → MW M j tgt ls st ρ Q) (kf : ¬ y ≤ x → MW M j nx ls st ρ Q) : MW M j pc ls (.int y :: .int x :: st) ρ Q := by
  obtain ⟨off, hd, ht, rfl⟩ := hd
  exact fun G p l e s m args below meth c H locs rls C D => lv_icmp_ge C.1 C.2.1 hd ht (fun h => kt h G p l e s m args below meth c H locs rls C D) (fun h => kf h G p l e s m args below meth c H locs rls C D)
def DFgt (M : Mth) (pc tgt nx : Nat) : Prop := ∃ off : Int, decode (mC M) pc = .ok (.ifCond .gt off, 3) ∧ (pc : Int) + off = (tgt : Int) ∧ pc + 3 = nx
theorem w_ifgt {tgt : Nat} {x : Int32} (hd : DFgt M pc tgt nx) (kt : 0 < x → MW M j tgt ls st ρ Q) (kf : ¬ 0 < x → MW M j nx ls st ρ Q) : MW M j pc ls (.int x :: st) ρ Q := by
  obtain ⟨off, hd, ht, rfl⟩ := hd
  exact fun G p l e s m args below meth c H locs rls C D => lv_if_gt C.1 C.2.1 hd ht (fun h => kt h G p l e s m args below meth c H locs rls C D) (fun h => kf h G p l e s m args below meth c H locs rls C D)
def DCgt (M : Mth) (pc tgt nx : Nat) : Prop := ∃ off : Int, decode (mC M) pc = .ok (.if_icmp .gt off, 3) ∧ (pc : Int) + off = (tgt : Int) ∧ pc + 3 = nx
theorem w_icgt {tgt : Nat} {x y : Int32} (hd : DCgt M pc tgt nx) (kt : y < x → MW M j tgt ls st ρ Q) (kf : ¬ y < x → MW M j nx ls st ρ Q) : MW M j pc ls (.int y :: .int x :: st) ρ Q := by
  obtain ⟨off, hd, ht, rfl⟩ := hd
  exact fun G p l e s m args below meth c H locs rls C D => lv_icmp_gt C.1 C.2.1 hd ht (fun h => kt h G p l e s m args below meth c H locs rls C D) (fun h => kf h G p l e s m args below meth c H locs rls C D)
def DFle (M : Mth) (pc tgt nx : Nat) : Prop := ∃ off : Int, decode (mC M) pc = .ok (.ifCond .le off, 3) ∧ (pc : Int) + off = (tgt : Int) ∧ pc + 3 = nx
theorem w_ifle {tgt : Nat} {x : Int32} (hd : DFle M pc tgt nx) (kt : x ≤ 0 → MW M j tgt ls st ρ Q) (kf : ¬ x ≤ 0 → MW M j nx ls st ρ Q) : MW M j pc ls (.int x :: st) ρ Q := by
  obtain ⟨off, hd, ht, rfl⟩ := hd
  exact fun G p l e s m args below meth c H locs rls C D => lv_if_le C.1 C.2.1 hd ht (fun h => kt h G p l e s m args below meth c H locs rls C D) (fun h => kf h G p l e s m args below meth c H locs rls C D)
def DCle (M : Mth) (pc tgt nx : Nat) : Prop := ∃ off : Int, decode (mC M) pc = .ok (.if_icmp .le off, 3) ∧ (pc : Int) + off = (tgt : Int) ∧ pc + 3 = nx
theorem w_icle {tgt : Nat} {x y : Int32} (hd : DCle M pc tgt nx) (kt : x ≤ y → MW M j tgt ls st ρ Q) (kf : ¬ x ≤ y → MW M j nx ls st ρ Q) : MW M j pc ls (.int y :: .int x :: st) ρ Q := by
  obtain ⟨off, hd, ht, rfl⟩ := hd
  exact fun G p l e s m args below meth c H locs rls C D => lv_icmp_le C.1 C.2.1 hd ht (fun h => kt h G p l e s m args below meth c H locs rls C D) (fun h => kf h G p l e s m args below meth c H locs rls C D)
def DG (M : Mth) (pc tgt : Nat) : Prop := ∃ off : Int, decode (mC M) pc = .ok (.goto off, 3) ∧ (pc : Int) + off = (tgt : Int)
theorem w_goto {tgt : Nat} (hd : DG M pc tgt) (k : MW M j tgt ls st ρ Q) : MW M j pc ls st ρ Q := by
  obtain ⟨off, hd, ht⟩ := hd
  exact fun G p l e s m args below meth c H locs rls C D => lv_goto C.1 C.2.1 hd ht (k G p l e s m args below meth c H locs rls C D)
theorem w_tin {dflt lo hi : Int} {offs : Array Int} {len tgt : Nat} {x : Int32} {off : Int} (hd : decode (mC M) pc = .ok (.tableswitch dflt lo hi offs, len)) (h1 : ¬ x.toInt < lo) (h2 : ¬ hi < x.toInt) (ho : offs[(x.toInt - lo).toNat]? = some off) (ht : (pc : Int) + off = (tgt : Int)) (k : MW M j tgt ls st ρ Q) : MW M j pc ls (.int x :: st) ρ Q := 
  fun G p l e s m args below meth c H locs rls C D => lv_tableIn C.1 C.2.1 hd h1 h2 ho ht (k G p l e s m args below meth c H locs rls C D)
theorem w_tout {dflt lo hi : Int} {offs : Array Int} {len tgt : Nat} {x : Int32} (hd : decode (mC M) pc = .ok (.tableswitch dflt lo hi offs, len)) (h : x.toInt < lo ∨ hi < x.toInt) (ht : (pc : Int) + dflt = (tgt : Int)) (k : MW M j tgt ls st ρ Q) : MW M j pc ls (.int x :: st) ρ Q := 
  fun G p l e s m args below meth c H locs rls C D => lv_tableOut C.1 C.2.1 hd h ht (k G p l e s m args below meth c H locs rls C D)
theorem w_lkp {dflt : Int} {ps : Array (Int × Int)} {len tgt : Nat} {x : Int32} {off : Int} (hd : decode (mC M) pc = .ok (.lookupswitch dflt ps, len)) (hp : (ps.toList.zip (ps.toList.drop 1)).all (fun (a, next) => a.1 < next.1) = true) (ho : Op.lookupswitch.offset ps.toList dflt x.toInt = off) (ht : (pc : Int) + off = (tgt : Int)) (k : MW M j tgt ls st ρ Q) : MW M j pc ls (.int x :: st) ρ Q := 
  fun G p l e s m args below meth c H locs rls C D => lv_lookup C.1 C.2.1 hd hp ho ht (k G p l e s m args below meth c H locs rls C D)
def Sh (k : Nat) (s : (Nat × Nat) ⊕ (Nat × List Nat)) : Prop := k < NC ∧ shp k = s
def FLk (own : String) (idx ci slot : Nat) : Prop := ∃ (C : String) (T : u_T) (N : Nat), CL[ci]? = some (C, T, N) ∧ slot < N ∧ Cond.fieldLink own idx (T slot).1 (T slot).2.1 (T slot).2.2.1 ∈ BT ∧ ∀ w ∈ u_ws C T N, w ∈ BT
def FPk (own : String) (idx ci slot : Nat) (ty : FieldType) : Prop := ∃ (C : String) (T : u_T) (N : Nat) (ty0 : Nat → FieldType), CL[ci]? = some (C, T, N) ∧ slot < N ∧ Cond.fieldLink own idx (T slot).1 (T slot).2.1 (T slot).2.2.1 ∈ BT ∧ (∀ w ∈ u_ws C T N, w ∈ BT) ∧ (∀ k, k < N → parseFieldDescriptor (T k).2.2.1 = some (ty0 k)) ∧ (∀ a, a < N → ∀ b, b < N → a ≠ b → (T a).2.1 ≠ (T b).2.1) ∧ (T slot).2.2.2 = false ∧ parseFieldDescriptor (T slot).2.2.1 = some ty
theorem ce_obj {G : Wd} {q ci : Nat} {fs : List Nat} (h : Sh q (.inr (ci, fs))) : (wsO G ρ)[q]? = some (G.2.1 q, .inr (ci, fvs G ρ q 0 fs)) := by
  rw [wsO_at h.1]
  simp [ce, h.2]
theorem ce_ai {G : Wd} {q n : Nat} (h : Sh q (.inl (0, n))) : (wsO G ρ)[q]? = some (G.2.1 q, .inl (G.2.2 0, n, .inl (ρ.1 q))) := by
  rw [wsO_at h.1]
  simp [ce, h.2, arrOf]
theorem ce_al {G : Wd} {q n : Nat} (h : Sh q (.inl (1, n))) : (wsO G ρ)[q]? = some (G.2.1 q, .inl (G.2.2 1, n, .inr (.inl (ρ.2 q)))) := by
  rw [wsO_at h.1]
  simp [ce, h.2, arrOf]
theorem ce_az {G : Wd} {q n : Nat} (h : Sh q (.inl (2, n))) : (wsO G ρ)[q]? = some (G.2.1 q, .inl (G.2.2 2, n, .inl (ρ.1 q))) := by
  rw [wsO_at h.1]
  simp [ce, h.2, arrOf]
theorem ce_ar {G : Wd} {q b n : Nat} (h : Sh q (.inl (b + 3, n))) : (wsO G ρ)[q]? = some (G.2.1 q, .inl (G.2.2 3, n, .inr (.inr (.inr (.inr (fun i => some (G.2.1 (b + i)))))))) := by
  rw [wsO_at h.1]
  simp [ce, h.2, arrOf]
theorem w_get {q idx ci slot f : Nat} {fs : List Nat} {v : Value} (hd : D0 M pc (.getfield idx) 3 nx) (hf : FLk (mO M) idx ci slot) (hs : Sh q (.inr (ci, fs))) (hk : fs[slot]? = some f) (hv : ∀ G : Wd, fv G ρ q slot f = rv G v) (k : MW M j nx ls (v :: st) ρ Q) : MW M j pc ls (.ref q :: st) ρ Q := by
  obtain ⟨hd, rfl⟩ := hd
  obtain ⟨Cn, T, N, h1, h2, h3, h4⟩ := hf
  exact fun G p l e s m args below meth c H locs rls C D => va_get (v := rv G v) C.1 C.2.1 C.2.2.2.2.2.1 h4 C.2.2.2.2.1 C.2.2.2.2.2.2.2.1 D.1 q (ce_obj hs) h1 slot h2 (C.2.2.2.2.2.1 _ h3) (fun _ h => h) (by rw [fvs_get fs 0 slot f hk, Nat.zero_add, hv G]) hd (k G p l e s m args below meth c H locs rls C D)
theorem w_gi {q idx ci slot : Nat} {fs : List Nat} (hd : D0 M pc (.getfield idx) 3 nx) (hf : FLk (mO M) idx ci slot) (hs : Sh q (.inr (ci, fs))) (hk : fs[slot]? = some 0) (k : MW M j nx ls (.int (ρ.1 q slot) :: st) ρ Q) : MW M j pc ls (.ref q :: st) ρ Q := w_get hd hf hs hk (fun _ => rfl) k
theorem w_gl {q idx ci slot : Nat} {fs : List Nat} (hd : D0 M pc (.getfield idx) 3 nx) (hf : FLk (mO M) idx ci slot) (hs : Sh q (.inr (ci, fs))) (hk : fs[slot]? = some 1) (k : MW M j nx ls (.long (ρ.2 q slot) :: st) ρ Q) : MW M j pc ls (.ref q :: st) ρ Q := w_get hd hf hs hk (fun _ => rfl) k
theorem w_gr {q idx ci slot n : Nat} {fs : List Nat} (hd : D0 M pc (.getfield idx) 3 nx) (hf : FLk (mO M) idx ci slot) (hs : Sh q (.inr (ci, fs))) (hk : fs[slot]? = some (n + 2)) (k : MW M j nx ls (.ref n :: st) ρ Q) : MW M j pc ls (.ref q :: st) ρ Q := w_get hd hf hs hk (fun _ => rfl) k
theorem w_pi {q idx ci slot : Nat} {fs : List Nat} {x : Int32} {ty : FieldType} (hd : D0 M pc (.putfield idx) 3 nx) (hf : FPk (mO M) idx ci slot ty) (hs : Sh q (.inr (ci, fs))) (hk : fs[slot]? = some 0) (hn : narrow ty (.int x) = .int x) (hfit : fits ty (.int x) = true) (k : MW M j nx ls st (wI ρ q slot x) Q) : MW M j pc ls (.int x :: .ref q :: st) ρ Q := by
  obtain ⟨hd, rfl⟩ := hd
  obtain ⟨Cn, T, N, ty0, h1, h2, h3, h4, h5, h6, h7, h8⟩ := hf
  exact fun G p l e s m args below meth c H locs rls C D => by
    refine va_put C.1 C.2.1 C.2.2.2.2.2.1 h4 ty0 h5 h6 C.2.2.2.2.1 C.2.2.2.2.2.2.2.1 D.1 (wsO_D C.2.2.2.2.2.2.2.2.1 ρ) D.2.1 q (ce_obj hs) h1 slot h2 (C.2.2.2.2.2.1 _ h3) (fun _ h => h) h7 h8 hn hfit (by rw [fvs_len]; exact (List.getElem?_eq_some_iff.mp hk).1) hd (fun H1 locs1 hP1 hD1 hS1 => ?_)
    have hP1 : va_P G.1 CL ((wsO G ρ).set q (G.2.1 q, .inr (ci, (fvs G ρ q 0 fs).set slot (.int x)))) H1 := hP1
    rw [wsO_set (G := G) (ρ := ρ) (ρ' := wI ρ q slot x) hs.1 (by simp only [ce, hs.2]; rw [fvs_setI fs 0 slot hk, Nat.zero_add]) (fun a ha => ce_congr (wI_ne ha) rfl)] at hP1
    exact k G p l e s m args below meth c H1 locs1 rls C ⟨hP1, hS1, D.2.2⟩
theorem w_pl {q idx ci slot : Nat} {fs : List Nat} {x : Int64} (hd : D0 M pc (.putfield idx) 3 nx) (hf : FPk (mO M) idx ci slot .long) (hs : Sh q (.inr (ci, fs))) (hk : fs[slot]? = some 1) (k : MW M j nx ls st (wL ρ q slot x) Q) : MW M j pc ls (.long x :: .ref q :: st) ρ Q := by
  obtain ⟨hd, rfl⟩ := hd
  obtain ⟨Cn, T, N, ty0, h1, h2, h3, h4, h5, h6, h7, h8⟩ := hf
  exact fun G p l e s m args below meth c H locs rls C D => by
    refine va_put C.1 C.2.1 C.2.2.2.2.2.1 h4 ty0 h5 h6 C.2.2.2.2.1 C.2.2.2.2.2.2.2.1 D.1 (wsO_D C.2.2.2.2.2.2.2.2.1 ρ) D.2.1 q (ce_obj hs) h1 slot h2 (C.2.2.2.2.2.1 _ h3) (fun _ h => h) h7 h8 rfl rfl (by rw [fvs_len]; exact (List.getElem?_eq_some_iff.mp hk).1) hd (fun H1 locs1 hP1 hD1 hS1 => ?_)
    have hP1 : va_P G.1 CL ((wsO G ρ).set q (G.2.1 q, .inr (ci, (fvs G ρ q 0 fs).set slot (.long x)))) H1 := hP1
    rw [wsO_set (G := G) (ρ := ρ) (ρ' := wL ρ q slot x) hs.1 (by simp only [ce, hs.2]; rw [fvs_setL fs 0 slot hk, Nat.zero_add]) (fun a ha => ce_congr rfl (wL_ne ha))] at hP1
    exact k G p l e s m args below meth c H1 locs1 rls C ⟨hP1, hS1, D.2.2⟩
theorem w_iald {q n : Nat} {i : Int32} (hd : D0 M pc .iaload 1 nx) (hs : Sh q (.inl (0, n))) (hin : vp_in i n) (k : MW M j nx ls (.int (ρ.1 q i.toNatClampNeg) :: st) ρ Q) : MW M j pc ls (.int i :: .ref q :: st) ρ Q := by
  obtain ⟨hd, rfl⟩ := hd
  exact fun G p l e s m args below meth c H locs rls C D => va_iald C.1 C.2.1 C.2.2.2.2.2.2.2.1 D.1 q 0 (ce_ai hs) rfl hin hd (k G p l e s m args below meth c H locs rls C D)
theorem w_lald {q n : Nat} {i : Int32} (hd : D0 M pc .laload 1 nx) (hs : Sh q (.inl (1, n))) (hin : vp_in i n) (k : MW M j nx ls (.long (ρ.2 q i.toNatClampNeg) :: st) ρ Q) : MW M j pc ls (.int i :: .ref q :: st) ρ Q := by
  obtain ⟨hd, rfl⟩ := hd
  exact fun G p l e s m args below meth c H locs rls C D => va_lald C.1 C.2.1 C.2.2.2.2.2.2.2.1 D.1 q 1 (ce_al hs) rfl hin hd (k G p l e s m args below meth c H locs rls C D)
theorem w_zald {q n : Nat} {i : Int32} (hd : D0 M pc .baload 1 nx) (hs : Sh q (.inl (2, n))) (hin : vp_in i n) (k : MW M j nx ls (.int (ρ.1 q i.toNatClampNeg) :: st) ρ Q) : MW M j pc ls (.int i :: .ref q :: st) ρ Q := by
  obtain ⟨hd, rfl⟩ := hd
  exact fun G p l e s m args below meth c H locs rls C D => va_zald C.1 C.2.1 C.2.2.2.2.2.2.2.1 D.1 q 2 (ce_az hs) rfl hin hd (k G p l e s m args below meth c H locs rls C D)
theorem w_aald {q b n : Nat} {i : Int32} (hd : D0 M pc .aaload 1 nx) (hs : Sh q (.inl (b + 3, n))) (hin : vp_in i n) (k : MW M j nx ls (.ref (b + i.toNatClampNeg) :: st) ρ Q) : MW M j pc ls (.int i :: .ref q :: st) ρ Q := by
  obtain ⟨hd, rfl⟩ := hd
  exact fun G p l e s m args below meth c H locs rls C D => va_aldq C.1 C.2.1 C.2.2.2.2.2.2.2.1 D.1 q 3 (ce_ar hs) rfl hin hd (k G p l e s m args below meth c H locs rls C D)
theorem w_alen {q n : Nat} (hd : D0 M pc .arraylength 1 nx) (hs : Sh q (.inl (0, n))) (k : MW M j nx ls (.int (nI n) :: st) ρ Q) : MW M j pc ls (.ref q :: st) ρ Q := by
  obtain ⟨hd, rfl⟩ := hd
  exact fun G p l e s m args below meth c H locs rls C D => va_alen C.1 C.2.1 C.2.2.2.2.2.2.2.1 D.1 q 0 (ce_ai hs) rfl rfl hd (k G p l e s m args below meth c H locs rls C D)
theorem w_alenL {q n : Nat} (hd : D0 M pc .arraylength 1 nx) (hs : Sh q (.inl (1, n))) (k : MW M j nx ls (.int (nI n) :: st) ρ Q) : MW M j pc ls (.ref q :: st) ρ Q := by
  obtain ⟨hd, rfl⟩ := hd
  exact fun G p l e s m args below meth c H locs rls C D => va_alen C.1 C.2.1 C.2.2.2.2.2.2.2.1 D.1 q 1 (ce_al hs) rfl rfl hd (k G p l e s m args below meth c H locs rls C D)
theorem w_iast {q n : Nat} {i x : Int32} (hd : D0 M pc .iastore 1 nx) (hs : Sh q (.inl (0, n))) (hin : vp_in i n) (k : MW M j nx ls st (wI ρ q i.toNatClampNeg x) Q) : MW M j pc ls (.int x :: .int i :: .ref q :: st) ρ Q := by
  obtain ⟨hd, rfl⟩ := hd
  exact fun G p l e s m args below meth c H locs rls C D => by
    refine va_iast C.1 C.2.1 C.2.2.2.2.2.2.2.1 D.1 (wsO_D C.2.2.2.2.2.2.2.2.1 ρ) D.2.1 q 0 (ce_ai hs) rfl hin hd (fun H1 locs1 hP1 hD1 hS1 => ?_)
    rw [wsO_set (G := G) (ρ := ρ) (ρ' := wI ρ q i.toNatClampNeg x) hs.1 (by simp only [ce, hs.2, arrOf, wI_upd]) (fun a ha => ce_congr (wI_ne ha) rfl)] at hP1
    exact k G p l e s m args below meth c H1 locs1 rls C ⟨hP1, hS1, D.2.2⟩
theorem w_zast {q n : Nat} {i x : Int32} (hd : D0 M pc .bastore 1 nx) (hs : Sh q (.inl (2, n))) (hin : vp_in i n) (hx : vp_nar .boolean x = x) (k : MW M j nx ls st (wI ρ q i.toNatClampNeg x) Q) : MW M j pc ls (.int x :: .int i :: .ref q :: st) ρ Q := by
  obtain ⟨hd, rfl⟩ := hd
  exact fun G p l e s m args below meth c H locs rls C D => by
    refine va_zast C.1 C.2.1 C.2.2.2.2.2.2.2.1 D.1 (wsO_D C.2.2.2.2.2.2.2.2.1 ρ) D.2.1 q 2 (ce_az hs) rfl hin hd (fun H1 locs1 hP1 hD1 hS1 => ?_)
    rw [wsO_set (G := G) (ρ := ρ) (ρ' := wI ρ q i.toNatClampNeg x) hs.1 (by simp only [ce, hs.2, arrOf, wI_upd, hx]) (fun a ha => ce_congr (wI_ne ha) rfl)] at hP1
    exact k G p l e s m args below meth c H1 locs1 rls C ⟨hP1, hS1, D.2.2⟩
theorem w_last {q n : Nat} {i : Int32} {x : Int64} (hd : D0 M pc .lastore 1 nx) (hs : Sh q (.inl (1, n))) (hin : vp_in i n) (k : MW M j nx ls st (wL ρ q i.toNatClampNeg x) Q) : MW M j pc ls (.long x :: .int i :: .ref q :: st) ρ Q := by
  obtain ⟨hd, rfl⟩ := hd
  exact fun G p l e s m args below meth c H locs rls C D => by
    refine va_last C.1 C.2.1 C.2.2.2.2.2.2.2.1 D.1 (wsO_D C.2.2.2.2.2.2.2.2.1 ρ) D.2.1 q 1 (ce_al hs) rfl hin hd (fun H1 locs1 hP1 hD1 hS1 => ?_)
    rw [wsO_set (G := G) (ρ := ρ) (ρ' := wL ρ q i.toNatClampNeg x) hs.1 (by simp only [ce, hs.2, arrOf, wL_upd]) (fun a ha => ce_congr rfl (wL_ne ha))] at hP1
    exact k G p l e s m args below meth c H1 locs1 rls C ⟨hP1, hS1, D.2.2⟩
theorem w_iret {x : Int32} (hd : D0 M pc .ireturn 1 nx) (hr : mR M = some .int) (q : Q (some (.int x)) ρ) : MW M j pc ls [.int x] ρ Q := fun G p l e s m args below meth c H locs rls C D => W.iret C.1 C.2.1 (C.2.2.2.1.trans hr) (fun t ht hW => ⟨⟨_, ρ, rfl, q, by rw [ht]; exact D.1⟩, D.2.1.F ht⟩) D.2.1.2.2 hd.1 C.2.2.2.2.2.2.1
theorem w_zret {x : Int32} (hd : D0 M pc .ireturn 1 nx) (hr : mR M = some .boolean) (hx : narrow .boolean (.int x) = .int x) (q : Q (some (.int x)) ρ) : MW M j pc ls [.int x] ρ Q := fun G p l e s m args below meth c H locs rls C D => W.zret C.1 C.2.1 (C.2.2.2.1.trans hr) hx (fun t ht hW => ⟨⟨_, ρ, rfl, q, by rw [ht]; exact D.1⟩, D.2.1.F ht⟩) D.2.1.2.2 hd.1 C.2.2.2.2.2.2.1
theorem w_lret {x : Int64} (hd : D0 M pc .lreturn 1 nx) (hr : mR M = some .long) (q : Q (some (.long x)) ρ) : MW M j pc ls [.long x] ρ Q := fun G p l e s m args below meth c H locs rls C D => W.lret C.1 C.2.1 (C.2.2.2.1.trans hr) (fun t ht hW => ⟨⟨_, ρ, rfl, q, by rw [ht]; exact D.1⟩, D.2.1.F ht⟩) D.2.1.2.2 hd.1 C.2.2.2.2.2.2.1
theorem w_ret (hd : D0 M pc .return_ 1 nx) (hr : mR M = none) (q : Q none ρ) : MW M j pc ls [] ρ Q := fun G p l e s m args below meth c H locs rls C D => W.vret C.1 C.2.1 (C.2.2.2.1.trans hr) (fun t ht hW => ⟨⟨none, ρ, rfl, q, by rw [ht]; exact D.1⟩, D.2.1.F ht⟩) D.2.1.2.2 hd.1 C.2.2.2.2.2.2.1
def lsub : List (Option Value) → List (Option Value) → Prop
  | [], _ => True
  | _ :: _, [] => False
  | none :: a, _ :: b => lsub a b
  | some v :: a, w :: b => w = some v ∧ lsub a b
theorem lsub_lg : ∀ (a b : List (Option Value)), lsub a b → ∀ i v, lg a i = some v → lg b i = some v
  | [], _, _, i, v, h => by simp [lg] at h
  | _ :: _, [], hs, _, _, _ => hs.elim
  | none :: a, _ :: b, hs, 0, v, h => by simp [lg] at h
  | none :: a, _ :: b, hs, i + 1, v, h => lsub_lg a b hs i v h
  | some u :: a, w :: b, hs, 0, v, h => by simp only [lg] at h ⊢; rw [hs.1]; exact h
  | some u :: a, w :: b, hs, i + 1, v, h => lsub_lg a b hs.2 i v h
theorem w_weak {ls2 : List (Option Value)} (h : lsub ls2 ls) (k : MW M j pc ls2 st ρ Q) : MW M j pc ls st ρ Q := fun G p l e s m args below meth c H locs rls C D => by
    obtain ⟨hP, hS, lv, h1, h2⟩ := D
    exact k G p l e s m args below meth c H locs rls C ⟨hP, hS, lv, h1, fun i v hi => h2 i v (lsub_lg _ _ h i v hi)⟩
theorem w_mono {Q2 : Option Value → Rho → Prop} (h : ∀ r ρ, Q r ρ → Q2 r ρ) (k : MW M j pc ls st ρ Q) : MW M j pc ls st ρ Q2 := fun G p l e s m args below meth c H locs rls C D => by
    intro T hT X
    obtain ⟨t, a, o, b1, b2, b3, b4⟩ := k G p l e s m args below meth c H locs rls C D T hT X
    exact ⟨t, a, o, b1, b2, QC_mono h b3, b4⟩
theorem w_run {i : Nat} {as rest : List Value} {st0 : List Value} {Q2 : Option Value → Rho → Prop} {G : Wd} {p : Program} {l : Launch} {e : Env} {s : State} {m : MethodId} {args a : Array Value} {below : List Frame} {meth : Method} {c : Code} {H : Heap} {locs : List Loc} {rls : Array Slot} (C : Cx M G p s m args meth c) (D : Dy M G ρ s H locs rls ls)
    (hr : va_Run p l e (rmL j) s m args below meth c H locs 0 0 0 0 (F0 m pc rls st0) (rest.map (rv G)) (QC G Q2 a) (AG G)) (k : ∀ r ρ2, Q2 r ρ2 → MW M j (pc + 3) ls (r.toList ++ rest) ρ2 Q) : W p l e (rmL j) s m args below meth c H locs 0 0 (MQ below (QC G Q) args s 0 0 (AG G)) (F0 m pc rls st0) := by
  intro T hT X
  obtain ⟨v, st₀, t, T', L, h0, X', hL, e1, e2, ⟨⟨r, ρ2, hv, hQ, hP2⟩, hF⟩, go⟩ := hr T hT X
  have hv : v = r.map (rv G) := by cases hv; rfl
  subst hv
  have hS2 : va_S (AG G) s.heap T'.heap (locs ++ L) := ⟨Nat.le_trans D.2.1.1 (by rw [e1, ← h0]; exact hF.1), fun q h1 h2 => by rw [e1, hF.2 q (by rw [h0]; exact Nat.lt_of_lt_of_le h1 D.2.1.1) h2, h0]; exact D.2.1.2.1 q h1 h2, fun q hq => (List.mem_append.mp hq).elim (D.2.1.2.2 q) (hL q)⟩
  obtain ⟨t2, a1, b1⟩ := k r ρ2 hQ G p l e s m args below meth c T'.heap (locs ++ L) rls C ⟨by rw [e1]; exact hP2, hS2, D.2.2⟩ T' rfl X'
  refine ⟨t2, go t2 ?_, b1⟩
  cases r with
  | none => exact a1
  | some r => exact a1
theorem cat_rv {G : Wd} (rest : List Value) : ((rest.map (rv G)).map fun v => v.category) = rest.map fun v => v.category := by
  simp [List.map_map, Function.comp_def, rv_cat]
def SLk (M M2 : Mth) (idx n : Nat) : Prop := Cond.methodLink (mO M) idx (mY M2) ∈ BT ∧ Cond.static (mY M2) ∈ BT ∧ Cond.initialized (mY M2).cls ∈ BT ∧ Cond.code (mY M2) (mC M2) (mN M2) (mR M2) ∈ BT ∧ ((mY M2).cls ≠ "java/lang/invoke/MethodHandle" ∧ (mY M2).cls ≠ "java/lang/invoke/VarHandle") ∧ (parseMethodDescriptor (mY M2).desc).map (fun d => d.parameters.length) = some n ∧ mN M2 ≤ 21
def VLk (M M2 : Mth) (idx ci n : Nat) : Prop := Cond.methodLink (mO M) idx (mY M2) ∈ BT ∧ Cond.instanceMethod (mY M2) ∈ BT ∧ Cond.selects (mY M2).cls (mY M2) (mY M2) ∈ BT ∧ Cond.initialized (mY M2).cls ∈ BT ∧ Cond.code (mY M2) (mC M2) (mN M2) (mR M2) ∈ BT ∧ ((mY M2).cls ≠ "java/lang/invoke/MethodHandle" ∧ (mY M2).cls ≠ "java/lang/invoke/VarHandle") ∧ (parseMethodDescriptor (mY M2).desc).map (fun d => d.parameters.length) = some n ∧ mN M2 ≤ 21 ∧ ∃ T N, CL[ci]? = some ((mY M2).cls, T, N)
theorem rm_ok {i : Nat} (h : i < j) : (rmL i).frames + 1 ≤ (rmL j).frames := h
theorem rm_lo {i n : Nat} (h : i < j) (hn : n ≤ 21) : 8 + (n + 11) + (rmL i).locals ≤ (rmL j).locals := by
  show 8 + (n + 11) + 40 * i ≤ 40 * j
  omega
theorem len_of {d : String} {n : Nat} (h : (parseMethodDescriptor d).map (fun d => d.parameters.length) = some n) : ∀ sig, parseMethodDescriptor d = some sig → n = sig.parameters.length := fun sig hs => by
  rw [hs] at h
  exact (Option.some.inj h).symm
theorem PC_at {G : Wd} {as : List Value} {p : Program} {s : State} {m : MethodId} {args : Array Value} {meth : Method} {c : Code} {H : Heap} {locs : List Loc} {rls : Array Slot} (C : Cx M G p s m args meth c) (D : Dy M G ρ s H locs rls ls) : ∀ U : State, U.heap = H → s.WarmedH U.vm → PC G as ρ (as.map (rv G)).toArray U := fun U hU hW =>
  ⟨rfl, va_K.moved hW.alike C.2.2.2.2.2.2.2.1, by rw [hU]; exact D.1, va_Nw.warmM hW C.2.2.2.2.2.2.2.2.2⟩
theorem rls_size {G : Wd} {s : State} {H : Heap} {locs : List Loc} {rls : Array Slot} (D : Dy M G ρ s H locs rls ls) : rls.size = mN M := by
  obtain ⟨-, -, lv, h1, -⟩ := D
  exact h1.1
theorem w_cS {M2 : Mth} {idx n i : Nat} {as rest stk : List Value} {Q2 : Option Value → Rho → Prop} (hd : D0 M pc (.invokestatic idx) 3 nx) (hl : SLk M M2 idx n) (hi : i < j) (hC : CallOK i M2 as ρ Q2) (hn : as.length = n) (hs : stk = as.reverse ++ rest) (hw : (rest.map fun v => v.category).sum ≤ 8) (k : ∀ r ρ2, Q2 r ρ2 → MW M j nx ls (r.toList ++ rest) ρ2 Q) : MW M j pc ls stk ρ Q := by
  subst hs
  obtain ⟨hd, rfl⟩ := hd
  obtain ⟨l1, l2, l3, l4, l5, l6, l7⟩ := hl
  exact fun G p l e s m args below meth c H locs rls C D => by
    have B := C.2.2.2.2.2.1
    rw [List.map_append, List.map_reverse]
    exact w_run (i := i) (as := as) C D (va_runS (n := n) (As := as.map (rv G)) ⟨C.1, C.2.1, C.2.2.1, C.2.2.2.2.1, B⟩ (hC l G C.2.2.2.2.2.2.2.2.1) ⟨⟨rfl, rfl, rm_ok hi, rm_lo hi l7, pay_in B (goodBT l4), List.mem_cons_self, B _ l4, B _ l3, l5, len_of l6, B _ l1⟩, B _ l2⟩ ⟨PC_blind G as ρ, PC_at C D⟩ rfl (by rw [List.length_map]; exact hn) (rls_size D) rfl (lv_room (by rw [cat_rv]; exact hw)) hd ⟨Nat.le_refl _, Nat.le_refl _⟩) k
theorem w_cSN {n i : Nat} {as rest stk : List Value} {Q2 : Option Value → Rho → Prop} {M2 : Mth} (hO : mO M = "TurningVillage$Land") (hY : mY M2 = yX7_within) (hd : D0 M pc (.invokestatic 81) 3 nx) (l2 : Cond.static (mY M2) ∈ BT) (l3 : Cond.initialized (mY M2).cls ∈ BT) (l4 : Cond.code (mY M2) (mC M2) (mN M2) (mR M2) ∈ BT) (l6 : (parseMethodDescriptor (mY M2).desc).map (fun d => d.parameters.length) = some n) (l7 : mN M2 ≤ 21) (l5 : (mY M2).cls ≠ "java/lang/invoke/MethodHandle" ∧ (mY M2).cls ≠ "java/lang/invoke/VarHandle") (hi : i < j) (hC : CallOK i M2 as ρ Q2) (hn : as.length = n) (hs : stk = as.reverse ++ rest) (hw : (rest.map fun v => v.category).sum ≤ 8) (k : ∀ r ρ2, Q2 r ρ2 → MW M j nx ls (r.toList ++ rest) ρ2 Q) : MW M j pc ls stk ρ Q := by
  subst hs
  obtain ⟨hd, rfl⟩ := hd
  exact fun G p l e s m args below meth c H locs rls C D => by
    have B := C.2.2.2.2.2.1
    have hN : va_Nw (.methodLinkNest (mO M) 81 (mY M2) "TurningVillage") s := by rw [hO, hY]; exact C.2.2.2.2.2.2.2.2.2
    rw [List.map_append, List.map_reverse]
    exact w_run (i := i) (as := as) C D (va_runSN (n := n) (As := as.map (rv G)) ⟨C.1, C.2.1, C.2.2.1, C.2.2.2.2.1, B⟩ (hC l G C.2.2.2.2.2.2.2.2.1) ⟨va_cnB n B (goodBT l4) rfl rfl rfl hN (B _ l3) ⟨l5.1, l5.2, l6⟩ ⟨rm_ok hi, rm_lo hi l7⟩, B _ l2, trivial⟩ ⟨PC_blind G as ρ, PC_at C D⟩ rfl (by rw [List.length_map]; exact hn) (rls_size D) rfl (lv_room (by rw [cat_rv]; exact hw)) hd ⟨Nat.le_refl _, Nat.le_refl _⟩) k
theorem w_cV {M2 : Mth} {idx ci n i q : Nat} {fs : List Nat} {as rest stk : List Value} {Q2 : Option Value → Rho → Prop} (hd : D0 M pc (.invokevirtual idx) 3 nx) (hl : VLk M M2 idx ci n) (hq : Sh q (.inr (ci, fs))) (hi : i < j) (hC : CallOK i M2 (.ref q :: as) ρ Q2) (hn : as.length = n) (hs : stk = as.reverse ++ .ref q :: rest) (hw : (rest.map fun v => v.category).sum ≤ 8) (k : ∀ r ρ2, Q2 r ρ2 → MW M j nx ls (r.toList ++ rest) ρ2 Q) : MW M j pc ls stk ρ Q := by
  subst hs
  obtain ⟨hd, rfl⟩ := hd
  obtain ⟨l1, l2, l3, l4, l5, l6, l7, l8, T, N, l9⟩ := hl
  exact fun G p l e s m args below meth c H locs rls C D => by
    have B := C.2.2.2.2.2.1
    rw [List.map_append, List.map_reverse]
    exact w_run (i := i) (as := as) C D (va_runV (n := n) (b := G.2.1 q) (As := as.map (rv G)) ⟨C.1, C.2.1, C.2.2.1, C.2.2.2.2.1, B⟩ (hC l G C.2.2.2.2.2.2.2.2.1) ⟨⟨rfl, rfl, rm_ok hi, rm_lo hi l8, pay_in B (goodBT l5), List.mem_cons_self, B _ l5, B _ l4, l6, len_of l7, B _ l1⟩, B _ l2, B _ l3⟩ ⟨PC_blind G _ ρ, va_recv C.2.2.2.2.2.2.2.1 D.1 l9 (ce_obj hq), PC_at C D⟩ rfl (by rw [List.length_map]; exact hn) (rls_size D) rfl (lv_room (by rw [cat_rv]; exact hw)) hd ⟨Nat.le_refl _, Nat.le_refl _⟩) k
theorem CallOK.mono {M2 : Mth} {i : Nat} {as : List Value} {Q2 Q3 : Option Value → Rho → Prop} (h : CallOK i M2 as ρ Q2) (hq : ∀ r ρ2, Q2 r ρ2 → Q3 r ρ2) : CallOK i M2 as ρ Q3 := by
  intro l G hG p e ha hc hk s m args below hf h1 h2 h3
  obtain ⟨k, o, a1, a2, a3, a4, a5⟩ := h l G hG p e ha hc hk s m args below hf h1 h2 h3
  exact ⟨k, o, a1, a2, a3, QC_mono hq a4, a5⟩
theorem w_cSf {M2 : Mth} {idx n i : Nat} {as rest stk : List Value} {v : Value} {ρ1 : Rho} (hd : D0 M pc (.invokestatic idx) 3 nx) (hl : SLk M M2 idx n) (hi : i < j) (hC : CallOK i M2 as ρ (fun r ρ2 => r = some v ∧ ρ2 = ρ1)) (hn : as.length = n) (hs : stk = as.reverse ++ rest) (hw : (rest.map fun v => v.category).sum ≤ 8) (k : MW M j nx ls (v :: rest) ρ1 Q) : MW M j pc ls stk ρ Q := w_cS hd hl hi hC hn hs hw (fun r ρ2 h => by obtain ⟨rfl, rfl⟩ := h; exact k)
theorem w_cSv {M2 : Mth} {idx n i : Nat} {as rest stk : List Value} {ρ1 : Rho} (hd : D0 M pc (.invokestatic idx) 3 nx) (hl : SLk M M2 idx n) (hi : i < j) (hC : CallOK i M2 as ρ (fun r ρ2 => r = none ∧ ρ2 = ρ1)) (hn : as.length = n) (hs : stk = as.reverse ++ rest) (hw : (rest.map fun v => v.category).sum ≤ 8) (k : MW M j nx ls rest ρ1 Q) : MW M j pc ls stk ρ Q := w_cS hd hl hi hC hn hs hw (fun r ρ2 h => by obtain ⟨rfl, rfl⟩ := h; exact k)
theorem w_cSr {M2 : Mth} {idx n i : Nat} {as rest stk : List Value} {B : Value → Rho → Prop} (hd : D0 M pc (.invokestatic idx) 3 nx) (hl : SLk M M2 idx n) (hi : i < j) (hC : CallOK i M2 as ρ (fun r ρ2 => ∃ v, r = some v ∧ B v ρ2)) (hn : as.length = n) (hs : stk = as.reverse ++ rest) (hw : (rest.map fun v => v.category).sum ≤ 8) (k : ∀ v ρ2, B v ρ2 → MW M j nx ls (v :: rest) ρ2 Q) : MW M j pc ls stk ρ Q := w_cS hd hl hi hC hn hs hw (fun r ρ2 h => by obtain ⟨v, rfl, h⟩ := h; exact k v ρ2 h)
theorem w_cSu {M2 : Mth} {idx n i : Nat} {as rest stk : List Value} {B : Rho → Prop} (hd : D0 M pc (.invokestatic idx) 3 nx) (hl : SLk M M2 idx n) (hi : i < j) (hC : CallOK i M2 as ρ (fun r ρ2 => r = none ∧ B ρ2)) (hn : as.length = n) (hs : stk = as.reverse ++ rest) (hw : (rest.map fun v => v.category).sum ≤ 8) (k : ∀ ρ2, B ρ2 → MW M j nx ls rest ρ2 Q) : MW M j pc ls stk ρ Q := w_cS hd hl hi hC hn hs hw (fun r ρ2 h => by obtain ⟨rfl, h⟩ := h; exact k ρ2 h)
theorem w_cVf {M2 : Mth} {idx ci n i q : Nat} {fs : List Nat} {as rest stk : List Value} {v : Value} {ρ1 : Rho} (hd : D0 M pc (.invokevirtual idx) 3 nx) (hl : VLk M M2 idx ci n) (hq : Sh q (.inr (ci, fs))) (hi : i < j) (hC : CallOK i M2 (.ref q :: as) ρ (fun r ρ2 => r = some v ∧ ρ2 = ρ1)) (hn : as.length = n) (hs : stk = as.reverse ++ .ref q :: rest) (hw : (rest.map fun v => v.category).sum ≤ 8) (k : MW M j nx ls (v :: rest) ρ1 Q) : MW M j pc ls stk ρ Q := w_cV hd hl hq hi hC hn hs hw (fun r ρ2 h => by obtain ⟨rfl, rfl⟩ := h; exact k)
theorem w_cVv {M2 : Mth} {idx ci n i q : Nat} {fs : List Nat} {as rest stk : List Value} {ρ1 : Rho} (hd : D0 M pc (.invokevirtual idx) 3 nx) (hl : VLk M M2 idx ci n) (hq : Sh q (.inr (ci, fs))) (hi : i < j) (hC : CallOK i M2 (.ref q :: as) ρ (fun r ρ2 => r = none ∧ ρ2 = ρ1)) (hn : as.length = n) (hs : stk = as.reverse ++ .ref q :: rest) (hw : (rest.map fun v => v.category).sum ≤ 8) (k : MW M j nx ls rest ρ1 Q) : MW M j pc ls stk ρ Q := w_cV hd hl hq hi hC hn hs hw (fun r ρ2 h => by obtain ⟨rfl, rfl⟩ := h; exact k)
theorem w_cVr {M2 : Mth} {idx ci n i q : Nat} {fs : List Nat} {as rest stk : List Value} {B : Value → Rho → Prop} (hd : D0 M pc (.invokevirtual idx) 3 nx) (hl : VLk M M2 idx ci n) (hq : Sh q (.inr (ci, fs))) (hi : i < j) (hC : CallOK i M2 (.ref q :: as) ρ (fun r ρ2 => ∃ v, r = some v ∧ B v ρ2)) (hn : as.length = n) (hs : stk = as.reverse ++ .ref q :: rest) (hw : (rest.map fun v => v.category).sum ≤ 8) (k : ∀ v ρ2, B v ρ2 → MW M j nx ls (v :: rest) ρ2 Q) : MW M j pc ls stk ρ Q := w_cV hd hl hq hi hC hn hs hw (fun r ρ2 h => by obtain ⟨v, rfl, h⟩ := h; exact k v ρ2 h)
theorem w_cVu {M2 : Mth} {idx ci n i q : Nat} {fs : List Nat} {as rest stk : List Value} {B : Rho → Prop} (hd : D0 M pc (.invokevirtual idx) 3 nx) (hl : VLk M M2 idx ci n) (hq : Sh q (.inr (ci, fs))) (hi : i < j) (hC : CallOK i M2 (.ref q :: as) ρ (fun r ρ2 => r = none ∧ B ρ2)) (hn : as.length = n) (hs : stk = as.reverse ++ .ref q :: rest) (hw : (rest.map fun v => v.category).sum ≤ 8) (k : ∀ ρ2, B ρ2 → MW M j nx ls rest ρ2 Q) : MW M j pc ls stk ρ Q := w_cV hd hl hq hi hC hn hs hw (fun r ρ2 h => by obtain ⟨rfl, h⟩ := h; exact k ρ2 h)
def b2i (c : Prop) [Decidable c] : Int32 := if c then 1 else 0
theorem b2i_nar (c : Prop) [Decidable c] : narrow .boolean (.int (b2i c)) = .int (b2i c) := by
  unfold b2i
  split <;> rfl
theorem b2i_vp (c : Prop) [Decidable c] : vp_nar .boolean (b2i c) = b2i c := by
  unfold b2i
  split <;> rfl
theorem b2i_0 {c : Prop} [Decidable c] : b2i c = 0 ↔ ¬ c := by
  unfold b2i
  split <;> simp_all
theorem b2i_t {c : Prop} [Decidable c] (h : c) : b2i c = 1 := if_pos h
theorem b2i_f {c : Prop} [Decidable c] (h : ¬ c) : b2i c = 0 := if_neg h
theorem w_ifeqB {tgt : Nat} {c : Prop} [Decidable c] (hd : DFeq M pc tgt nx) (kt : ¬ c → MW M j tgt ls st ρ Q) (kf : c → MW M j nx ls st ρ Q) : MW M j pc ls (.int (b2i c) :: st) ρ Q := w_ifeq hd (fun h => kt (b2i_0.mp h)) (fun h => kf (Decidable.byContradiction fun q => h (b2i_0.mpr q)))
theorem w_ifneB {tgt : Nat} {c : Prop} [Decidable c] (hd : DFne M pc tgt nx) (kt : c → MW M j tgt ls st ρ Q) (kf : ¬ c → MW M j nx ls st ρ Q) : MW M j pc ls (.int (b2i c) :: st) ρ Q := w_ifne hd (fun h => kt (Decidable.byContradiction fun q => h (b2i_0.mpr q))) (fun h => kf (b2i_0.mp h))
theorem w_eqS {st2 : List Value} (h : st = st2) (k : MW M j pc ls st2 ρ Q) : MW M j pc ls st ρ Q := h ▸ k
theorem w_eqR {ρ2 : Rho} (h : ρ = ρ2) (k : MW M j pc ls st ρ2 Q) : MW M j pc ls st ρ Q := h ▸ k
end
