section
-- ===== PART A: goes FIRST, ahead of the names: the tables' words, and 'selects' of the private methods out of them =====
/-- a private method of a class that the tables say can be made, by its rows of tables_1 -/
def lw_okq (q : MethodName × Nat) : Prop := (q.1.cls ≠ "java/lang/invoke/MethodHandle" ∧ q.1.cls ≠ "java/lang/invoke/VarHandle") ∧ Cond.instantiable q.1.cls q.2 ∈ tables_1 ∧ Cond.privateMethod q.1 ∈ tables_1 ∧ Cond.instanceMethod q.1 ∈ tables_1
theorem lw_p0 : lw_okq (⟨"TurningVillage$Land", "interpret", "()V"⟩, 11) := ⟨⟨by decide +kernel, by decide +kernel⟩, List.mem_of_getElem? (i := 23) (by decide +kernel), List.mem_of_getElem? (i := 281) (by decide +kernel), List.mem_of_getElem? (i := 282) (by decide +kernel)⟩
theorem lw_p1 : lw_okq (⟨"TurningVillage$Land", "forget", "()V"⟩, 11) := ⟨⟨by decide +kernel, by decide +kernel⟩, List.mem_of_getElem? (i := 23) (by decide +kernel), List.mem_of_getElem? (i := 285) (by decide +kernel), List.mem_of_getElem? (i := 286) (by decide +kernel)⟩
theorem lw_p2 : lw_okq (⟨"TurningVillage$Land", "takeSigns", "()I"⟩, 11) := ⟨⟨by decide +kernel, by decide +kernel⟩, List.mem_of_getElem? (i := 23) (by decide +kernel), List.mem_of_getElem? (i := 292) (by decide +kernel), List.mem_of_getElem? (i := 293) (by decide +kernel)⟩
theorem lw_p3 : lw_okq (⟨"TurningVillage$Land", "signAt", "(I)I"⟩, 11) := ⟨⟨by decide +kernel, by decide +kernel⟩, List.mem_of_getElem? (i := 23) (by decide +kernel), List.mem_of_getElem? (i := 296) (by decide +kernel), List.mem_of_getElem? (i := 297) (by decide +kernel)⟩
theorem lw_p4 : lw_okq (⟨"TurningVillage$Land", "takeParts", "()I"⟩, 11) := ⟨⟨by decide +kernel, by decide +kernel⟩, List.mem_of_getElem? (i := 23) (by decide +kernel), List.mem_of_getElem? (i := 303) (by decide +kernel), List.mem_of_getElem? (i := 304) (by decide +kernel)⟩
theorem lw_p5 : lw_okq (⟨"TurningVillage$Land", "takePath", "(I)I"⟩, 11) := ⟨⟨by decide +kernel, by decide +kernel⟩, List.mem_of_getElem? (i := 23) (by decide +kernel), List.mem_of_getElem? (i := 307) (by decide +kernel), List.mem_of_getElem? (i := 308) (by decide +kernel)⟩
theorem lw_p6 : lw_okq (⟨"TurningVillage$Land", "figureAt", "(I)I"⟩, 11) := ⟨⟨by decide +kernel, by decide +kernel⟩, List.mem_of_getElem? (i := 23) (by decide +kernel), List.mem_of_getElem? (i := 311) (by decide +kernel), List.mem_of_getElem? (i := 312) (by decide +kernel)⟩
theorem lw_p7 : lw_okq (⟨"TurningVillage$Land", "takeBridge", "(I)I"⟩, 11) := ⟨⟨by decide +kernel, by decide +kernel⟩, List.mem_of_getElem? (i := 23) (by decide +kernel), List.mem_of_getElem? (i := 316) (by decide +kernel), List.mem_of_getElem? (i := 317) (by decide +kernel)⟩
theorem lw_p8 : lw_okq (⟨"TurningVillage$Gales", "counts", "(I)Z"⟩, 12) := ⟨⟨by decide +kernel, by decide +kernel⟩, List.mem_of_getElem? (i := 76) (by decide +kernel), List.mem_of_getElem? (i := 368) (by decide +kernel), List.mem_of_getElem? (i := 369) (by decide +kernel)⟩
theorem lw_p9 : lw_okq (⟨"TurningVillage", "found", "(I)I"⟩, 9) := ⟨⟨by decide +kernel, by decide +kernel⟩, List.mem_of_getElem? (i := 15) (by decide +kernel), List.mem_of_getElem? (i := 379) (by decide +kernel), List.mem_of_getElem? (i := 380) (by decide +kernel)⟩
theorem lw_p10 : lw_okq (⟨"TurningVillage", "daysWith", "(II)I"⟩, 9) := ⟨⟨by decide +kernel, by decide +kernel⟩, List.mem_of_getElem? (i := 15) (by decide +kernel), List.mem_of_getElem? (i := 431) (by decide +kernel), List.mem_of_getElem? (i := 432) (by decide +kernel)⟩
theorem lw_p11 : lw_okq (⟨"TurningVillage", "walkTo", "(III)I"⟩, 9) := ⟨⟨by decide +kernel, by decide +kernel⟩, List.mem_of_getElem? (i := 15) (by decide +kernel), List.mem_of_getElem? (i := 485) (by decide +kernel), List.mem_of_getElem? (i := 486) (by decide +kernel)⟩
theorem lw_p12 : lw_okq (⟨"TurningVillage$Walker", "join", "(II)V"⟩, 2) := ⟨⟨by decide +kernel, by decide +kernel⟩, List.mem_of_getElem? (i := 142) (by decide +kernel), List.mem_of_getElem? (i := 501) (by decide +kernel), List.mem_of_getElem? (i := 502) (by decide +kernel)⟩
theorem lw_p13 : lw_okq (⟨"TurningVillage", "reckonJoys", "(II)V"⟩, 9) := ⟨⟨by decide +kernel, by decide +kernel⟩, List.mem_of_getElem? (i := 15) (by decide +kernel), List.mem_of_getElem? (i := 547) (by decide +kernel), List.mem_of_getElem? (i := 548) (by decide +kernel)⟩
theorem lw_p14 : lw_okq (⟨"TurningVillage$Tenants", "changeFirstPair", "()Z"⟩, 5) := ⟨⟨by decide +kernel, by decide +kernel⟩, List.mem_of_getElem? (i := 155) (by decide +kernel), List.mem_of_getElem? (i := 560) (by decide +kernel), List.mem_of_getElem? (i := 561) (by decide +kernel)⟩
theorem lw_p15 : lw_okq (⟨"TurningVillage$Tenants", "wouldChange", "(II)Z"⟩, 5) := ⟨⟨by decide +kernel, by decide +kernel⟩, List.mem_of_getElem? (i := 155) (by decide +kernel), List.mem_of_getElem? (i := 564) (by decide +kernel), List.mem_of_getElem? (i := 565) (by decide +kernel)⟩
def lw_privs_1 : List (MethodName × Nat) := [(⟨"TurningVillage$Land", "interpret", "()V"⟩, 11), (⟨"TurningVillage$Land", "forget", "()V"⟩, 11), (⟨"TurningVillage$Land", "takeSigns", "()I"⟩, 11), (⟨"TurningVillage$Land", "signAt", "(I)I"⟩, 11), (⟨"TurningVillage$Land", "takeParts", "()I"⟩, 11), (⟨"TurningVillage$Land", "takePath", "(I)I"⟩, 11), (⟨"TurningVillage$Land", "figureAt", "(I)I"⟩, 11), (⟨"TurningVillage$Land", "takeBridge", "(I)I"⟩, 11), (⟨"TurningVillage$Gales", "counts", "(I)Z"⟩, 12), (⟨"TurningVillage", "found", "(I)I"⟩, 9), (⟨"TurningVillage", "daysWith", "(II)I"⟩, 9), (⟨"TurningVillage", "walkTo", "(III)I"⟩, 9), (⟨"TurningVillage$Walker", "join", "(II)V"⟩, 2), (⟨"TurningVillage", "reckonJoys", "(II)V"⟩, 9), (⟨"TurningVillage$Tenants", "changeFirstPair", "()Z"⟩, 5), (⟨"TurningVillage$Tenants", "wouldChange", "(II)Z"⟩, 5)]
theorem lw_r1 : ∀ q ∈ lw_privs_1, lw_okq q := List.forall_mem_cons.mpr ⟨lw_p0, List.forall_mem_cons.mpr ⟨lw_p1, List.forall_mem_cons.mpr ⟨lw_p2, List.forall_mem_cons.mpr ⟨lw_p3, List.forall_mem_cons.mpr ⟨lw_p4, List.forall_mem_cons.mpr ⟨lw_p5, List.forall_mem_cons.mpr ⟨lw_p6, List.forall_mem_cons.mpr ⟨lw_p7, List.forall_mem_cons.mpr ⟨lw_p8, List.forall_mem_cons.mpr ⟨lw_p9, List.forall_mem_cons.mpr ⟨lw_p10, List.forall_mem_cons.mpr ⟨lw_p11, List.forall_mem_cons.mpr ⟨lw_p12, List.forall_mem_cons.mpr ⟨lw_p13, List.forall_mem_cons.mpr ⟨lw_p14, List.forall_mem_cons.mpr ⟨lw_p15, fun _ h => absurd h List.not_mem_nil⟩⟩⟩⟩⟩⟩⟩⟩⟩⟩⟩⟩⟩⟩⟩⟩
theorem lw_p16 : lw_okq (⟨"TurningVillage$Tenants", "joyWith", "(III)I"⟩, 5) := ⟨⟨by decide +kernel, by decide +kernel⟩, List.mem_of_getElem? (i := 155) (by decide +kernel), List.mem_of_getElem? (i := 582) (by decide +kernel), List.mem_of_getElem? (i := 583) (by decide +kernel)⟩
theorem lw_p17 : lw_okq (⟨"TurningVillage$Tenants", "leastBestRow", "(II)I"⟩, 5) := ⟨⟨by decide +kernel, by decide +kernel⟩, List.mem_of_getElem? (i := 155) (by decide +kernel), List.mem_of_getElem? (i := 589) (by decide +kernel), List.mem_of_getElem? (i := 590) (by decide +kernel)⟩
theorem lw_p18 : lw_okq (⟨"TurningVillage$Harvest", "reckonCrops", "(LTurningVillage$Land;)J"⟩, 9) := ⟨⟨by decide +kernel, by decide +kernel⟩, List.mem_of_getElem? (i := 179) (by decide +kernel), List.mem_of_getElem? (i := 617) (by decide +kernel), List.mem_of_getElem? (i := 618) (by decide +kernel)⟩
theorem lw_p19 : lw_okq (⟨"TurningVillage$Harvest", "extend", "(II)V"⟩, 9) := ⟨⟨by decide +kernel, by decide +kernel⟩, List.mem_of_getElem? (i := 179) (by decide +kernel), List.mem_of_getElem? (i := 626) (by decide +kernel), List.mem_of_getElem? (i := 627) (by decide +kernel)⟩
theorem lw_p20 : lw_okq (⟨"TurningVillage$Harvest", "note", "(II)V"⟩, 9) := ⟨⟨by decide +kernel, by decide +kernel⟩, List.mem_of_getElem? (i := 179) (by decide +kernel), List.mem_of_getElem? (i := 630) (by decide +kernel), List.mem_of_getElem? (i := 631) (by decide +kernel)⟩
theorem lw_p21 : lw_okq (⟨"TurningVillage", "longestWait", "(II)I"⟩, 9) := ⟨⟨by decide +kernel, by decide +kernel⟩, List.mem_of_getElem? (i := 15) (by decide +kernel), List.mem_of_getElem? (i := 639) (by decide +kernel), List.mem_of_getElem? (i := 640) (by decide +kernel)⟩
theorem lw_p22 : lw_okq (⟨"TurningVillage", "digestPlaces", "(J)J"⟩, 9) := ⟨⟨by decide +kernel, by decide +kernel⟩, List.mem_of_getElem? (i := 15) (by decide +kernel), List.mem_of_getElem? (i := 717) (by decide +kernel), List.mem_of_getElem? (i := 718) (by decide +kernel)⟩
theorem lw_p23 : lw_okq (⟨"TurningVillage", "digestRows", "(J)J"⟩, 9) := ⟨⟨by decide +kernel, by decide +kernel⟩, List.mem_of_getElem? (i := 15) (by decide +kernel), List.mem_of_getElem? (i := 722) (by decide +kernel), List.mem_of_getElem? (i := 723) (by decide +kernel)⟩
theorem lw_p24 : lw_okq (⟨"TurningVillage", "digestTenants", "(J)J"⟩, 9) := ⟨⟨by decide +kernel, by decide +kernel⟩, List.mem_of_getElem? (i := 15) (by decide +kernel), List.mem_of_getElem? (i := 732) (by decide +kernel), List.mem_of_getElem? (i := 733) (by decide +kernel)⟩
theorem lw_p25 : lw_okq (⟨"TurningVillageModel", "faultNow", "()I"⟩, 30) := ⟨⟨by decide +kernel, by decide +kernel⟩, List.mem_of_getElem? (i := 739) (by decide +kernel), List.mem_of_getElem? (i := 852) (by decide +kernel), List.mem_of_getElem? (i := 853) (by decide +kernel)⟩
theorem lw_p26 : lw_okq (⟨"TurningVillageModel", "reads", "()I"⟩, 30) := ⟨⟨by decide +kernel, by decide +kernel⟩, List.mem_of_getElem? (i := 739) (by decide +kernel), List.mem_of_getElem? (i := 856) (by decide +kernel), List.mem_of_getElem? (i := 857) (by decide +kernel)⟩
theorem lw_p27 : lw_okq (⟨"TurningVillageModel", "byteAt", "(I)I"⟩, 30) := ⟨⟨by decide +kernel, by decide +kernel⟩, List.mem_of_getElem? (i := 739) (by decide +kernel), List.mem_of_getElem? (i := 860) (by decide +kernel), List.mem_of_getElem? (i := 861) (by decide +kernel)⟩
theorem lw_p28 : lw_okq (⟨"TurningVillageModel", "mayBe", "(II)Z"⟩, 30) := ⟨⟨by decide +kernel, by decide +kernel⟩, List.mem_of_getElem? (i := 739) (by decide +kernel), List.mem_of_getElem? (i := 867) (by decide +kernel), List.mem_of_getElem? (i := 868) (by decide +kernel)⟩
theorem lw_p29 : lw_okq (⟨"TurningVillageModel", "placeOf", "(II)I"⟩, 30) := ⟨⟨by decide +kernel, by decide +kernel⟩, List.mem_of_getElem? (i := 739) (by decide +kernel), List.mem_of_getElem? (i := 878) (by decide +kernel), List.mem_of_getElem? (i := 879) (by decide +kernel)⟩
theorem lw_p30 : lw_okq (⟨"TurningVillageModel", "galeMore", "(III)I"⟩, 30) := ⟨⟨by decide +kernel, by decide +kernel⟩, List.mem_of_getElem? (i := 739) (by decide +kernel), List.mem_of_getElem? (i := 890) (by decide +kernel), List.mem_of_getElem? (i := 891) (by decide +kernel)⟩
theorem lw_p31 : lw_okq (⟨"TurningVillageModel", "meets", "(I)I"⟩, 30) := ⟨⟨by decide +kernel, by decide +kernel⟩, List.mem_of_getElem? (i := 739) (by decide +kernel), List.mem_of_getElem? (i := 901) (by decide +kernel), List.mem_of_getElem? (i := 902) (by decide +kernel)⟩
def lw_privs_2 : List (MethodName × Nat) := [(⟨"TurningVillage$Tenants", "joyWith", "(III)I"⟩, 5), (⟨"TurningVillage$Tenants", "leastBestRow", "(II)I"⟩, 5), (⟨"TurningVillage$Harvest", "reckonCrops", "(LTurningVillage$Land;)J"⟩, 9), (⟨"TurningVillage$Harvest", "extend", "(II)V"⟩, 9), (⟨"TurningVillage$Harvest", "note", "(II)V"⟩, 9), (⟨"TurningVillage", "longestWait", "(II)I"⟩, 9), (⟨"TurningVillage", "digestPlaces", "(J)J"⟩, 9), (⟨"TurningVillage", "digestRows", "(J)J"⟩, 9), (⟨"TurningVillage", "digestTenants", "(J)J"⟩, 9), (⟨"TurningVillageModel", "faultNow", "()I"⟩, 30), (⟨"TurningVillageModel", "reads", "()I"⟩, 30), (⟨"TurningVillageModel", "byteAt", "(I)I"⟩, 30), (⟨"TurningVillageModel", "mayBe", "(II)Z"⟩, 30), (⟨"TurningVillageModel", "placeOf", "(II)I"⟩, 30), (⟨"TurningVillageModel", "galeMore", "(III)I"⟩, 30), (⟨"TurningVillageModel", "meets", "(I)I"⟩, 30)]
theorem lw_r2 : ∀ q ∈ lw_privs_2, lw_okq q := List.forall_mem_cons.mpr ⟨lw_p16, List.forall_mem_cons.mpr ⟨lw_p17, List.forall_mem_cons.mpr ⟨lw_p18, List.forall_mem_cons.mpr ⟨lw_p19, List.forall_mem_cons.mpr ⟨lw_p20, List.forall_mem_cons.mpr ⟨lw_p21, List.forall_mem_cons.mpr ⟨lw_p22, List.forall_mem_cons.mpr ⟨lw_p23, List.forall_mem_cons.mpr ⟨lw_p24, List.forall_mem_cons.mpr ⟨lw_p25, List.forall_mem_cons.mpr ⟨lw_p26, List.forall_mem_cons.mpr ⟨lw_p27, List.forall_mem_cons.mpr ⟨lw_p28, List.forall_mem_cons.mpr ⟨lw_p29, List.forall_mem_cons.mpr ⟨lw_p30, List.forall_mem_cons.mpr ⟨lw_p31, fun _ h => absurd h List.not_mem_nil⟩⟩⟩⟩⟩⟩⟩⟩⟩⟩⟩⟩⟩⟩⟩⟩
theorem lw_p32 : lw_okq (⟨"TurningVillageModel", "turnOf", "(I)I"⟩, 30) := ⟨⟨by decide +kernel, by decide +kernel⟩, List.mem_of_getElem? (i := 739) (by decide +kernel), List.mem_of_getElem? (i := 920) (by decide +kernel), List.mem_of_getElem? (i := 921) (by decide +kernel)⟩
theorem lw_p33 : lw_okq (⟨"TurningVillageModel", "lays", "()V"⟩, 30) := ⟨⟨by decide +kernel, by decide +kernel⟩, List.mem_of_getElem? (i := 739) (by decide +kernel), List.mem_of_getElem? (i := 924) (by decide +kernel), List.mem_of_getElem? (i := 925) (by decide +kernel)⟩
theorem lw_p34 : lw_okq (⟨"TurningVillageModel", "doesCount", "(I)Z"⟩, 30) := ⟨⟨by decide +kernel, by decide +kernel⟩, List.mem_of_getElem? (i := 739) (by decide +kernel), List.mem_of_getElem? (i := 928) (by decide +kernel), List.mem_of_getElem? (i := 929) (by decide +kernel)⟩
theorem lw_p35 : lw_okq (⟨"TurningVillageModel", "isOver", "(III)Z"⟩, 30) := ⟨⟨by decide +kernel, by decide +kernel⟩, List.mem_of_getElem? (i := 739) (by decide +kernel), List.mem_of_getElem? (i := 936) (by decide +kernel), List.mem_of_getElem? (i := 937) (by decide +kernel)⟩
theorem lw_p36 : lw_okq (⟨"TurningVillageModel", "doorOf", "(III)I"⟩, 30) := ⟨⟨by decide +kernel, by decide +kernel⟩, List.mem_of_getElem? (i := 739) (by decide +kernel), List.mem_of_getElem? (i := 944) (by decide +kernel), List.mem_of_getElem? (i := 945) (by decide +kernel)⟩
theorem lw_p37 : lw_okq (⟨"TurningVillageModel", "doorAt", "(II)I"⟩, 30) := ⟨⟨by decide +kernel, by decide +kernel⟩, List.mem_of_getElem? (i := 739) (by decide +kernel), List.mem_of_getElem? (i := 948) (by decide +kernel), List.mem_of_getElem? (i := 949) (by decide +kernel)⟩
theorem lw_p38 : lw_okq (⟨"TurningVillageModel", "daysOf", "(IIII)I"⟩, 30) := ⟨⟨by decide +kernel, by decide +kernel⟩, List.mem_of_getElem? (i := 739) (by decide +kernel), List.mem_of_getElem? (i := 966) (by decide +kernel), List.mem_of_getElem? (i := 967) (by decide +kernel)⟩
theorem lw_p39 : lw_okq (⟨"TurningVillageModel", "shineOf", "(III)I"⟩, 30) := ⟨⟨by decide +kernel, by decide +kernel⟩, List.mem_of_getElem? (i := 739) (by decide +kernel), List.mem_of_getElem? (i := 977) (by decide +kernel), List.mem_of_getElem? (i := 978) (by decide +kernel)⟩
theorem lw_p40 : lw_okq (⟨"TurningVillageModel", "aheadOf", "(IIII)I"⟩, 30) := ⟨⟨by decide +kernel, by decide +kernel⟩, List.mem_of_getElem? (i := 739) (by decide +kernel), List.mem_of_getElem? (i := 985) (by decide +kernel), List.mem_of_getElem? (i := 986) (by decide +kernel)⟩
theorem lw_p41 : lw_okq (⟨"TurningVillageModel", "works", "(IIII)Z"⟩, 30) := ⟨⟨by decide +kernel, by decide +kernel⟩, List.mem_of_getElem? (i := 739) (by decide +kernel), List.mem_of_getElem? (i := 993) (by decide +kernel), List.mem_of_getElem? (i := 994) (by decide +kernel)⟩
theorem lw_p42 : lw_okq (⟨"TurningVillageModel", "soonOf", "(IIII)I"⟩, 30) := ⟨⟨by decide +kernel, by decide +kernel⟩, List.mem_of_getElem? (i := 739) (by decide +kernel), List.mem_of_getElem? (i := 1006) (by decide +kernel), List.mem_of_getElem? (i := 1007) (by decide +kernel)⟩
theorem lw_p43 : lw_okq (⟨"TurningVillageModel", "begins", "(II)V"⟩, 30) := ⟨⟨by decide +kernel, by decide +kernel⟩, List.mem_of_getElem? (i := 739) (by decide +kernel), List.mem_of_getElem? (i := 1010) (by decide +kernel), List.mem_of_getElem? (i := 1011) (by decide +kernel)⟩
theorem lw_p44 : lw_okq (⟨"TurningVillageModel", "goes", "(II)V"⟩, 30) := ⟨⟨by decide +kernel, by decide +kernel⟩, List.mem_of_getElem? (i := 739) (by decide +kernel), List.mem_of_getElem? (i := 1015) (by decide +kernel), List.mem_of_getElem? (i := 1016) (by decide +kernel)⟩
theorem lw_p45 : lw_okq (⟨"TurningVillageModel", "isStep", "(III)Z"⟩, 30) := ⟨⟨by decide +kernel, by decide +kernel⟩, List.mem_of_getElem? (i := 739) (by decide +kernel), List.mem_of_getElem? (i := 1019) (by decide +kernel), List.mem_of_getElem? (i := 1020) (by decide +kernel)⟩
theorem lw_p46 : lw_okq (⟨"TurningVillageModel", "meetOf", "(IIII)I"⟩, 30) := ⟨⟨by decide +kernel, by decide +kernel⟩, List.mem_of_getElem? (i := 739) (by decide +kernel), List.mem_of_getElem? (i := 1031) (by decide +kernel), List.mem_of_getElem? (i := 1032) (by decide +kernel)⟩
theorem lw_p47 : lw_okq (⟨"TurningVillageModel", "laysJoy", "(II)V"⟩, 30) := ⟨⟨by decide +kernel, by decide +kernel⟩, List.mem_of_getElem? (i := 739) (by decide +kernel), List.mem_of_getElem? (i := 1047) (by decide +kernel), List.mem_of_getElem? (i := 1048) (by decide +kernel)⟩
def lw_privs_3 : List (MethodName × Nat) := [(⟨"TurningVillageModel", "turnOf", "(I)I"⟩, 30), (⟨"TurningVillageModel", "lays", "()V"⟩, 30), (⟨"TurningVillageModel", "doesCount", "(I)Z"⟩, 30), (⟨"TurningVillageModel", "isOver", "(III)Z"⟩, 30), (⟨"TurningVillageModel", "doorOf", "(III)I"⟩, 30), (⟨"TurningVillageModel", "doorAt", "(II)I"⟩, 30), (⟨"TurningVillageModel", "daysOf", "(IIII)I"⟩, 30), (⟨"TurningVillageModel", "shineOf", "(III)I"⟩, 30), (⟨"TurningVillageModel", "aheadOf", "(IIII)I"⟩, 30), (⟨"TurningVillageModel", "works", "(IIII)Z"⟩, 30), (⟨"TurningVillageModel", "soonOf", "(IIII)I"⟩, 30), (⟨"TurningVillageModel", "begins", "(II)V"⟩, 30), (⟨"TurningVillageModel", "goes", "(II)V"⟩, 30), (⟨"TurningVillageModel", "isStep", "(III)Z"⟩, 30), (⟨"TurningVillageModel", "meetOf", "(IIII)I"⟩, 30), (⟨"TurningVillageModel", "laysJoy", "(II)V"⟩, 30)]
theorem lw_r3 : ∀ q ∈ lw_privs_3, lw_okq q := List.forall_mem_cons.mpr ⟨lw_p32, List.forall_mem_cons.mpr ⟨lw_p33, List.forall_mem_cons.mpr ⟨lw_p34, List.forall_mem_cons.mpr ⟨lw_p35, List.forall_mem_cons.mpr ⟨lw_p36, List.forall_mem_cons.mpr ⟨lw_p37, List.forall_mem_cons.mpr ⟨lw_p38, List.forall_mem_cons.mpr ⟨lw_p39, List.forall_mem_cons.mpr ⟨lw_p40, List.forall_mem_cons.mpr ⟨lw_p41, List.forall_mem_cons.mpr ⟨lw_p42, List.forall_mem_cons.mpr ⟨lw_p43, List.forall_mem_cons.mpr ⟨lw_p44, List.forall_mem_cons.mpr ⟨lw_p45, List.forall_mem_cons.mpr ⟨lw_p46, List.forall_mem_cons.mpr ⟨lw_p47, fun _ h => absurd h List.not_mem_nil⟩⟩⟩⟩⟩⟩⟩⟩⟩⟩⟩⟩⟩⟩⟩⟩
theorem lw_p48 : lw_okq (⟨"TurningVillageModel", "bestOf", "(III)I"⟩, 30) := ⟨⟨by decide +kernel, by decide +kernel⟩, List.mem_of_getElem? (i := 739) (by decide +kernel), List.mem_of_getElem? (i := 1059) (by decide +kernel), List.mem_of_getElem? (i := 1060) (by decide +kernel)⟩
theorem lw_p49 : lw_okq (⟨"TurningVillageModel", "envyOf", "(II)I"⟩, 30) := ⟨⟨by decide +kernel, by decide +kernel⟩, List.mem_of_getElem? (i := 739) (by decide +kernel), List.mem_of_getElem? (i := 1073) (by decide +kernel), List.mem_of_getElem? (i := 1074) (by decide +kernel)⟩
theorem lw_p50 : lw_okq (⟨"TurningVillageModel", "historyOf", "(III)I"⟩, 30) := ⟨⟨by decide +kernel, by decide +kernel⟩, List.mem_of_getElem? (i := 739) (by decide +kernel), List.mem_of_getElem? (i := 1085) (by decide +kernel), List.mem_of_getElem? (i := 1086) (by decide +kernel)⟩
theorem lw_p51 : lw_okq (⟨"TurningVillageModel", "waitsOf", "(II)I"⟩, 30) := ⟨⟨by decide +kernel, by decide +kernel⟩, List.mem_of_getElem? (i := 739) (by decide +kernel), List.mem_of_getElem? (i := 1093) (by decide +kernel), List.mem_of_getElem? (i := 1094) (by decide +kernel)⟩
theorem lw_p52 : lw_okq (⟨"TurningVillageModel", "digOf", "(II)I"⟩, 30) := ⟨⟨by decide +kernel, by decide +kernel⟩, List.mem_of_getElem? (i := 739) (by decide +kernel), List.mem_of_getElem? (i := 1101) (by decide +kernel), List.mem_of_getElem? (i := 1102) (by decide +kernel)⟩
theorem lw_p53 : lw_okq (⟨"TurningVillageModel", "lacks", "(III)I"⟩, 30) := ⟨⟨by decide +kernel, by decide +kernel⟩, List.mem_of_getElem? (i := 739) (by decide +kernel), List.mem_of_getElem? (i := 1117) (by decide +kernel), List.mem_of_getElem? (i := 1118) (by decide +kernel)⟩
theorem lw_p54 : lw_okq (⟨"TurningVillageModel", "keep", "(III)V"⟩, 30) := ⟨⟨by decide +kernel, by decide +kernel⟩, List.mem_of_getElem? (i := 739) (by decide +kernel), List.mem_of_getElem? (i := 1121) (by decide +kernel), List.mem_of_getElem? (i := 1122) (by decide +kernel)⟩
theorem lw_p55 : lw_okq (⟨"TurningVillageModel", "sumOf", "(I)I"⟩, 30) := ⟨⟨by decide +kernel, by decide +kernel⟩, List.mem_of_getElem? (i := 739) (by decide +kernel), List.mem_of_getElem? (i := 1142) (by decide +kernel), List.mem_of_getElem? (i := 1143) (by decide +kernel)⟩
def lw_privs_4 : List (MethodName × Nat) := [(⟨"TurningVillageModel", "bestOf", "(III)I"⟩, 30), (⟨"TurningVillageModel", "envyOf", "(II)I"⟩, 30), (⟨"TurningVillageModel", "historyOf", "(III)I"⟩, 30), (⟨"TurningVillageModel", "waitsOf", "(II)I"⟩, 30), (⟨"TurningVillageModel", "digOf", "(II)I"⟩, 30), (⟨"TurningVillageModel", "lacks", "(III)I"⟩, 30), (⟨"TurningVillageModel", "keep", "(III)V"⟩, 30), (⟨"TurningVillageModel", "sumOf", "(I)I"⟩, 30)]
theorem lw_r4 : ∀ q ∈ lw_privs_4, lw_okq q := List.forall_mem_cons.mpr ⟨lw_p48, List.forall_mem_cons.mpr ⟨lw_p49, List.forall_mem_cons.mpr ⟨lw_p50, List.forall_mem_cons.mpr ⟨lw_p51, List.forall_mem_cons.mpr ⟨lw_p52, List.forall_mem_cons.mpr ⟨lw_p53, List.forall_mem_cons.mpr ⟨lw_p54, List.forall_mem_cons.mpr ⟨lw_p55, fun _ h => absurd h List.not_mem_nil⟩⟩⟩⟩⟩⟩⟩⟩
def lw_privs : List (MethodName × Nat) := lw_privs_1 ++ (lw_privs_2 ++ (lw_privs_3 ++ (lw_privs_4)))
def lw_tbl : List Cond := k2_sels lw_privs ++ tables_1
theorem lw_privs_ok : ∀ q ∈ lw_privs, lw_okq q := by
  show ∀ q ∈ lw_privs_1 ++ (lw_privs_2 ++ (lw_privs_3 ++ (lw_privs_4))), lw_okq q
  exact List.forall_mem_append.mpr ⟨lw_r1, List.forall_mem_append.mpr ⟨lw_r2, List.forall_mem_append.mpr ⟨lw_r3, lw_r4⟩⟩⟩
end
section
def RX0 : String := "TurningVillage$Chance"
def TX0 : u_T := fun k => match k with
  | 0 => ("TurningVillage$Chance", "weights", "[J", true)
  | _ => ("TurningVillage$Chance", "all", "J", false)
def tyX0 : Nat → FieldType := fun k => match k with
  | 0 => .array .long
  | _ => .long
abbrev wsX00 : List Cond := u_ws RX0 TX0 2
theorem nmX0 : ∀ a, a < 2 → ∀ b, b < 2 → a ≠ b → (TX0 a).2.1 ≠ (TX0 b).2.1 := by decide +kernel
theorem tyX0_ok : ∀ k, k < 2 → parseFieldDescriptor (TX0 k).2.2.1 = some (tyX0 k) := by decide +kernel
abbrev cX0_init : ByteArray := prog_2_method_1_code
def yX0_init : MethodName := ⟨RX0, "<init>", "()V"⟩
abbrev cX0_begin : ByteArray := prog_2_method_2_code
def yX0_begin : MethodName := ⟨RX0, "begin", "(I)V"⟩
abbrev cX0_oneDay : ByteArray := prog_2_method_3_code
def yX0_oneDay : MethodName := ⟨RX0, "oneDay", "(I)V"⟩
abbrev cX0_left : ByteArray := prog_2_method_4_code
def yX0_left : MethodName := ⟨RX0, "left", "()J"⟩
def RX1 : String := "TurningVillage$Gales"
def TX1 : u_T := fun k => match k with
  | 0 => ("TurningVillage$Gales", "number", "I", false)
  | 1 => ("TurningVillage$Gales", "days", "[I", true)
  | 2 => ("TurningVillage$Gales", "froms", "[I", true)
  | 3 => ("TurningVillage$Gales", "told", "[I", true)
  | 4 => ("TurningVillage$Gales", "taken", "[I", true)
  | 5 => ("TurningVillage$Gales", "latest", "I", false)
  | 6 => ("TurningVillage$Gales", "asOf", "I", false)
  | 7 => ("TurningVillage$Gales", "wing", "I", false)
  | 8 => ("TurningVillage$Gales", "begin", "I", false)
  | 9 => ("TurningVillage$Gales", "turns", "[I", true)
  | 10 => ("TurningVillage$Gales", "daysOfTurn", "[I", true)
  | _ => ("TurningVillage$Gales", "firstDays", "[I", true)
def tyX1 : Nat → FieldType := fun k => match k with
  | 0 => .int
  | 1 => .array .int
  | 2 => .array .int
  | 3 => .array .int
  | 4 => .array .int
  | 5 => .int
  | 6 => .int
  | 7 => .int
  | 8 => .int
  | 9 => .array .int
  | 10 => .array .int
  | _ => .array .int
abbrev wsX10 : List Cond := u_ws RX1 TX1 12
theorem nmX1 : ∀ a, a < 12 → ∀ b, b < 12 → a ≠ b → (TX1 a).2.1 ≠ (TX1 b).2.1 := by decide +kernel
theorem tyX1_ok : ∀ k, k < 12 → parseFieldDescriptor (TX1 k).2.2.1 = some (tyX1 k) := by decide +kernel
abbrev cX1_init : ByteArray := prog_3_method_1_code
def yX1_init : MethodName := ⟨RX1, "<init>", "()V"⟩
abbrev cX1_mayBeTold : ByteArray := prog_3_method_2_code
def yX1_mayBeTold : MethodName := ⟨RX1, "mayBeTold", "(I)Z"⟩
abbrev cX1_add : ByteArray := prog_3_method_3_code
def yX1_add : MethodName := ⟨RX1, "add", "(III)Z"⟩
abbrev cX1_isTaken : ByteArray := prog_3_method_4_code
def yX1_isTaken : MethodName := ⟨RX1, "isTaken", "(I)Z"⟩
abbrev cX1_remove : ByteArray := prog_3_method_5_code
def yX1_remove : MethodName := ⟨RX1, "remove", "(II)V"⟩
abbrev cX1_change : ByteArray := prog_3_method_6_code
def yX1_change : MethodName := ⟨RX1, "change", "(II)I"⟩
abbrev cX1_counts : ByteArray := prog_3_method_7_code
def yX1_counts : MethodName := ⟨RX1, "counts", "(I)Z"⟩
abbrev cX1_counting : ByteArray := prog_3_method_8_code
def yX1_counting : MethodName := ⟨RX1, "counting", "()I"⟩
abbrev cX1_reckonTurns : ByteArray := prog_3_method_9_code
def yX1_reckonTurns : MethodName := ⟨RX1, "reckonTurns", "()V"⟩
abbrev cX1_tally : ByteArray := prog_3_method_10_code
def yX1_tally : MethodName := ⟨RX1, "tally", "(II)V"⟩
abbrev cX1_findFirstDays : ByteArray := prog_3_method_11_code
def yX1_findFirstDays : MethodName := ⟨RX1, "findFirstDays", "(I)V"⟩
def RX2 : String := "TurningVillage$Harvest"
def TX2 : u_T := fun k => match k with
  | 0 => ("TurningVillage$Harvest", "known", "[I", true)
  | 1 => ("TurningVillage$Harvest", "cropOfTurn", "[J", true)
  | 2 => ("TurningVillage$Harvest", "bits", "[I", true)
  | 3 => ("TurningVillage$Harvest", "turns", "[I", true)
  | 4 => ("TurningVillage$Harvest", "crops", "[J", true)
  | 5 => ("TurningVillage$Harvest", "fitting", "I", false)
  | 6 => ("TurningVillage$Harvest", "first", "I", false)
  | 7 => ("TurningVillage$Harvest", "sureWith", "I", false)
  | _ => ("TurningVillage$Harvest", "sureWithout", "I", false)
def tyX2 : Nat → FieldType := fun k => match k with
  | 0 => .array .int
  | 1 => .array .long
  | 2 => .array .int
  | 3 => .array .int
  | 4 => .array .long
  | 5 => .int
  | 6 => .int
  | 7 => .int
  | _ => .int
abbrev wsX20 : List Cond := u_ws RX2 TX2 9
theorem nmX2 : ∀ a, a < 9 → ∀ b, b < 9 → a ≠ b → (TX2 a).2.1 ≠ (TX2 b).2.1 := by decide +kernel
theorem tyX2_ok : ∀ k, k < 9 → parseFieldDescriptor (TX2 k).2.2.1 = some (tyX2 k) := by decide +kernel
abbrev cX2_init : ByteArray := prog_4_method_1_code
def yX2_init : MethodName := ⟨RX2, "<init>", "()V"⟩
abbrev cX2_search : ByteArray := prog_4_method_2_code
def yX2_search : MethodName := ⟨RX2, "search", "(LTurningVillage$Land;II)V"⟩
abbrev cX2_reckonCrops : ByteArray := prog_4_method_3_code
def yX2_reckonCrops : MethodName := ⟨RX2, "reckonCrops", "(LTurningVillage$Land;)J"⟩
abbrev cX2_extend : ByteArray := prog_4_method_4_code
def yX2_extend : MethodName := ⟨RX2, "extend", "(II)V"⟩
abbrev cX2_note : ByteArray := prog_4_method_5_code
def yX2_note : MethodName := ⟨RX2, "note", "(II)V"⟩
def RX3 : String := "TurningVillage$Land"
def TX3 : u_T := fun k => match k with
  | 0 => ("TurningVillage$Land", "text", "[I", true)
  | 1 => ("TurningVillage$Land", "length", "I", false)
  | 2 => ("TurningVillage$Land", "fault", "I", false)
  | 3 => ("TurningVillage$Land", "things", "[I", true)
  | 4 => ("TurningVillage$Land", "closed", "[I", true)
  | 5 => ("TurningVillage$Land", "suns", "[I", true)
  | 6 => ("TurningVillage$Land", "bridges", "I", false)
  | 7 => ("TurningVillage$Land", "oneEnd", "[I", true)
  | 8 => ("TurningVillage$Land", "otherEnd", "[I", true)
  | 9 => ("TurningVillage$Land", "modulus", "[I", true)
  | _ => ("TurningVillage$Land", "remainder", "[I", true)
def tyX3 : Nat → FieldType := fun k => match k with
  | 0 => .array .int
  | 1 => .int
  | 2 => .int
  | 3 => .array .int
  | 4 => .array .int
  | 5 => .array .int
  | 6 => .int
  | 7 => .array .int
  | 8 => .array .int
  | 9 => .array .int
  | _ => .array .int
abbrev wsX30 : List Cond := u_ws RX3 TX3 11
theorem nmX3 : ∀ a, a < 11 → ∀ b, b < 11 → a ≠ b → (TX3 a).2.1 ≠ (TX3 b).2.1 := by decide +kernel
theorem tyX3_ok : ∀ k, k < 11 → parseFieldDescriptor (TX3 k).2.2.1 = some (tyX3 k) := by decide +kernel
abbrev cX3_init : ByteArray := prog_5_method_1_code
def yX3_init : MethodName := ⟨RX3, "<init>", "()V"⟩
abbrev cX3_append : ByteArray := prog_5_method_2_code
def yX3_append : MethodName := ⟨RX3, "append", "(I)I"⟩
abbrev cX3_empty : ByteArray := prog_5_method_3_code
def yX3_empty : MethodName := ⟨RX3, "empty", "()I"⟩
abbrev cX3_interpret : ByteArray := prog_5_method_4_code
def yX3_interpret : MethodName := ⟨RX3, "interpret", "()V"⟩
abbrev cX3_forget : ByteArray := prog_5_method_5_code
def yX3_forget : MethodName := ⟨RX3, "forget", "()V"⟩
abbrev cX3_takeSigns : ByteArray := prog_5_method_6_code
def yX3_takeSigns : MethodName := ⟨RX3, "takeSigns", "()I"⟩
abbrev cX3_takeParts : ByteArray := prog_5_method_7_code
def yX3_takeParts : MethodName := ⟨RX3, "takeParts", "()I"⟩
abbrev cX3_takePath : ByteArray := prog_5_method_8_code
def yX3_takePath : MethodName := ⟨RX3, "takePath", "(I)I"⟩
abbrev cX3_takeBridge : ByteArray := prog_5_method_9_code
def yX3_takeBridge : MethodName := ⟨RX3, "takeBridge", "(I)I"⟩
abbrev cX3_signAt : ByteArray := prog_5_method_10_code
def yX3_signAt : MethodName := ⟨RX3, "signAt", "(I)I"⟩
abbrev cX3_figureAt : ByteArray := prog_5_method_11_code
def yX3_figureAt : MethodName := ⟨RX3, "figureAt", "(I)I"⟩
abbrev cX3_thingOf : ByteArray := prog_5_method_12_code
def yX3_thingOf : MethodName := ⟨RX3, "thingOf", "(I)I"⟩
abbrev cX3_joins : ByteArray := prog_5_method_13_code
def yX3_joins : MethodName := ⟨RX3, "joins", "(III)Z"⟩
abbrev cX3_meetsAt : ByteArray := prog_5_method_14_code
def yX3_meetsAt : MethodName := ⟨RX3, "meetsAt", "(II)Z"⟩
abbrev cX3_canWork : ByteArray := prog_5_method_15_code
def yX3_canWork : MethodName := ⟨RX3, "canWork", "(IIII)Z"⟩
abbrev cX3_closedPaths : ByteArray := prog_5_method_16_code
def yX3_closedPaths : MethodName := ⟨RX3, "closedPaths", "()I"⟩
def RX4 : String := "TurningVillage$Sheet"
def TX4 : u_T := fun k => match k with
  | 0 => ("TurningVillage$Sheet", "lost", "Z", false)
  | 1 => ("TurningVillage$Sheet", "form", "I", false)
  | 2 => ("TurningVillage$Sheet", "size", "I", false)
  | _ => ("TurningVillage$Sheet", "items", "[I", true)
def tyX4 : Nat → FieldType := fun k => match k with
  | 0 => .boolean
  | 1 => .int
  | 2 => .int
  | _ => .array .int
abbrev wsX40 : List Cond := u_ws RX4 TX4 4
theorem nmX4 : ∀ a, a < 4 → ∀ b, b < 4 → a ≠ b → (TX4 a).2.1 ≠ (TX4 b).2.1 := by decide +kernel
theorem tyX4_ok : ∀ k, k < 4 → parseFieldDescriptor (TX4 k).2.2.1 = some (tyX4 k) := by decide +kernel
abbrev cX4_init : ByteArray := prog_6_method_1_code
def yX4_init : MethodName := ⟨RX4, "<init>", "()V"⟩
abbrev cX4_renew : ByteArray := prog_6_method_2_code
def yX4_renew : MethodName := ⟨RX4, "renew", "(II)V"⟩
abbrev cX4_findingAt : ByteArray := prog_6_method_3_code
def yX4_findingAt : MethodName := ⟨RX4, "findingAt", "(II)I"⟩
abbrev cX4_keep : ByteArray := prog_6_method_4_code
def yX4_keep : MethodName := ⟨RX4, "keep", "(II)V"⟩
abbrev cX4_has : ByteArray := prog_6_method_5_code
def yX4_has : MethodName := ⟨RX4, "has", "(II)Z"⟩
def RX5 : String := "TurningVillage$Tenants"
def TX5 : u_T := fun k => match k with
  | 0 => ("TurningVillage$Tenants", "rows", "[I", true)
  | 1 => ("TurningVillage$Tenants", "wishes", "[I", true)
  | 2 => ("TurningVillage$Tenants", "joys", "[I", true)
  | 3 => ("TurningVillage$Tenants", "mostJoy", "[I", true)
  | _ => ("TurningVillage$Tenants", "bestRows", "[I", true)
def tyX5 : Nat → FieldType := fun k => match k with
  | 0 => .array .int
  | 1 => .array .int
  | 2 => .array .int
  | 3 => .array .int
  | _ => .array .int
abbrev wsX50 : List Cond := u_ws RX5 TX5 5
theorem nmX5 : ∀ a, a < 5 → ∀ b, b < 5 → a ≠ b → (TX5 a).2.1 ≠ (TX5 b).2.1 := by decide +kernel
theorem tyX5_ok : ∀ k, k < 5 → parseFieldDescriptor (TX5 k).2.2.1 = some (tyX5 k) := by decide +kernel
abbrev cX5_init : ByteArray := prog_7_method_1_code
def yX5_init : MethodName := ⟨RX5, "<init>", "()V"⟩
abbrev cX5_changeWish : ByteArray := prog_7_method_2_code
def yX5_changeWish : MethodName := ⟨RX5, "changeWish", "(III)I"⟩
abbrev cX5_inOwnRow : ByteArray := prog_7_method_3_code
def yX5_inOwnRow : MethodName := ⟨RX5, "inOwnRow", "()I"⟩
abbrev cX5_joyIn : ByteArray := prog_7_method_4_code
def yX5_joyIn : MethodName := ⟨RX5, "joyIn", "(IILTurningVillage$Land;[I)I"⟩
abbrev cX5_reckonJoys : ByteArray := prog_7_method_5_code
def yX5_reckonJoys : MethodName := ⟨RX5, "reckonJoys", "(LTurningVillage$Land;[I)V"⟩
abbrev cX5_changeUntilNobodyWould : ByteArray := prog_7_method_6_code
def yX5_changeUntilNobodyWould : MethodName := ⟨RX5, "changeUntilNobodyWould", "()I"⟩
abbrev cX5_changeFirstPair : ByteArray := prog_7_method_7_code
def yX5_changeFirstPair : MethodName := ⟨RX5, "changeFirstPair", "()Z"⟩
abbrev cX5_wouldChange : ByteArray := prog_7_method_8_code
def yX5_wouldChange : MethodName := ⟨RX5, "wouldChange", "(II)Z"⟩
abbrev cX5_findBest : ByteArray := prog_7_method_9_code
def yX5_findBest : MethodName := ⟨RX5, "findBest", "()V"⟩
abbrev cX5_joyWith : ByteArray := prog_7_method_10_code
def yX5_joyWith : MethodName := ⟨RX5, "joyWith", "(III)I"⟩
abbrev cX5_leastBestRow : ByteArray := prog_7_method_11_code
def yX5_leastBestRow : MethodName := ⟨RX5, "leastBestRow", "(II)I"⟩
abbrev cX5_bestJoy : ByteArray := prog_7_method_12_code
def yX5_bestJoy : MethodName := ⟨RX5, "bestJoy", "()I"⟩
abbrev cX5_envious : ByteArray := prog_7_method_13_code
def yX5_envious : MethodName := ⟨RX5, "envious", "()I"⟩
def RX6 : String := "TurningVillage$Walker"
def TX6 : u_T := fun k => match k with
  | 0 => ("TurningVillage$Walker", "steps", "[I", true)
  | _ => ("TurningVillage$Walker", "before", "[I", true)
def tyX6 : Nat → FieldType := fun k => match k with
  | 0 => .array .int
  | _ => .array .int
abbrev wsX60 : List Cond := u_ws RX6 TX6 2
theorem nmX6 : ∀ a, a < 2 → ∀ b, b < 2 → a ≠ b → (TX6 a).2.1 ≠ (TX6 b).2.1 := by decide +kernel
theorem tyX6_ok : ∀ k, k < 2 → parseFieldDescriptor (TX6 k).2.2.1 = some (tyX6 k) := by decide +kernel
abbrev cX6_init : ByteArray := prog_8_method_1_code
def yX6_init : MethodName := ⟨RX6, "<init>", "()V"⟩
abbrev cX6_begin : ByteArray := prog_8_method_2_code
def yX6_begin : MethodName := ⟨RX6, "begin", "(I)V"⟩
abbrev cX6_oneDay : ByteArray := prog_8_method_3_code
def yX6_oneDay : MethodName := ⟨RX6, "oneDay", "(LTurningVillage$Land;I)V"⟩
abbrev cX6_join : ByteArray := prog_8_method_4_code
def yX6_join : MethodName := ⟨RX6, "join", "(II)V"⟩
abbrev cX6_isOn : ByteArray := prog_8_method_5_code
def yX6_isOn : MethodName := ⟨RX6, "isOn", "(I)Z"⟩
abbrev cX6_stepsTo : ByteArray := prog_8_method_6_code
def yX6_stepsTo : MethodName := ⟨RX6, "stepsTo", "(I)I"⟩
def RX7 : String := "TurningVillage"
def TX7 : u_T := fun k => match k with
  | 0 => ("TurningVillage", "land", "LTurningVillage$Land;", true)
  | 1 => ("TurningVillage", "gales", "LTurningVillage$Gales;", true)
  | 2 => ("TurningVillage", "chance", "LTurningVillage$Chance;", true)
  | 3 => ("TurningVillage", "walker", "LTurningVillage$Walker;", true)
  | 4 => ("TurningVillage", "companion", "LTurningVillage$Walker;", true)
  | 5 => ("TurningVillage", "tenants", "LTurningVillage$Tenants;", true)
  | 6 => ("TurningVillage", "harvest", "LTurningVillage$Harvest;", true)
  | 7 => ("TurningVillage", "sheets", "[LTurningVillage$Sheet;", true)
  | _ => ("TurningVillage", "finding", "I", false)
def tyX7 : Nat → FieldType := fun k => match k with
  | 0 => .object "TurningVillage$Land"
  | 1 => .object "TurningVillage$Gales"
  | 2 => .object "TurningVillage$Chance"
  | 3 => .object "TurningVillage$Walker"
  | 4 => .object "TurningVillage$Walker"
  | 5 => .object "TurningVillage$Tenants"
  | 6 => .object "TurningVillage$Harvest"
  | 7 => .array (.object "TurningVillage$Sheet")
  | _ => .int
abbrev wsX70 : List Cond := u_ws RX7 TX7 9
theorem nmX7 : ∀ a, a < 9 → ∀ b, b < 9 → a ≠ b → (TX7 a).2.1 ≠ (TX7 b).2.1 := by decide +kernel
theorem tyX7_ok : ∀ k, k < 9 → parseFieldDescriptor (TX7 k).2.2.1 = some (tyX7 k) := by decide +kernel
abbrev cX7_init : ByteArray := prog_1_method_1_code
def yX7_init : MethodName := ⟨RX7, "<init>", "()V"⟩
abbrev cX7_type : ByteArray := prog_1_method_2_code
def yX7_type : MethodName := ⟨RX7, "type", "(I)I"⟩
abbrev cX7_wipe : ByteArray := prog_1_method_3_code
def yX7_wipe : MethodName := ⟨RX7, "wipe", "()I"⟩
abbrev cX7_fault : ByteArray := prog_1_method_4_code
def yX7_fault : MethodName := ⟨RX7, "fault", "()I"⟩
abbrev cX7_place : ByteArray := prog_1_method_5_code
def yX7_place : MethodName := ⟨RX7, "place", "(II)I"⟩
abbrev cX7_bridge : ByteArray := prog_1_method_6_code
def yX7_bridge : MethodName := ⟨RX7, "bridge", "(III)I"⟩
abbrev cX7_gale : ByteArray := prog_1_method_7_code
def yX7_gale : MethodName := ⟨RX7, "gale", "(III)I"⟩
abbrev cX7_read : ByteArray := prog_1_method_8_code
def yX7_read : MethodName := ⟨RX7, "read", "(II)I"⟩
abbrev cX7_takeBack : ByteArray := prog_1_method_9_code
def yX7_takeBack : MethodName := ⟨RX7, "takeBack", "(II)I"⟩
abbrev cX7_set : ByteArray := prog_1_method_10_code
def yX7_set : MethodName := ⟨RX7, "set", "(II)I"⟩
abbrev cX7_sun : ByteArray := prog_1_method_11_code
def yX7_sun : MethodName := ⟨RX7, "sun", "(II)I"⟩
abbrev cX7_turn : ByteArray := prog_1_method_12_code
def yX7_turn : MethodName := ⟨RX7, "turn", "(I)I"⟩
abbrev cX7_door : ByteArray := prog_1_method_13_code
def yX7_door : MethodName := ⟨RX7, "door", "(III)I"⟩
abbrev cX7_share : ByteArray := prog_1_method_14_code
def yX7_share : MethodName := ⟨RX7, "share", "(IIIII)J"⟩
abbrev cX7_shine : ByteArray := prog_1_method_15_code
def yX7_shine : MethodName := ⟨RX7, "shine", "(III)I"⟩
abbrev cX7_ahead : ByteArray := prog_1_method_16_code
def yX7_ahead : MethodName := ⟨RX7, "ahead", "(IIII)I"⟩
abbrev cX7_next : ByteArray := prog_1_method_17_code
def yX7_next : MethodName := ⟨RX7, "next", "(IIII)I"⟩
abbrev cX7_likely : ByteArray := prog_1_method_18_code
def yX7_likely : MethodName := ⟨RX7, "likely", "(IIIIIII)J"⟩
abbrev cX7_soon : ByteArray := prog_1_method_19_code
def yX7_soon : MethodName := ⟨RX7, "soon", "(III)I"⟩
abbrev cX7_carried : ByteArray := prog_1_method_20_code
def yX7_carried : MethodName := ⟨RX7, "carried", "(III)I"⟩
abbrev cX7_meet : ByteArray := prog_1_method_21_code
def yX7_meet : MethodName := ⟨RX7, "meet", "(IIII)I"⟩
abbrev cX7_wish : ByteArray := prog_1_method_22_code
def yX7_wish : MethodName := ⟨RX7, "wish", "(III)I"⟩
abbrev cX7_lives : ByteArray := prog_1_method_23_code
def yX7_lives : MethodName := ⟨RX7, "lives", "(I)I"⟩
abbrev cX7_joy : ByteArray := prog_1_method_24_code
def yX7_joy : MethodName := ⟨RX7, "joy", "(IIII)I"⟩
abbrev cX7_swap : ByteArray := prog_1_method_25_code
def yX7_swap : MethodName := ⟨RX7, "swap", "(II)I"⟩
abbrev cX7_best : ByteArray := prog_1_method_26_code
def yX7_best : MethodName := ⟨RX7, "best", "(III)I"⟩
abbrev cX7_envy : ByteArray := prog_1_method_27_code
def yX7_envy : MethodName := ⟨RX7, "envy", "(II)I"⟩
abbrev cX7_reaped : ByteArray := prog_1_method_28_code
def yX7_reaped : MethodName := ⟨RX7, "reaped", "(II)I"⟩
abbrev cX7_history : ByteArray := prog_1_method_29_code
def yX7_history : MethodName := ⟨RX7, "history", "(III)I"⟩
abbrev cX7_waits : ByteArray := prog_1_method_30_code
def yX7_waits : MethodName := ⟨RX7, "waits", "(II)I"⟩
abbrev cX7_dig : ByteArray := prog_1_method_31_code
def yX7_dig : MethodName := ⟨RX7, "dig", "(II)I"⟩
abbrev cX7_sheet : ByteArray := prog_1_method_32_code
def yX7_sheet : MethodName := ⟨RX7, "sheet", "(III)I"⟩
abbrev cX7_lose : ByteArray := prog_1_method_33_code
def yX7_lose : MethodName := ⟨RX7, "lose", "(I)I"⟩
abbrev cX7_put : ByteArray := prog_1_method_34_code
def yX7_put : MethodName := ⟨RX7, "put", "(IIII)I"⟩
abbrev cX7_get : ByteArray := prog_1_method_35_code
def yX7_get : MethodName := ⟨RX7, "get", "(III)I"⟩
abbrev cX7_copy : ByteArray := prog_1_method_36_code
def yX7_copy : MethodName := ⟨RX7, "copy", "(IIIII)I"⟩
abbrev cX7_write : ByteArray := prog_1_method_37_code
def yX7_write : MethodName := ⟨RX7, "write", "(II)I"⟩
abbrev cX7_count : ByteArray := prog_1_method_38_code
def yX7_count : MethodName := ⟨RX7, "count", "(I)I"⟩
abbrev cX7_digest : ByteArray := prog_1_method_39_code
def yX7_digest : MethodName := ⟨RX7, "digest", "()J"⟩
abbrev cX7_digestPlaces : ByteArray := prog_1_method_40_code
def yX7_digestPlaces : MethodName := ⟨RX7, "digestPlaces", "(J)J"⟩
abbrev cX7_digestRows : ByteArray := prog_1_method_41_code
def yX7_digestRows : MethodName := ⟨RX7, "digestRows", "(J)J"⟩
abbrev cX7_digestTenants : ByteArray := prog_1_method_42_code
def yX7_digestTenants : MethodName := ⟨RX7, "digestTenants", "(J)J"⟩
abbrev cX7_within : ByteArray := prog_1_method_43_code
def yX7_within : MethodName := ⟨RX7, "within", "(II)Z"⟩
abbrev cX7_isDay : ByteArray := prog_1_method_44_code
def yX7_isDay : MethodName := ⟨RX7, "isDay", "(I)Z"⟩
abbrev cX7_isSpan : ByteArray := prog_1_method_45_code
def yX7_isSpan : MethodName := ⟨RX7, "isSpan", "(II)Z"⟩
abbrev cX7_isThing : ByteArray := prog_1_method_46_code
def yX7_isThing : MethodName := ⟨RX7, "isThing", "(I)Z"⟩
abbrev cX7_isSheet : ByteArray := prog_1_method_47_code
def yX7_isSheet : MethodName := ⟨RX7, "isSheet", "(I)Z"⟩
abbrev cX7_isForm : ByteArray := prog_1_method_48_code
def yX7_isForm : MethodName := ⟨RX7, "isForm", "(I)Z"⟩
abbrev cX7_found : ByteArray := prog_1_method_49_code
def yX7_found : MethodName := ⟨RX7, "found", "(I)I"⟩
abbrev cX7_lowestTerms : ByteArray := prog_1_method_50_code
def yX7_lowestTerms : MethodName := ⟨RX7, "lowestTerms", "(JJI)J"⟩
abbrev cX7_daysWith : ByteArray := prog_1_method_51_code
def yX7_daysWith : MethodName := ⟨RX7, "daysWith", "(II)I"⟩
abbrev cX7_walkTo : ByteArray := prog_1_method_52_code
def yX7_walkTo : MethodName := ⟨RX7, "walkTo", "(III)I"⟩
abbrev cX7_reckonJoys : ByteArray := prog_1_method_53_code
def yX7_reckonJoys : MethodName := ⟨RX7, "reckonJoys", "(II)V"⟩
abbrev cX7_longestWait : ByteArray := prog_1_method_54_code
def yX7_longestWait : MethodName := ⟨RX7, "longestWait", "(II)I"⟩
def RX8 : String := "TurningVillageModel"
def TX8 : u_T := fun k => match k with
  | 0 => ("TurningVillageModel", "typed", "I", false)
  | 1 => ("TurningVillageModel", "text", "[I", true)
  | 2 => ("TurningVillageModel", "things", "[I", true)
  | 3 => ("TurningVillageModel", "closed", "[I", true)
  | 4 => ("TurningVillageModel", "bridges", "I", false)
  | 5 => ("TurningVillageModel", "bridge", "[I", true)
  | 6 => ("TurningVillageModel", "suns", "[I", true)
  | 7 => ("TurningVillageModel", "gales", "I", false)
  | 8 => ("TurningVillageModel", "galeDay", "[I", true)
  | 9 => ("TurningVillageModel", "galeFrom", "[I", true)
  | 10 => ("TurningVillageModel", "galeTime", "[I", true)
  | 11 => ("TurningVillageModel", "galeBack", "[I", true)
  | 12 => ("TurningVillageModel", "lastTime", "I", false)
  | 13 => ("TurningVillageModel", "setting", "[I", true)
  | 14 => ("TurningVillageModel", "turns", "[I", true)
  | 15 => ("TurningVillageModel", "chance", "[J", true)
  | 16 => ("TurningVillageModel", "steps", "[I", true)
  | 17 => ("TurningVillageModel", "then", "[I", true)
  | 18 => ("TurningVillageModel", "wishes", "[I", true)
  | 19 => ("TurningVillageModel", "lives", "[I", true)
  | 20 => ("TurningVillageModel", "joys", "[I", true)
  | 21 => ("TurningVillageModel", "mostBehind", "[I", true)
  | 22 => ("TurningVillageModel", "reaped", "[I", true)
  | 23 => ("TurningVillageModel", "fields", "[I", true)
  | 24 => ("TurningVillageModel", "isThere", "[Z", true)
  | 25 => ("TurningVillageModel", "forms", "[I", true)
  | 26 => ("TurningVillageModel", "sizes", "[I", true)
  | 27 => ("TurningVillageModel", "items", "[I", true)
  | 28 => ("TurningVillageModel", "moved", "[I", true)
  | _ => ("TurningVillageModel", "finding", "I", false)
def tyX8 : Nat → FieldType := fun k => match k with
  | 0 => .int
  | 1 => .array .int
  | 2 => .array .int
  | 3 => .array .int
  | 4 => .int
  | 5 => .array .int
  | 6 => .array .int
  | 7 => .int
  | 8 => .array .int
  | 9 => .array .int
  | 10 => .array .int
  | 11 => .array .int
  | 12 => .int
  | 13 => .array .int
  | 14 => .array .int
  | 15 => .array .long
  | 16 => .array .int
  | 17 => .array .int
  | 18 => .array .int
  | 19 => .array .int
  | 20 => .array .int
  | 21 => .array .int
  | 22 => .array .int
  | 23 => .array .int
  | 24 => .array .boolean
  | 25 => .array .int
  | 26 => .array .int
  | 27 => .array .int
  | 28 => .array .int
  | _ => .int
abbrev wsX80 : List Cond := u_ws RX8 TX8 30
theorem nmX8 : ∀ a, a < 30 → ∀ b, b < 30 → a ≠ b → (TX8 a).2.1 ≠ (TX8 b).2.1 := by decide +kernel
theorem tyX8_ok : ∀ k, k < 30 → parseFieldDescriptor (TX8 k).2.2.1 = some (tyX8 k) := by decide +kernel
abbrev cX8_init : ByteArray := prog_10_method_1_code
def yX8_init : MethodName := ⟨RX8, "<init>", "()V"⟩
abbrev cX8_in : ByteArray := prog_10_method_3_code
def yX8_in : MethodName := ⟨RX8, "in", "(III)Z"⟩
abbrev cX8_isIn : ByteArray := prog_10_method_4_code
def yX8_isIn : MethodName := ⟨RX8, "isIn", "(II)Z"⟩
abbrev cX8_no : ByteArray := prog_10_method_5_code
def yX8_no : MethodName := ⟨RX8, "no", "(I)J"⟩
abbrev cX8_lowest : ByteArray := prog_10_method_6_code
def yX8_lowest : MethodName := ⟨RX8, "lowest", "(JJI)J"⟩
abbrev cX8_type : ByteArray := prog_10_method_7_code
def yX8_type : MethodName := ⟨RX8, "type", "(I)I"⟩
abbrev cX8_wipe : ByteArray := prog_10_method_8_code
def yX8_wipe : MethodName := ⟨RX8, "wipe", "()I"⟩
abbrev cX8_byteAt : ByteArray := prog_10_method_9_code
def yX8_byteAt : MethodName := ⟨RX8, "byteAt", "(I)I"⟩
abbrev cX8_thingOf : ByteArray := prog_10_method_10_code
def yX8_thingOf : MethodName := ⟨RX8, "thingOf", "(I)I"⟩
abbrev cX8_mayBe : ByteArray := prog_10_method_11_code
def yX8_mayBe : MethodName := ⟨RX8, "mayBe", "(II)Z"⟩
abbrev cX8_reads : ByteArray := prog_10_method_12_code
def yX8_reads : MethodName := ⟨RX8, "reads", "()I"⟩
abbrev cX8_faultNow : ByteArray := prog_10_method_13_code
def yX8_faultNow : MethodName := ⟨RX8, "faultNow", "()I"⟩
abbrev cX8_fault : ByteArray := prog_10_method_14_code
def yX8_fault : MethodName := ⟨RX8, "fault", "()I"⟩
abbrev cX8_placeOf : ByteArray := prog_10_method_15_code
def yX8_placeOf : MethodName := ⟨RX8, "placeOf", "(II)I"⟩
abbrev cX8_isEighth : ByteArray := prog_10_method_16_code
def yX8_isEighth : MethodName := ⟨RX8, "isEighth", "(I)Z"⟩
abbrev cX8_place : ByteArray := prog_10_method_17_code
def yX8_place : MethodName := ⟨RX8, "place", "(II)I"⟩
abbrev cX8_sun : ByteArray := prog_10_method_18_code
def yX8_sun : MethodName := ⟨RX8, "sun", "(II)I"⟩
abbrev cX8_galeMore : ByteArray := prog_10_method_19_code
def yX8_galeMore : MethodName := ⟨RX8, "galeMore", "(III)I"⟩
abbrev cX8_gale : ByteArray := prog_10_method_20_code
def yX8_gale : MethodName := ⟨RX8, "gale", "(III)I"⟩
abbrev cX8_read : ByteArray := prog_10_method_21_code
def yX8_read : MethodName := ⟨RX8, "read", "(II)I"⟩
abbrev cX8_takeBack : ByteArray := prog_10_method_22_code
def yX8_takeBack : MethodName := ⟨RX8, "takeBack", "(II)I"⟩
abbrev cX8_set : ByteArray := prog_10_method_23_code
def yX8_set : MethodName := ⟨RX8, "set", "(II)I"⟩
abbrev cX8_doesCount : ByteArray := prog_10_method_24_code
def yX8_doesCount : MethodName := ⟨RX8, "doesCount", "(I)Z"⟩
abbrev cX8_lays : ByteArray := prog_10_method_25_code
def yX8_lays : MethodName := ⟨RX8, "lays", "()V"⟩
abbrev cX8_isDay : ByteArray := prog_10_method_26_code
def yX8_isDay : MethodName := ⟨RX8, "isDay", "(I)Z"⟩
abbrev cX8_turnOf : ByteArray := prog_10_method_27_code
def yX8_turnOf : MethodName := ⟨RX8, "turnOf", "(I)I"⟩
abbrev cX8_turn : ByteArray := prog_10_method_28_code
def yX8_turn : MethodName := ⟨RX8, "turn", "(I)I"⟩
abbrev cX8_isOver : ByteArray := prog_10_method_29_code
def yX8_isOver : MethodName := ⟨RX8, "isOver", "(III)Z"⟩
abbrev cX8_bridge : ByteArray := prog_10_method_30_code
def yX8_bridge : MethodName := ⟨RX8, "bridge", "(III)I"⟩
abbrev cX8_doorAt : ByteArray := prog_10_method_31_code
def yX8_doorAt : MethodName := ⟨RX8, "doorAt", "(II)I"⟩
abbrev cX8_doorOf : ByteArray := prog_10_method_32_code
def yX8_doorOf : MethodName := ⟨RX8, "doorOf", "(III)I"⟩
abbrev cX8_door : ByteArray := prog_10_method_33_code
def yX8_door : MethodName := ⟨RX8, "door", "(III)I"⟩
abbrev cX8_isThing : ByteArray := prog_10_method_34_code
def yX8_isThing : MethodName := ⟨RX8, "isThing", "(I)Z"⟩
abbrev cX8_isSpan : ByteArray := prog_10_method_35_code
def yX8_isSpan : MethodName := ⟨RX8, "isSpan", "(II)Z"⟩
abbrev cX8_daysOf : ByteArray := prog_10_method_36_code
def yX8_daysOf : MethodName := ⟨RX8, "daysOf", "(IIII)I"⟩
abbrev cX8_share : ByteArray := prog_10_method_37_code
def yX8_share : MethodName := ⟨RX8, "share", "(IIIII)J"⟩
abbrev cX8_shineOf : ByteArray := prog_10_method_38_code
def yX8_shineOf : MethodName := ⟨RX8, "shineOf", "(III)I"⟩
abbrev cX8_shine : ByteArray := prog_10_method_39_code
def yX8_shine : MethodName := ⟨RX8, "shine", "(III)I"⟩
abbrev cX8_aheadOf : ByteArray := prog_10_method_40_code
def yX8_aheadOf : MethodName := ⟨RX8, "aheadOf", "(IIII)I"⟩
abbrev cX8_ahead : ByteArray := prog_10_method_41_code
def yX8_ahead : MethodName := ⟨RX8, "ahead", "(IIII)I"⟩
abbrev cX8_works : ByteArray := prog_10_method_42_code
def yX8_works : MethodName := ⟨RX8, "works", "(IIII)Z"⟩
abbrev cX8_next : ByteArray := prog_10_method_43_code
def yX8_next : MethodName := ⟨RX8, "next", "(IIII)I"⟩
abbrev cX8_likely : ByteArray := prog_10_method_44_code
def yX8_likely : MethodName := ⟨RX8, "likely", "(IIIIIII)J"⟩
abbrev cX8_begins : ByteArray := prog_10_method_45_code
def yX8_begins : MethodName := ⟨RX8, "begins", "(II)V"⟩
abbrev cX8_isStep : ByteArray := prog_10_method_46_code
def yX8_isStep : MethodName := ⟨RX8, "isStep", "(III)Z"⟩
abbrev cX8_goes : ByteArray := prog_10_method_47_code
def yX8_goes : MethodName := ⟨RX8, "goes", "(II)V"⟩
abbrev cX8_soonOf : ByteArray := prog_10_method_48_code
def yX8_soonOf : MethodName := ⟨RX8, "soonOf", "(IIII)I"⟩
abbrev cX8_soon : ByteArray := prog_10_method_49_code
def yX8_soon : MethodName := ⟨RX8, "soon", "(III)I"⟩
abbrev cX8_carried : ByteArray := prog_10_method_50_code
def yX8_carried : MethodName := ⟨RX8, "carried", "(III)I"⟩
abbrev cX8_meetOf : ByteArray := prog_10_method_51_code
def yX8_meetOf : MethodName := ⟨RX8, "meetOf", "(IIII)I"⟩
abbrev cX8_meet : ByteArray := prog_10_method_52_code
def yX8_meet : MethodName := ⟨RX8, "meet", "(IIII)I"⟩
abbrev cX8_wish : ByteArray := prog_10_method_53_code
def yX8_wish : MethodName := ⟨RX8, "wish", "(III)I"⟩
abbrev cX8_lives : ByteArray := prog_10_method_54_code
def yX8_lives : MethodName := ⟨RX8, "lives", "(I)I"⟩
abbrev cX8_laysJoy : ByteArray := prog_10_method_55_code
def yX8_laysJoy : MethodName := ⟨RX8, "laysJoy", "(II)V"⟩
abbrev cX8_joy : ByteArray := prog_10_method_56_code
def yX8_joy : MethodName := ⟨RX8, "joy", "(IIII)I"⟩
abbrev cX8_swap : ByteArray := prog_10_method_57_code
def yX8_swap : MethodName := ⟨RX8, "swap", "(II)I"⟩
abbrev cX8_ones : ByteArray := prog_10_method_58_code
def yX8_ones : MethodName := ⟨RX8, "ones", "(I)I"⟩
abbrev cX8_bestOf : ByteArray := prog_10_method_59_code
def yX8_bestOf : MethodName := ⟨RX8, "bestOf", "(III)I"⟩
abbrev cX8_best : ByteArray := prog_10_method_60_code
def yX8_best : MethodName := ⟨RX8, "best", "(III)I"⟩
abbrev cX8_envyOf : ByteArray := prog_10_method_61_code
def yX8_envyOf : MethodName := ⟨RX8, "envyOf", "(II)I"⟩
abbrev cX8_envy : ByteArray := prog_10_method_62_code
def yX8_envy : MethodName := ⟨RX8, "envy", "(II)I"⟩
abbrev cX8_reaped : ByteArray := prog_10_method_63_code
def yX8_reaped : MethodName := ⟨RX8, "reaped", "(II)I"⟩
abbrev cX8_historyOf : ByteArray := prog_10_method_64_code
def yX8_historyOf : MethodName := ⟨RX8, "historyOf", "(III)I"⟩
abbrev cX8_history : ByteArray := prog_10_method_65_code
def yX8_history : MethodName := ⟨RX8, "history", "(III)I"⟩
abbrev cX8_waitsOf : ByteArray := prog_10_method_66_code
def yX8_waitsOf : MethodName := ⟨RX8, "waitsOf", "(II)I"⟩
abbrev cX8_waits : ByteArray := prog_10_method_67_code
def yX8_waits : MethodName := ⟨RX8, "waits", "(II)I"⟩
abbrev cX8_digOf : ByteArray := prog_10_method_68_code
def yX8_digOf : MethodName := ⟨RX8, "digOf", "(II)I"⟩
abbrev cX8_dig : ByteArray := prog_10_method_69_code
def yX8_dig : MethodName := ⟨RX8, "dig", "(II)I"⟩
abbrev cX8_meets : ByteArray := prog_10_method_70_code
def yX8_meets : MethodName := ⟨RX8, "meets", "(I)I"⟩
abbrev cX8_isSheet : ByteArray := prog_10_method_71_code
def yX8_isSheet : MethodName := ⟨RX8, "isSheet", "(I)Z"⟩
abbrev cX8_sheet : ByteArray := prog_10_method_72_code
def yX8_sheet : MethodName := ⟨RX8, "sheet", "(III)I"⟩
abbrev cX8_lose : ByteArray := prog_10_method_73_code
def yX8_lose : MethodName := ⟨RX8, "lose", "(I)I"⟩
abbrev cX8_lacks : ByteArray := prog_10_method_74_code
def yX8_lacks : MethodName := ⟨RX8, "lacks", "(III)I"⟩
abbrev cX8_keep : ByteArray := prog_10_method_75_code
def yX8_keep : MethodName := ⟨RX8, "keep", "(III)V"⟩
abbrev cX8_put : ByteArray := prog_10_method_76_code
def yX8_put : MethodName := ⟨RX8, "put", "(IIII)I"⟩
abbrev cX8_get : ByteArray := prog_10_method_77_code
def yX8_get : MethodName := ⟨RX8, "get", "(III)I"⟩
abbrev cX8_copy : ByteArray := prog_10_method_78_code
def yX8_copy : MethodName := ⟨RX8, "copy", "(IIIII)I"⟩
abbrev cX8_write : ByteArray := prog_10_method_79_code
def yX8_write : MethodName := ⟨RX8, "write", "(II)I"⟩
abbrev cX8_sumOf : ByteArray := prog_10_method_80_code
def yX8_sumOf : MethodName := ⟨RX8, "sumOf", "(I)I"⟩
abbrev cX8_count : ByteArray := prog_10_method_81_code
def yX8_count : MethodName := ⟨RX8, "count", "(I)I"⟩
abbrev cX8_digest : ByteArray := prog_10_method_82_code
def yX8_digest : MethodName := ⟨RX8, "digest", "()J"⟩
def RJ6 : String := "java/lang/Integer"
abbrev cJ6_numberOfTrailingZeros_0f7a4 : ByteArray := prog_11_method_48_code
def yJ6_numberOfTrailingZeros_0f7a4 : MethodName := ⟨RJ6, "numberOfTrailingZeros", "(I)I"⟩
abbrev cJ6_bitCount_0f7a4 : ByteArray := prog_11_method_49_code
def yJ6_bitCount_0f7a4 : MethodName := ⟨RJ6, "bitCount", "(I)I"⟩
def RJ9 : String := "java/lang/Math"
abbrev cJ9_max_7cf53 : ByteArray := prog_12_method_65_code
def yJ9_max_7cf53 : MethodName := ⟨RJ9, "max", "(II)I"⟩
abbrev cJ9_min_7cf53 : ByteArray := prog_12_method_69_code
def yJ9_min_7cf53 : MethodName := ⟨RJ9, "min", "(II)I"⟩
def RJ10 : String := "java/lang/System"
def RJ7 : String := "java/util/Arrays"
abbrev cJ7_fill_d0a16 : ByteArray := prog_14_method_101_code
def yJ7_fill_d0a16 : MethodName := ⟨RJ7, "fill", "([JJ)V"⟩
abbrev cJ7_fill_53178 : ByteArray := prog_14_method_103_code
def yJ7_fill_53178 : MethodName := ⟨RJ7, "fill", "([II)V"⟩
def RL : String := "TurningVillageLaw"
abbrev cL_law : ByteArray := code
def yL_law : MethodName := ⟨RL, "law", "([I)Z"⟩
end
section
/-! THE MINI MACHINE: a fixed world of cells whose shape never changes; a method's run is judged by MW, its contract by CallOK. -/
abbrev Mth : Type := MethodName × ByteArray × Nat × Option FieldType × String
def mY (M : Mth) : MethodName := M.1
def mC (M : Mth) : ByteArray := M.2.1
def mN (M : Mth) : Nat := M.2.2.1
def mR (M : Mth) : Option FieldType := M.2.2.2.1
def mO (M : Mth) : String := M.2.2.2.2
abbrev Rho : Type := (Nat → Nat → Int32) × (Nat → Nat → Int64)
abbrev Wd : Type := va_G × (Nat → Nat) × (Nat → ClassId)
def rv (G : Wd) : Value → Value
  | .ref k => .ref (G.2.1 k)
  | v => v
theorem rv_cat (G : Wd) (v : Value) : (rv G v).category = v.category := by cases v <;> rfl
def BT : List Cond := lw_tbl.filter goodWord
theorem bt_of {w : Cond} (h : w ∈ lw_tbl) (g : goodWord w = true) : w ∈ BT := List.mem_filter.mpr ⟨h, g⟩
theorem bt_good {w : Cond} (h : w ∈ BT) : goodWord w = true := (List.mem_filter.mp h).2
theorem bt_in {w : Cond} (h : w ∈ BT) : w ∈ lw_tbl := (List.mem_filter.mp h).1
theorem in_t1 {w : Cond} (h : w ∈ tables_1_1) : w ∈ lw_tbl := List.mem_append_right _ (List.mem_append_left _ h)
theorem in_t2 {w : Cond} (h : w ∈ tables_1_2) : w ∈ lw_tbl := List.mem_append_right _ (List.mem_append_right _ (List.mem_append_left _ h))
theorem in_t3 {w : Cond} (h : w ∈ tables_1_3) : w ∈ lw_tbl := List.mem_append_right _ (List.mem_append_right _ (List.mem_append_right _ (List.mem_append_left _ h)))
theorem in_t4 {w : Cond} (h : w ∈ tables_1_4) : w ∈ lw_tbl := List.mem_append_right _ (List.mem_append_right _ (List.mem_append_right _ (List.mem_append_right _ (List.mem_append_left _ h))))
theorem in_t5 {w : Cond} (h : w ∈ tables_1_5) : w ∈ lw_tbl := List.mem_append_right _ (List.mem_append_right _ (List.mem_append_right _ (List.mem_append_right _ (List.mem_append_right _ h))))
theorem in_s1 {y : MethodName} {n : Nat} (h : (y, n) ∈ lw_privs_1) : Cond.selects y.cls y y ∈ lw_tbl := List.mem_append_left _ (List.mem_map.mpr ⟨(y, n), List.mem_append_left _ h, rfl⟩)
theorem in_s2 {y : MethodName} {n : Nat} (h : (y, n) ∈ lw_privs_2) : Cond.selects y.cls y y ∈ lw_tbl := List.mem_append_left _ (List.mem_map.mpr ⟨(y, n), List.mem_append_right _ (List.mem_append_left _ h), rfl⟩)
theorem in_s3 {y : MethodName} {n : Nat} (h : (y, n) ∈ lw_privs_3) : Cond.selects y.cls y y ∈ lw_tbl := List.mem_append_left _ (List.mem_map.mpr ⟨(y, n), List.mem_append_right _ (List.mem_append_right _ (List.mem_append_left _ h)), rfl⟩)
theorem in_s4 {y : MethodName} {n : Nat} (h : (y, n) ∈ lw_privs_4) : Cond.selects y.cls y y ∈ lw_tbl := List.mem_append_left _ (List.mem_map.mpr ⟨(y, n), List.mem_append_right _ (List.mem_append_right _ (List.mem_append_right _ h)), rfl⟩)
def wsM (M : Mth) : List Cond := Cond.code (mY M) (mC M) (mN M) (mR M) :: BT
theorem goodBT {M : Mth} (h : Cond.code (mY M) (mC M) (mN M) (mR M) ∈ BT) : GoodIn BT (wsM M) := fun w hw => by
  have hm : w ∈ BT := by
    rcases List.mem_cons.mp hw with rfl | h2
    · exact h
    · exact h2
  exact ⟨hm, good_of_word (bt_good hm)⟩
/-! cells -/
def CL : List vw_C := [(RX0, TX0, 2), (RX1, TX1, 12), (RX2, TX2, 9), (RX3, TX3, 11), (RX4, TX4, 4), (RX5, TX5, 5), (RX6, TX6, 2), (RX7, TX7, 9), (RX8, TX8, 30)]
def NC : Nat := 73
def shps : List ((Nat × Nat) ⊕ (Nat × List Nat)) := [.inr (7, [3, 12, 20, 22, 25, 28, 34, 40, 0]), .inr (3, [4, 0, 0, 5, 6, 7, 0, 8, 9, 10, 11]), .inl (0, 60), .inl (0, 8), .inl (0, 8), .inl (0, 8), .inl (0, 4), .inl (0, 4), .inl (0, 4), .inl (0, 4), .inr (1, [0, 13, 14, 15, 16, 0, 0, 0, 0, 17, 18, 19]), .inl (0, 60), .inl (0, 60), .inl (0, 60), .inl (0, 60), .inl (0, 100), .inl (0, 8), .inl (0, 8), .inr (0, [21, 1]), .inl (1, 8), .inr (6, [23, 24]), .inl (0, 16), .inl (0, 16), .inr (6, [26, 27]), .inl (0, 16), .inl (0, 16), .inr (5, [29, 30, 31, 32, 33]), .inl (0, 8), .inl (0, 40), .inl (0, 64), .inl (0, 256), .inl (0, 8), .inr (2, [35, 36, 37, 38, 39, 0, 0, 0, 0]), .inl (0, 8), .inl (1, 8), .inl (0, 13), .inl (0, 13), .inl (1, 13), .inl (42, 4), .inr (4, [0, 0, 0, 45]), .inr (4, [0, 0, 0, 46]), .inr (4, [0, 0, 0, 47]), .inr (4, [0, 0, 0, 48]), .inl (0, 60), .inl (0, 60), .inl (0, 60), .inl (0, 60), .inr (8, [0, 50, 51, 52, 0, 53, 54, 0, 55, 56, 57, 58, 0, 59, 60, 61, 62, 63, 64, 65, 66, 67, 68, 69, 70, 71, 72, 73, 74, 0]), .inl (0, 60), .inl (0, 8), .inl (0, 8), .inl (0, 16), .inl (0, 8), .inl (0, 60), .inl (0, 60), .inl (0, 60), .inl (0, 60), .inl (0, 3), .inl (0, 100), .inl (1, 16), .inl (0, 32), .inl (0, 16), .inl (0, 40), .inl (0, 8), .inl (0, 64), .inl (0, 256), .inl (0, 8), .inl (0, 8), .inl (2, 4), .inl (0, 4), .inl (0, 4), .inl (0, 240), .inl (0, 60)]
def shp (k : Nat) : (Nat × Nat) ⊕ (Nat × List Nat) := shps.getD k (.inl (0, 0))
def fv (G : Wd) (ρ : Rho) (k j f : Nat) : Value := match f with
  | 0 => .int (ρ.1 k j)
  | 1 => .long (ρ.2 k j)
  | n + 2 => .ref (G.2.1 n)
def fvs (G : Wd) (ρ : Rho) (k : Nat) : Nat → List Nat → List Value
  | _, [] => []
  | j, f :: fs => fv G ρ k j f :: fvs G ρ k (j + 1) fs
def arrOf (G : Wd) (ρ : Rho) (k t n : Nat) : ClassId × vp_A := match t with
  | 0 => (G.2.2 0, n, .inl (ρ.1 k))
  | 1 => (G.2.2 1, n, .inr (.inl (ρ.2 k)))
  | 2 => (G.2.2 2, n, .inl (ρ.1 k))
  | b + 3 => (G.2.2 3, n, .inr (.inr (.inr (.inr (fun i => some (G.2.1 (b + i)))))))
def ce (G : Wd) (ρ : Rho) (k : Nat) : va_E := match shp k with
  | .inr (ci, fs) => .inr (ci, fvs G ρ k 0 fs)
  | .inl (t, n) => .inl (arrOf G ρ k t n)
def wsO (G : Wd) (ρ : Rho) : va_W := (List.range NC).map fun k => (G.2.1 k, ce G ρ k)
theorem wsO_at {G : Wd} {ρ : Rho} {k : Nat} (h : k < NC) : (wsO G ρ)[k]? = some (G.2.1 k, ce G ρ k) := by simp [wsO, h]
theorem wsO_set {G : Wd} {ρ ρ' : Rho} {k : Nat} {e : va_E} (h : k < NC) (he : ce G ρ' k = e) (ho : ∀ j, j ≠ k → ce G ρ' j = ce G ρ j) : (wsO G ρ).set k (G.2.1 k, e) = wsO G ρ' := by
  apply List.ext_getElem?
  intro i
  by_cases hi : i < NC
  · rw [wsO_at hi]
    by_cases hik : i = k
    · subst hik
      rw [List.getElem?_set_self (by simpa [wsO] using hi), he]
    · rw [List.getElem?_set_ne (Ne.symm hik), wsO_at hi, ho i hik]
  · rw [List.getElem?_eq_none (by simpa [wsO] using hi), List.getElem?_eq_none (by simpa [wsO] using hi)]
def AG (G : Wd) : Nat → Prop := fun q => ∃ k, k < NC ∧ q = G.2.1 k
def Gd (G : Wd) : Prop := ∀ i j, i < NC → j < NC → G.2.1 i = G.2.1 j → i = j
theorem wsO_D {G : Wd} (hG : Gd G) (ρ : Rho) : va_D (AG G) (wsO G ρ) := by
  have key : ∀ (i : Nat) (q : Nat × va_E), (wsO G ρ)[i]? = some q → i < NC ∧ q.1 = G.2.1 i := by
    intro i q h
    have hi : i < NC := by
      have := (List.getElem?_eq_some_iff.mp h).1
      simpa [wsO] using this
    rw [wsO_at hi] at h
    cases h
    exact ⟨hi, rfl⟩
  refine ⟨fun i j p q hp hq e => ?_, fun k q hq => ?_⟩
  · obtain ⟨h1, h2⟩ := key i p hp
    obtain ⟨h3, h4⟩ := key j q hq
    exact hG i j h1 h3 (by rw [← h2, ← h4]; exact e)
  · obtain ⟨h1, h2⟩ := key k q hq
    exact ⟨k, h1, h2⟩
def tyO (G : Wd) : List (ClassId × FieldType) := [(G.2.2 0, .int), (G.2.2 1, .long), (G.2.2 2, .boolean), (G.2.2 3, .object "TurningVillage$Sheet")]
/-! writes -/
def wI (ρ : Rho) (k j : Nat) (v : Int32) : Rho := (fun a b => if a = k ∧ b = j then v else ρ.1 a b, ρ.2)
def wL (ρ : Rho) (k j : Nat) (v : Int64) : Rho := (ρ.1, fun a b => if a = k ∧ b = j then v else ρ.2 a b)
theorem wI_ne {ρ : Rho} {k j a : Nat} {v : Int32} (h : a ≠ k) : (wI ρ k j v).1 a = ρ.1 a := by
  funext b
  simp [wI, h]
theorem wI_upd {ρ : Rho} {k j : Nat} {v : Int32} : (wI ρ k j v).1 k = upd (ρ.1 k) j v := by
  funext b
  simp [wI, upd]
theorem wL_ne {ρ : Rho} {k j a : Nat} {v : Int64} (h : a ≠ k) : (wL ρ k j v).2 a = ρ.2 a := by
  funext b
  simp [wL, h]
theorem wL_upd {ρ : Rho} {k j : Nat} {v : Int64} : (wL ρ k j v).2 k = vp_updL (ρ.2 k) j v := by
  funext b
  simp [wL, vp_updL]
theorem fvs_congr {G : Wd} {ρ ρ' : Rho} {k : Nat} (h1 : ρ'.1 k = ρ.1 k) (h2 : ρ'.2 k = ρ.2 k) : ∀ (fs : List Nat) (j : Nat), fvs G ρ' k j fs = fvs G ρ k j fs
  | [], _ => rfl
  | f :: fs, j => by
    simp only [fvs]
    rw [fvs_congr h1 h2 fs (j + 1)]
    congr 1
    unfold fv
    split <;> simp [h1, h2]
theorem ce_congr {G : Wd} {ρ ρ' : Rho} {k : Nat} (h1 : ρ'.1 k = ρ.1 k) (h2 : ρ'.2 k = ρ.2 k) : ce G ρ' k = ce G ρ k := by
  unfold ce
  split
  · rw [fvs_congr h1 h2]
  · congr 1
    unfold arrOf
    split <;> simp [h1, h2]
theorem fvs_get {G : Wd} {ρ : Rho} {k : Nat} : ∀ (fs : List Nat) (j i f : Nat), fs[i]? = some f → (fvs G ρ k j fs)[i]? = some (fv G ρ k (j + i) f)
  | [], _, _, _, h => by simp at h
  | g :: fs, j, 0, f, h => by simp at h; subst h; rfl
  | g :: fs, j, i + 1, f, h => by
    simp only [fvs, List.getElem?_cons_succ] at h ⊢
    rw [fvs_get fs (j + 1) i f h, show j + 1 + i = j + (i + 1) by omega]
theorem fvs_setI {G : Wd} {ρ : Rho} {k : Nat} {v : Int32} : ∀ (fs : List Nat) (j i : Nat), fs[i]? = some 0 → (fvs G ρ k j fs).set i (.int v) = fvs G (wI ρ k (j + i) v) k j fs
  | [], _, _, h => by simp at h
  | g :: fs, j, 0, h => by
    simp at h
    subst h
    simp only [fvs, List.set_cons_zero]
    congr 1
    · simp [fv, wI]
    · have : ∀ (l : List Nat) (q : Nat), j < q → fvs G ρ k q l = fvs G (wI ρ k (j + 0) v) k q l := by
        intro l
        induction l with
        | nil => intro q _; rfl
        | cons a l ih =>
          intro q hq
          simp only [fvs]
          rw [ih (q + 1) (by omega)]
          congr 1
          unfold fv
          split
          · simp [wI]; omega
          · rfl
          · rfl
      exact this fs (j + 1) (by omega)
  | g :: fs, j, i + 1, h => by
    simp only [fvs, List.set_cons_succ, List.getElem?_cons_succ] at h ⊢
    rw [fvs_setI fs (j + 1) i h, show j + 1 + i = j + (i + 1) by omega]
    congr 1
    unfold fv
    split
    · simp [wI]
    · rfl
    · rfl
theorem fvs_setL {G : Wd} {ρ : Rho} {k : Nat} {v : Int64} : ∀ (fs : List Nat) (j i : Nat), fs[i]? = some 1 → (fvs G ρ k j fs).set i (.long v) = fvs G (wL ρ k (j + i) v) k j fs
  | [], _, _, h => by simp at h
  | g :: fs, j, 0, h => by
    simp at h
    subst h
    simp only [fvs, List.set_cons_zero]
    congr 1
    · simp [fv, wL]
    · have : ∀ (l : List Nat) (q : Nat), j < q → fvs G ρ k q l = fvs G (wL ρ k (j + 0) v) k q l := by
        intro l
        induction l with
        | nil => intro q _; rfl
        | cons a l ih =>
          intro q hq
          simp only [fvs]
          rw [ih (q + 1) (by omega)]
          congr 1
          unfold fv
          split
          · rfl
          · simp [wL]; omega
          · rfl
      exact this fs (j + 1) (by omega)
  | g :: fs, j, i + 1, h => by
    simp only [fvs, List.set_cons_succ, List.getElem?_cons_succ] at h ⊢
    rw [fvs_setL fs (j + 1) i h, show j + 1 + i = j + (i + 1) by omega]
    congr 1
    unfold fv
    split
    · rfl
    · simp [wL]
    · rfl
theorem fvs_len {G : Wd} {ρ : Rho} {k : Nat} : ∀ (fs : List Nat) (j : Nat), (fvs G ρ k j fs).length = fs.length
  | [], _ => rfl
  | _ :: fs, j => by simp [fvs, fvs_len fs (j + 1)]
/-! locals -/
def lg : List (Option Value) → Nat → Option Value
  | [], _ => none
  | a :: _, 0 => a
  | _ :: t, n + 1 => lg t n
def lset : List (Option Value) → Nat → Option Value → List (Option Value)
  | [], _, _ => []
  | _ :: t, 0, v => v :: t
  | a :: t, n + 1, v => a :: lset t n v
def lk (ls : List (Option Value)) (i : Nat) : List (Option Value) := match i with
  | 0 => ls
  | j + 1 => match lg ls j with
    | some v => if v.category = 2 then lset ls j none else ls
    | none => ls
theorem lg_lset_ne : ∀ (ls : List (Option Value)) (i j : Nat) (v : Option Value), j ≠ i → lg (lset ls i v) j = lg ls j
  | [], _, _, _, _ => rfl
  | _ :: _, 0, 0, _, h => absurd rfl h
  | _ :: _, 0, _ + 1, _, _ => rfl
  | _ :: _, _ + 1, 0, _, _ => rfl
  | _ :: t, i + 1, j + 1, v, h => lg_lset_ne t i j v (fun e => h (by rw [e]))
theorem lg_lset_eq : ∀ (ls : List (Option Value)) (i : Nat) (v : Option Value) (w : Value), lg (lset ls i v) i = some w → v = some w
  | [], _, _, _, h => by simp [lset, lg] at h
  | _ :: _, 0, _, _, h => h
  | _ :: t, i + 1, v, w, h => lg_lset_eq t i v w h
theorem lg_lk {ls : List (Option Value)} {i j : Nat} {w : Value} (h : lg (lk ls i) j = some w) : lg ls j = some w ∧ ¬ (j + 1 = i ∧ w.category = 2) := by
  unfold lk at h
  split at h
  · exact ⟨h, fun q => by omega⟩
  · rename_i n
    split at h
    · rename_i v hv
      split at h
      · rename_i hc
        by_cases hj : j = n
        · subst hj
          exact absurd (lg_lset_eq _ _ _ _ h) (by simp)
        · rw [lg_lset_ne _ _ _ _ hj] at h
          exact ⟨h, fun q => hj (by omega)⟩
      · rename_i hc
        refine ⟨h, fun q => ?_⟩
        have : j = n := by omega
        subst this
        rw [hv] at h
        cases h
        exact hc q.2
    · rename_i hv
      refine ⟨h, fun q => ?_⟩
      have : j = n := by omega
      subst this
      rw [hv] at h
      cases h
def Lok (G : Wd) (ls : List (Option Value)) (lv : List (Nat × Value)) : Prop := ∀ i v, lg ls i = some v → (i, rv G v) ∈ lv
theorem Lok.st1 {G : Wd} {ls : List (Option Value)} {lv : List (Nat × Value)} (h : Lok G ls lv) (i : Nat) (v : Value) : Lok G (lset (lk ls i) i (some v)) ((i, rv G v) :: lv.filter (fun q => !(q.1 == i) && !(q.1 + 1 == i && q.2.category == 2))) := by
  intro j w hj
  by_cases hji : j = i
  · subst hji
    cases lg_lset_eq _ _ _ _ hj
    exact List.mem_cons_self
  · rw [lg_lset_ne _ _ _ _ hji] at hj
    obtain ⟨h1, h2⟩ := lg_lk hj
    refine List.mem_cons_of_mem _ (List.mem_filter.mpr ⟨h j w h1, ?_⟩)
    simp only [rv_cat, Bool.and_eq_true, Bool.not_eq_true', beq_eq_false_iff_ne, ne_eq, Bool.and_eq_false_iff]
    refine ⟨hji, ?_⟩
    by_cases q : j + 1 = i
    · exact Or.inr (fun e => h2 ⟨q, e⟩)
    · exact Or.inl q
theorem Lok.st2 {G : Wd} {ls : List (Option Value)} {lv : List (Nat × Value)} (h : Lok G ls lv) (i : Nat) (v : Value) : Lok G (lset (lset (lk ls i) (i + 1) none) i (some v)) ((i, rv G v) :: lv.filter (fun q => !(q.1 == i) && (!(q.1 == i + 1) && !(q.1 + 1 == i && q.2.category == 2)))) := by
  intro j w hj
  by_cases hji : j = i
  · subst hji
    cases lg_lset_eq _ _ _ _ hj
    exact List.mem_cons_self
  · rw [lg_lset_ne _ _ _ _ hji] at hj
    by_cases hj2 : j = i + 1
    · subst hj2
      exact absurd (lg_lset_eq _ _ _ _ hj) (by simp)
    rw [lg_lset_ne _ _ _ _ hj2] at hj
    obtain ⟨h1, h2⟩ := lg_lk hj
    refine List.mem_cons_of_mem _ (List.mem_filter.mpr ⟨h j w h1, ?_⟩)
    simp only [rv_cat, Bool.and_eq_true, Bool.not_eq_true', beq_eq_false_iff_ne, ne_eq, Bool.and_eq_false_iff]
    refine ⟨hji, hj2, ?_⟩
    by_cases q : j + 1 = i
    · exact Or.inr (fun e => h2 ⟨q, e⟩)
    · exact Or.inl q
/-- the locals of an entry -/
def ent : List Value → List (Option Value)
  | [] => []
  | v :: vs => if v.category = 2 then some v :: none :: ent vs else some v :: ent vs
theorem ent_ok {G : Wd} : ∀ (as : List Value) (tl : List (Option Value)) (o : Nat), (∀ i, lg tl i = none) → ∀ i v, lg (ent as ++ tl) i = some v → (o + i, rv G v) ∈ lv_args o (as.map (rv G))
  | [], tl, _, ht, i, v, h => by
    rw [show ent ([] : List Value) ++ tl = tl from rfl, ht i] at h
    cases h
  | a :: as, tl, o, ht, i, v, h => by
    simp only [List.map_cons, lv_args, rv_cat]
    by_cases hc : a.category = 2
    · simp only [ent, hc, if_true, List.cons_append] at h ⊢
      match i, h with
      | 0, h => cases h; exact List.mem_cons_self
      | 1, h => cases h
      | i + 2, h =>
        have := ent_ok (G := G) as tl (o + 2) ht i v h
        rw [show o + (i + 2) = o + 2 + i by omega]
        exact List.mem_cons_of_mem _ this
    · simp only [ent, hc, if_false, List.cons_append] at h ⊢
      match i, h with
      | 0, h => cases h; exact List.mem_cons_self
      | i + 1, h =>
        have := ent_ok (G := G) as tl (o + 1) ht i v h
        rw [show o + (i + 1) = o + 1 + i by omega]
        exact List.mem_cons_of_mem _ this
theorem lg_none : ∀ (n i : Nat), lg (List.replicate n none) i = none
  | 0, _ => rfl
  | _ + 1, 0 => rfl
  | n + 1, i + 1 => lg_none n i
/-! the judgement -/
def rmL (n : Nat) : Room := { frames := n, cells := 0, slots := 0, locals := 40 * n }
def nestW : Cond := .methodLinkNest "TurningVillage$Land" 81 yX7_within "TurningVillage"
def Cx (M : Mth) (G : Wd) (p : Program) (s : State) (m : MethodId) (args : Array Value) (meth : Method) (c : Code) : Prop :=
  p.tables.exec = Jvm.exec ∧ c.code = mC M ∧ c.maxLocals = mN M ∧ meth.sig.returnType = mR M ∧ s.vm.findClass (mO M) = some m.cls ∧ (∀ w ∈ BT, w.before args s = true) ∧ meth.locks = false ∧ va_K G.1 CL (tyO G) s ∧ Gd G ∧ va_Nw nestW s
def Dy (M : Mth) (G : Wd) (ρ : Rho) (s : State) (H : Heap) (locs : List Loc) (rls : Array Slot) (ls : List (Option Value)) : Prop :=
  va_P G.1 CL (wsO G ρ) H ∧ va_S (AG G) s.heap H locs ∧ ∃ lv, lv_has rls (mN M) lv ∧ Lok G ls lv
def QC (G : Wd) (Q : Option Value → Rho → Prop) : Array Value → State → Outcome → State → Prop := fun _ st o t =>
  (∃ (r : Option Value) (ρ : Rho), o = .returned (r.map (rv G)) ∧ Q r ρ ∧ va_P G.1 CL (wsO G ρ) t.heap) ∧ va_F (AG G) st t
def MW (M : Mth) (n : Nat) (pc : Nat) (ls : List (Option Value)) (st : List Value) (ρ : Rho) (Q : Option Value → Rho → Prop) : Prop :=
  ∀ (G : Wd) (p : Program) (l : Launch) (e : Env) (s : State) (m : MethodId) (args : Array Value) (below : List Frame) (meth : Method) (c : Code) (H : Heap) (locs : List Loc) (rls : Array Slot),
    Cx M G p s m args meth c → Dy M G ρ s H locs rls ls → W p l e (rmL n) s m args below meth c H locs 0 0 (MQ below (QC G Q) args s 0 0 (AG G)) (F0 m pc rls (st.map (rv G)))
def PC (G : Wd) (as : List Value) (ρ : Rho) : Array Value → State → Prop := fun v U => v = (as.map (rv G)).toArray ∧ va_K G.1 CL (tyO G) U ∧ va_P G.1 CL (wsO G ρ) U.heap ∧ va_Nw nestW U
def CallOK (j : Nat) (M : Mth) (as : List Value) (ρ : Rho) (Q : Option Value → Rho → Prop) : Prop :=
  ∀ (l : Launch) (G : Wd), Gd G → Met l (mY M) (wsM M) (rmL j) (PC G as ρ) (QC G Q) 0 0 (AG G)
theorem PC_blind (G : Wd) (as : List Value) (ρ : Rho) : FrameBlind (PC G as ρ) := fun a U g mk h => ⟨h.1, va_K.moved (u := U) (U := U.calling g mk a) (Vm.Alike.refl U.vm) h.2.1, h.2.2.1, va_Nw.same rfl rfl h.2.2.2⟩
theorem QC_mono {G : Wd} {Q Q' : Option Value → Rho → Prop} (h : ∀ r ρ, Q r ρ → Q' r ρ) {a : Array Value} {st t : State} {o : Outcome} (q : QC G Q a st o t) : QC G Q' a st o t := by
  obtain ⟨⟨r, ρ, h1, h2, h3⟩, h4⟩ := q
  exact ⟨⟨r, ρ, h1, h _ _ h2, h3⟩, h4⟩
theorem callOK_of {j : Nat} {M : Mth} {as : List Value} {ρ : Rho} {Q : Option Value → Rho → Prop} {ls : List (Option Value)} (k : Nat) (hpl : plainName (mY M).cls = true) (hO : (mY M).cls = mO M) (hlen : ∀ G, (lg_sl (as.map (rv G))).length ≤ mN M) (hls : ent as ++ List.replicate k none = ls) (h : MW M j 0 ls [] ρ Q) : CallOK j M as ρ Q := by
  intro l G hG
  refine Met.ofW (cc := mC M) (maxL := mN M) (ret := mR M) hpl rfl ?_
  intro p e s m args below meth c s₁ B hml hv
  obtain ⟨rfl, hK, hP, hN⟩ := hv
  have hts := atoms_spec (ws := wsM M) B.pre
  have hown : s.vm.findClass (mO M) = some m.cls := by rw [← hO]; exact findClass_of_methodNamed B.named
  have hl := lv_entry (as.map (rv G)) (n := mN M) (hlen G)
  rw [lg_entry_eq]
  have hL : Lok G ls (lv_args 0 (as.map (rv G))) := by
    intro i v hi
    rw [← hls] at hi
    have := ent_ok (G := G) as (List.replicate k none) 0 (lg_none k) i v hi
    rwa [Nat.zero_add] at this
  exact h G p l e s m _ below meth c s.heap [] _ ⟨B.exec, B.bytes, hml, B.returns, hown, fun w hw => hts w (List.mem_cons_of_mem _ hw), B.notSynchronized, hK, hG, hN⟩ ⟨hP, va_S.rf, _, hl, hL⟩
end
section
variable {M : Mth} {j pc nx : Nat} {ls : List (Option Value)} {st : List Value} {ρ : Rho} {Q : Option Value → Rho → Prop}
theorem lget {G : Wd} {s : State} {H : Heap} {locs : List Loc} {rls : Array Slot} {i : Nat} {v : Value} (D : Dy M G ρ s H locs rls ls) (h : lg ls i = some v) : rls[i]? = some (.val (rv G v)) := by
  obtain ⟨-, -, lv, h1, h2⟩ := D
  exact h1.2.2 _ (h2 i v h)
def D0 (M : Mth) (pc : Nat) (i : Instr) (len nx : Nat) : Prop := decode (mC M) pc = .ok (i, len) ∧ pc + len = nx

theorem w_iadd {x y : Int32} (hd : D0 M pc .iadd 1 nx) (k : MW M j nx ls (.int (x + y) :: st) ρ Q) : MW M j pc ls (.int y :: .int x :: st) ρ Q := by
  obtain ⟨hd, rfl⟩ := hd
  exact fun G p l e s m args below meth c H locs rls C D => lv_iadd C.1 C.2.1 hd (k G p l e s m args below meth c H locs rls C D)
theorem w_isub {x y : Int32} (hd : D0 M pc .isub 1 nx) (k : MW M j nx ls (.int (x - y) :: st) ρ Q) : MW M j pc ls (.int y :: .int x :: st) ρ Q := by
  obtain ⟨hd, rfl⟩ := hd
  exact fun G p l e s m args below meth c H locs rls C D => lv_isub C.1 C.2.1 hd (k G p l e s m args below meth c H locs rls C D)
theorem w_imul {x y : Int32} (hd : D0 M pc .imul 1 nx) (k : MW M j nx ls (.int (x * y) :: st) ρ Q) : MW M j pc ls (.int y :: .int x :: st) ρ Q := by
  obtain ⟨hd, rfl⟩ := hd
  exact fun G p l e s m args below meth c H locs rls C D => lv_imul C.1 C.2.1 hd (k G p l e s m args below meth c H locs rls C D)
theorem w_iand {x y : Int32} (hd : D0 M pc .iand 1 nx) (k : MW M j nx ls (.int (x &&& y) :: st) ρ Q) : MW M j pc ls (.int y :: .int x :: st) ρ Q := by
  obtain ⟨hd, rfl⟩ := hd
  exact fun G p l e s m args below meth c H locs rls C D => lv_iand C.1 C.2.1 hd (k G p l e s m args below meth c H locs rls C D)
theorem w_ior {x y : Int32} (hd : D0 M pc .ior 1 nx) (k : MW M j nx ls (.int (x ||| y) :: st) ρ Q) : MW M j pc ls (.int y :: .int x :: st) ρ Q := by
  obtain ⟨hd, rfl⟩ := hd
  exact fun G p l e s m args below meth c H locs rls C D => lv_ior C.1 C.2.1 hd (k G p l e s m args below meth c H locs rls C D)
theorem w_ixor {x y : Int32} (hd : D0 M pc .ixor 1 nx) (k : MW M j nx ls (.int (x ^^^ y) :: st) ρ Q) : MW M j pc ls (.int y :: .int x :: st) ρ Q := by
  obtain ⟨hd, rfl⟩ := hd
  exact fun G p l e s m args below meth c H locs rls C D => lv_ixor C.1 C.2.1 hd (k G p l e s m args below meth c H locs rls C D)
theorem w_ishl {x y : Int32} (hd : D0 M pc .ishl 1 nx) (k : MW M j nx ls (.int (x <<< (y &&& 31)) :: st) ρ Q) : MW M j pc ls (.int y :: .int x :: st) ρ Q := by
  obtain ⟨hd, rfl⟩ := hd
  exact fun G p l e s m args below meth c H locs rls C D => lv_ishl C.1 C.2.1 hd (k G p l e s m args below meth c H locs rls C D)
theorem w_ishr {x y : Int32} (hd : D0 M pc .ishr 1 nx) (k : MW M j nx ls (.int (x >>> (y &&& 31)) :: st) ρ Q) : MW M j pc ls (.int y :: .int x :: st) ρ Q := by
  obtain ⟨hd, rfl⟩ := hd
  exact fun G p l e s m args below meth c H locs rls C D => lv_ishr C.1 C.2.1 hd (k G p l e s m args below meth c H locs rls C D)
theorem w_ladd {x y : Int64} (hd : D0 M pc .ladd 1 nx) (k : MW M j nx ls (.long (x + y) :: st) ρ Q) : MW M j pc ls (.long y :: .long x :: st) ρ Q := by
  obtain ⟨hd, rfl⟩ := hd
  exact fun G p l e s m args below meth c H locs rls C D => lv_ladd C.1 C.2.1 hd (k G p l e s m args below meth c H locs rls C D)
theorem w_lsub {x y : Int64} (hd : D0 M pc .lsub 1 nx) (k : MW M j nx ls (.long (x - y) :: st) ρ Q) : MW M j pc ls (.long y :: .long x :: st) ρ Q := by
  obtain ⟨hd, rfl⟩ := hd
  exact fun G p l e s m args below meth c H locs rls C D => lv_lsub C.1 C.2.1 hd (k G p l e s m args below meth c H locs rls C D)
theorem w_lmul {x y : Int64} (hd : D0 M pc .lmul 1 nx) (k : MW M j nx ls (.long (x * y) :: st) ρ Q) : MW M j pc ls (.long y :: .long x :: st) ρ Q := by
  obtain ⟨hd, rfl⟩ := hd
  exact fun G p l e s m args below meth c H locs rls C D => lv_lmul C.1 C.2.1 hd (k G p l e s m args below meth c H locs rls C D)
theorem w_lor {x y : Int64} (hd : D0 M pc .lor 1 nx) (k : MW M j nx ls (.long (x ||| y) :: st) ρ Q) : MW M j pc ls (.long y :: .long x :: st) ρ Q := by
  obtain ⟨hd, rfl⟩ := hd
  exact fun G p l e s m args below meth c H locs rls C D => lv_lor C.1 C.2.1 hd (k G p l e s m args below meth c H locs rls C D)
theorem w_irem {x y : Int32} (hd : D0 M pc .irem 1 nx) (hne : ¬ y = 0) (k : MW M j nx ls (.int (x - x / y * y) :: st) ρ Q) : MW M j pc ls (.int y :: .int x :: st) ρ Q := by
  obtain ⟨hd, rfl⟩ := hd
  exact fun G p l e s m args below meth c H locs rls C D => lv_irem C.1 C.2.1 hd hne (k G p l e s m args below meth c H locs rls C D)
theorem w_lrem {x y : Int64} (hd : D0 M pc .lrem 1 nx) (hne : ¬ y = 0) (k : MW M j nx ls (.long (x - x / y * y) :: st) ρ Q) : MW M j pc ls (.long y :: .long x :: st) ρ Q := by
  obtain ⟨hd, rfl⟩ := hd
  exact fun G p l e s m args below meth c H locs rls C D => lv_lrem C.1 C.2.1 hd hne (k G p l e s m args below meth c H locs rls C D)
theorem w_ldiv {x y : Int64} (hd : D0 M pc .ldiv 1 nx) (hne : ¬ y = 0) (k : MW M j nx ls (.long (x / y) :: st) ρ Q) : MW M j pc ls (.long y :: .long x :: st) ρ Q := by
  obtain ⟨hd, rfl⟩ := hd
  exact fun G p l e s m args below meth c H locs rls C D => lv_ldiv C.1 C.2.1 hd hne (k G p l e s m args below meth c H locs rls C D)
theorem w_iushr {x y : Int32} (hd : D0 M pc .iushr 1 nx) (k : MW M j nx ls (.int ((x.toUInt32 >>> (y.toUInt32 &&& Int32.toUInt32 31)).toInt32) :: st) ρ Q) : MW M j pc ls (.int y :: .int x :: st) ρ Q := by
  obtain ⟨hd, rfl⟩ := hd
  exact fun G p l e s m args below meth c H locs rls C D => lv_iushr C.1 C.2.1 hd rfl (k G p l e s m args below meth c H locs rls C D)
theorem w_lshl {x : Int64} {y : Int32} (hd : D0 M pc .lshl 1 nx) (k : MW M j nx ls (.long (x <<< (y.toInt64 &&& 63)) :: st) ρ Q) : MW M j pc ls (.int y :: .long x :: st) ρ Q := by
  obtain ⟨hd, rfl⟩ := hd
  exact fun G p l e s m args below meth c H locs rls C D => lv_lshl C.1 C.2.1 hd rfl (k G p l e s m args below meth c H locs rls C D)
theorem w_i2l {x : Int32} (hd : D0 M pc .i2l 1 nx) (k : MW M j nx ls (.long x.toInt64 :: st) ρ Q) : MW M j pc ls (.int x :: st) ρ Q := by
  obtain ⟨hd, rfl⟩ := hd
  exact fun G p l e s m args below meth c H locs rls C D => lv_i2l C.1 C.2.1 hd rfl (k G p l e s m args below meth c H locs rls C D)
theorem w_i2b {x : Int32} (hd : D0 M pc .i2b 1 nx) (k : MW M j nx ls (.int x.toInt8.toInt32 :: st) ρ Q) : MW M j pc ls (.int x :: st) ρ Q := by
  obtain ⟨hd, rfl⟩ := hd
  exact fun G p l e s m args below meth c H locs rls C D => lv_i2b C.1 C.2.1 hd rfl (k G p l e s m args below meth c H locs rls C D)
theorem w_i2s {x : Int32} (hd : D0 M pc .i2s 1 nx) (k : MW M j nx ls (.int x.toInt16.toInt32 :: st) ρ Q) : MW M j pc ls (.int x :: st) ρ Q := by
  obtain ⟨hd, rfl⟩ := hd
  exact fun G p l e s m args below meth c H locs rls C D => lv_i2s C.1 C.2.1 hd rfl (k G p l e s m args below meth c H locs rls C D)
theorem w_lcmp {x y : Int64} (hd : D0 M pc .lcmp 1 nx) (k : MW M j nx ls (.int (lg_cmp x y) :: st) ρ Q) : MW M j pc ls (.long y :: .long x :: st) ρ Q := by
  obtain ⟨hd, rfl⟩ := hd
  exact fun G p l e s m args below meth c H locs rls C D => W.lcmp C.1 C.2.1 hd (k G p l e s m args below meth c H locs rls C D)
theorem w_dup {v : Value} (hd : D0 M pc .dup 1 nx) (hc : v.category = 1) (k : MW M j nx ls (v :: v :: st) ρ Q) : MW M j pc ls (v :: st) ρ Q := by
  obtain ⟨hd, rfl⟩ := hd
  exact fun G p l e s m args below meth c H locs rls C D => lv_dup C.1 C.2.1 hd ((rv_cat G v).trans hc) (k G p l e s m args below meth c H locs rls C D)
theorem w_pop {v : Value} (hd : D0 M pc .pop 1 nx) (hc : v.category = 1) (k : MW M j nx ls st ρ Q) : MW M j pc ls (v :: st) ρ Q := by
  obtain ⟨hd, rfl⟩ := hd
  exact fun G p l e s m args below meth c H locs rls C D => lv_pop C.1 C.2.1 hd ((rv_cat G v).trans hc) (k G p l e s m args below meth c H locs rls C D)
theorem w_dup2 {v w : Value} (hd : D0 M pc .dup2 1 nx) (hc : v.category = 1) (hc2 : w.category = 1) (k : MW M j nx ls (v :: w :: v :: w :: st) ρ Q) : MW M j pc ls (v :: w :: st) ρ Q := by
  obtain ⟨hd, rfl⟩ := hd
  exact fun G p l e s m args below meth c H locs rls C D => lv_dup2_11 C.1 C.2.1 hd ((rv_cat G v).trans hc) ((rv_cat G w).trans hc2) (k G p l e s m args below meth c H locs rls C D)
def DLi (M : Mth) (pc i nx : Nat) : Prop := (∃ q : Fin 4, decode (mC M) pc = .ok (.iload_n q, 1) ∧ (q : Nat) = i ∧ pc + 1 = nx) ∨ (decode (mC M) pc = .ok (.iload i, 2) ∧ pc + 2 = nx)
theorem w_il {i : Nat} {x : Int32} (hd : DLi M pc i nx) (hl : lg ls i = some (.int x)) (k : MW M j nx ls (.int x :: st) ρ Q) : MW M j pc ls st ρ Q := by
  rcases hd with ⟨q, hd, hi, rfl⟩ | ⟨hd, rfl⟩
  · exact fun G p l e s m args below meth c H locs rls C D => lv_iload_n C.1 C.2.1 hd hi (lget D hl) (k G p l e s m args below meth c H locs rls C D)
  · exact fun G p l e s m args below meth c H locs rls C D => lv_iload C.1 C.2.1 hd (lget D hl) (k G p l e s m args below meth c H locs rls C D)
def DLl (M : Mth) (pc i nx : Nat) : Prop := (∃ q : Fin 4, decode (mC M) pc = .ok (.lload_n q, 1) ∧ (q : Nat) = i ∧ pc + 1 = nx) ∨ (decode (mC M) pc = .ok (.lload i, 2) ∧ pc + 2 = nx)
theorem w_ll {i : Nat} {x : Int64} (hd : DLl M pc i nx) (hl : lg ls i = some (.long x)) (k : MW M j nx ls (.long x :: st) ρ Q) : MW M j pc ls st ρ Q := by
  rcases hd with ⟨q, hd, hi, rfl⟩ | ⟨hd, rfl⟩
  · exact fun G p l e s m args below meth c H locs rls C D => lv_lload_n C.1 C.2.1 hd hi (lget D hl) (k G p l e s m args below meth c H locs rls C D)
  · exact fun G p l e s m args below meth c H locs rls C D => lv_lload C.1 C.2.1 hd (lget D hl) (k G p l e s m args below meth c H locs rls C D)
def DLa (M : Mth) (pc i nx : Nat) : Prop := (∃ q : Fin 4, decode (mC M) pc = .ok (.aload_n q, 1) ∧ (q : Nat) = i ∧ pc + 1 = nx) ∨ (decode (mC M) pc = .ok (.aload i, 2) ∧ pc + 2 = nx)
theorem w_al {i : Nat} {x : Nat} (hd : DLa M pc i nx) (hl : lg ls i = some (.ref x)) (k : MW M j nx ls (.ref x :: st) ρ Q) : MW M j pc ls st ρ Q := by
  rcases hd with ⟨q, hd, hi, rfl⟩ | ⟨hd, rfl⟩
  · exact fun G p l e s m args below meth c H locs rls C D => lv_aload_n C.1 C.2.1 hd hi (lget D hl) (k G p l e s m args below meth c H locs rls C D)
  · exact fun G p l e s m args below meth c H locs rls C D => lv_aload C.1 C.2.1 hd (lget D hl) (k G p l e s m args below meth c H locs rls C D)
def DSi (M : Mth) (pc i nx : Nat) : Prop := i < mN M ∧ ((∃ q : Fin 4, decode (mC M) pc = .ok (.istore_n q, 1) ∧ (q : Nat) = i ∧ pc + 1 = nx) ∨ (decode (mC M) pc = .ok (.istore i, 2) ∧ pc + 2 = nx))
theorem w_is {i : Nat} {x : Int32} {ls2 : List (Option Value)} (hd : DSi M pc i nx) (hl : lset (lk ls i) i (some (.int x)) = ls2) (k : MW M j nx ls2 st ρ Q) : MW M j pc ls (.int x :: st) ρ Q := by
  subst hl
  rcases hd with ⟨hn, ⟨q, hd, hi, rfl⟩ | ⟨hd, rfl⟩⟩
  · exact fun G p l e s m args below meth c H locs rls C D => by
      obtain ⟨hP, hS, lv, h1, h2⟩ := D
      refine lv_istore_n C.1 C.2.1 hd hi h1 hn rfl (fun rls2 hl2 => ?_)
      exact k G p l e s m args below meth c H locs rls2 C ⟨hP, hS, _, hl2, Lok.st1 h2 i (.int x)⟩
  · exact fun G p l e s m args below meth c H locs rls C D => by
      obtain ⟨hP, hS, lv, h1, h2⟩ := D
      refine lv_istore C.1 C.2.1 hd h1 hn rfl (fun rls2 hl2 => ?_)
      exact k G p l e s m args below meth c H locs rls2 C ⟨hP, hS, _, hl2, Lok.st1 h2 i (.int x)⟩
def DSl (M : Mth) (pc i nx : Nat) : Prop := i + 1 < mN M ∧ ((∃ q : Fin 4, decode (mC M) pc = .ok (.lstore_n q, 1) ∧ (q : Nat) = i ∧ pc + 1 = nx) ∨ (decode (mC M) pc = .ok (.lstore i, 2) ∧ pc + 2 = nx))
theorem w_ls {i : Nat} {x : Int64} {ls2 : List (Option Value)} (hd : DSl M pc i nx) (hl : lset (lset (lk ls i) (i + 1) none) i (some (.long x)) = ls2) (k : MW M j nx ls2 st ρ Q) : MW M j pc ls (.long x :: st) ρ Q := by
  subst hl
  rcases hd with ⟨hn, ⟨q, hd, hi, rfl⟩ | ⟨hd, rfl⟩⟩
  · exact fun G p l e s m args below meth c H locs rls C D => by
      obtain ⟨hP, hS, lv, h1, h2⟩ := D
      refine lv_lstore_n C.1 C.2.1 hd hi h1 hn rfl (fun rls2 hl2 => ?_)
      exact k G p l e s m args below meth c H locs rls2 C ⟨hP, hS, _, hl2, Lok.st2 h2 i (.long x)⟩
  · exact fun G p l e s m args below meth c H locs rls C D => by
      obtain ⟨hP, hS, lv, h1, h2⟩ := D
      refine lv_lstore C.1 C.2.1 hd h1 hn rfl (fun rls2 hl2 => ?_)
      exact k G p l e s m args below meth c H locs rls2 C ⟨hP, hS, _, hl2, Lok.st2 h2 i (.long x)⟩
def DSa (M : Mth) (pc i nx : Nat) : Prop := i < mN M ∧ ((∃ q : Fin 4, decode (mC M) pc = .ok (.astore_n q, 1) ∧ (q : Nat) = i ∧ pc + 1 = nx) ∨ (decode (mC M) pc = .ok (.astore i, 2) ∧ pc + 2 = nx))
theorem w_as {i : Nat} {x : Nat} {ls2 : List (Option Value)} (hd : DSa M pc i nx) (hl : lset (lk ls i) i (some (.ref x)) = ls2) (k : MW M j nx ls2 st ρ Q) : MW M j pc ls (.ref x :: st) ρ Q := by
  subst hl
  rcases hd with ⟨hn, ⟨q, hd, hi, rfl⟩ | ⟨hd, rfl⟩⟩
  · exact fun G p l e s m args below meth c H locs rls C D => by
      obtain ⟨hP, hS, lv, h1, h2⟩ := D
      refine lv_astore_n C.1 C.2.1 hd hi h1 hn rfl (fun rls2 hl2 => ?_)
      exact k G p l e s m args below meth c H locs rls2 C ⟨hP, hS, _, hl2, Lok.st1 h2 i (.ref x)⟩
  · exact fun G p l e s m args below meth c H locs rls C D => by
      obtain ⟨hP, hS, lv, h1, h2⟩ := D
      refine lv_astore C.1 C.2.1 hd h1 hn rfl (fun rls2 hl2 => ?_)
      exact k G p l e s m args below meth c H locs rls2 C ⟨hP, hS, _, hl2, Lok.st1 h2 i (.ref x)⟩
def DIn (M : Mth) (pc i : Nat) (v : Int32) (nx : Nat) : Prop := i < mN M ∧ ∃ n, decode (mC M) pc = .ok (.iinc i n, 3) ∧ Int32.ofInt n = v ∧ pc + 3 = nx
theorem w_iinc {i : Nat} {x v : Int32} {ls2 : List (Option Value)} (hd : DIn M pc i v nx) (hg : lg ls i = some (.int x)) (hl : lset (lk ls i) i (some (.int (x + v))) = ls2) (k : MW M j nx ls2 st ρ Q) : MW M j pc ls st ρ Q := by
  subst hl
  obtain ⟨hn, n, hd, rfl, rfl⟩ := hd
  exact fun G p l e s m args below meth c H locs rls C D => by
    obtain ⟨hP, hS, lv, h1, h2⟩ := D
    obtain ⟨q, hq⟩ := List.getElem?_of_mem (h2 i _ hg)
    refine lv_iinc C.1 C.2.1 hd h1 hq rfl hn rfl (fun rls2 hl2 => ?_)
    exact k G p l e s m args below meth c H locs rls2 C ⟨hP, hS, _, hl2, Lok.st1 h2 i (.int (x + Int32.ofInt n))⟩
def DKi (M : Mth) (pc : Nat) (v : Int32) (nx : Nat) : Prop := (∃ n, decode (mC M) pc = .ok (.iconst n, 1) ∧ Int32.ofInt n = v ∧ pc + 1 = nx) ∨ (∃ n, decode (mC M) pc = .ok (.bipush n, 2) ∧ (Int8.ofInt n).toInt32 = v ∧ pc + 2 = nx) ∨ (∃ n, decode (mC M) pc = .ok (.sipush n, 3) ∧ (Int16.ofInt n).toInt32 = v ∧ pc + 3 = nx) ∨ (∃ q, decode (mC M) pc = .ok (.ldc q, 2) ∧ Cond.constant (mO M) q v ∈ BT ∧ pc + 2 = nx) ∨ (∃ q, decode (mC M) pc = .ok (.ldc_w q, 3) ∧ Cond.constant (mO M) q v ∈ BT ∧ pc + 3 = nx)
theorem w_k {v : Int32} (hd : DKi M pc v nx) (k : MW M j nx ls (.int v :: st) ρ Q) : MW M j pc ls st ρ Q := by
  rcases hd with ⟨n, hd, hv, rfl⟩ | ⟨n, hd, hv, rfl⟩ | ⟨n, hd, hv, rfl⟩ | ⟨n, hd, hv, rfl⟩ | ⟨n, hd, hv, rfl⟩
  · exact fun G p l e s m args below meth c H locs rls C D => lv_iconst C.1 C.2.1 hd hv (k G p l e s m args below meth c H locs rls C D)
  · exact fun G p l e s m args below meth c H locs rls C D => lv_bipush C.1 C.2.1 hd hv (k G p l e s m args below meth c H locs rls C D)
  · exact fun G p l e s m args below meth c H locs rls C D => lv_sipush C.1 C.2.1 hd hv (k G p l e s m args below meth c H locs rls C D)
  · exact fun G p l e s m args below meth c H locs rls C D => lv_ldc C.1 C.2.1 C.2.2.2.2.1 (C.2.2.2.2.2.1 _ hv) hd (k G p l e s m args below meth c H locs rls C D)
  · exact fun G p l e s m args below meth c H locs rls C D => lv_ldcw C.1 C.2.1 C.2.2.2.2.1 (C.2.2.2.2.2.1 _ hv) hd (k G p l e s m args below meth c H locs rls C D)
def DKl (M : Mth) (pc : Nat) (v : Int64) (nx : Nat) : Prop := (∃ n, decode (mC M) pc = .ok (.lconst n, 1) ∧ Int64.ofNat n = v ∧ pc + 1 = nx) ∨ (∃ q, decode (mC M) pc = .ok (.ldc2_w q, 3) ∧ Cond.constantLong (mO M) q v ∈ BT ∧ pc + 3 = nx)
theorem w_kl {v : Int64} (hd : DKl M pc v nx) (k : MW M j nx ls (.long v :: st) ρ Q) : MW M j pc ls st ρ Q := by
  rcases hd with ⟨n, hd, hv, rfl⟩ | ⟨n, hd, hv, rfl⟩
  · exact fun G p l e s m args below meth c H locs rls C D => lv_lconst C.1 C.2.1 hd hv (k G p l e s m args below meth c H locs rls C D)
  · exact fun G p l e s m args below meth c H locs rls C D => lv_ldc2 C.1 C.2.1 C.2.2.2.2.1 (C.2.2.2.2.2.1 _ hv) hd (k G p l e s m args below meth c H locs rls C D)
def DFeq (M : Mth) (pc tgt nx : Nat) : Prop := ∃ off : Int, decode (mC M) pc = .ok (.ifCond .eq off, 3) ∧ (pc : Int) + off = (tgt : Int) ∧ pc + 3 = nx
theorem w_ifeq {tgt : Nat} {x : Int32} (hd : DFeq M pc tgt nx) (kt : x = 0 → MW M j tgt ls st ρ Q) (kf : ¬ x = 0 → MW M j nx ls st ρ Q) : MW M j pc ls (.int x :: st) ρ Q := by
  obtain ⟨off, hd, ht, rfl⟩ := hd
  exact fun G p l e s m args below meth c H locs rls C D => lv_if_eq C.1 C.2.1 hd ht (fun h => kt h G p l e s m args below meth c H locs rls C D) (fun h => kf h G p l e s m args below meth c H locs rls C D)
def DCeq (M : Mth) (pc tgt nx : Nat) : Prop := ∃ off : Int, decode (mC M) pc = .ok (.if_icmp .eq off, 3) ∧ (pc : Int) + off = (tgt : Int) ∧ pc + 3 = nx
theorem w_iceq {tgt : Nat} {x y : Int32} (hd : DCeq M pc tgt nx) (kt : x = y → MW M j tgt ls st ρ Q) (kf : ¬ x = y → MW M j nx ls st ρ Q) : MW M j pc ls (.int y :: .int x :: st) ρ Q := by
  obtain ⟨off, hd, ht, rfl⟩ := hd
  exact fun G p l e s m args below meth c H locs rls C D => lv_icmp_eq C.1 C.2.1 hd ht (fun h => kt h G p l e s m args below meth c H locs rls C D) (fun h => kf h G p l e s m args below meth c H locs rls C D)
def DFne (M : Mth) (pc tgt nx : Nat) : Prop := ∃ off : Int, decode (mC M) pc = .ok (.ifCond .ne off, 3) ∧ (pc : Int) + off = (tgt : Int) ∧ pc + 3 = nx
theorem w_ifne {tgt : Nat} {x : Int32} (hd : DFne M pc tgt nx) (kt : ¬ x = 0 → MW M j tgt ls st ρ Q) (kf : x = 0 → MW M j nx ls st ρ Q) : MW M j pc ls (.int x :: st) ρ Q := by
  obtain ⟨off, hd, ht, rfl⟩ := hd
  exact fun G p l e s m args below meth c H locs rls C D => lv_if_ne C.1 C.2.1 hd ht (fun h => kt h G p l e s m args below meth c H locs rls C D) (fun h => kf h G p l e s m args below meth c H locs rls C D)
def DCne (M : Mth) (pc tgt nx : Nat) : Prop := ∃ off : Int, decode (mC M) pc = .ok (.if_icmp .ne off, 3) ∧ (pc : Int) + off = (tgt : Int) ∧ pc + 3 = nx
theorem w_icne {tgt : Nat} {x y : Int32} (hd : DCne M pc tgt nx) (kt : ¬ x = y → MW M j tgt ls st ρ Q) (kf : x = y → MW M j nx ls st ρ Q) : MW M j pc ls (.int y :: .int x :: st) ρ Q := by
  obtain ⟨off, hd, ht, rfl⟩ := hd
  exact fun G p l e s m args below meth c H locs rls C D => lv_icmp_ne C.1 C.2.1 hd ht (fun h => kt h G p l e s m args below meth c H locs rls C D) (fun h => kf h G p l e s m args below meth c H locs rls C D)
def DFlt (M : Mth) (pc tgt nx : Nat) : Prop := ∃ off : Int, decode (mC M) pc = .ok (.ifCond .lt off, 3) ∧ (pc : Int) + off = (tgt : Int) ∧ pc + 3 = nx
theorem w_iflt {tgt : Nat} {x : Int32} (hd : DFlt M pc tgt nx) (kt : x < 0 → MW M j tgt ls st ρ Q) (kf : ¬ x < 0 → MW M j nx ls st ρ Q) : MW M j pc ls (.int x :: st) ρ Q := by
  obtain ⟨off, hd, ht, rfl⟩ := hd
  exact fun G p l e s m args below meth c H locs rls C D => lv_if_lt C.1 C.2.1 hd ht (fun h => kt h G p l e s m args below meth c H locs rls C D) (fun h => kf h G p l e s m args below meth c H locs rls C D)
def DClt (M : Mth) (pc tgt nx : Nat) : Prop := ∃ off : Int, decode (mC M) pc = .ok (.if_icmp .lt off, 3) ∧ (pc : Int) + off = (tgt : Int) ∧ pc + 3 = nx
theorem w_iclt {tgt : Nat} {x y : Int32} (hd : DClt M pc tgt nx) (kt : x < y → MW M j tgt ls st ρ Q) (kf : ¬ x < y → MW M j nx ls st ρ Q) : MW M j pc ls (.int y :: .int x :: st) ρ Q := by
  obtain ⟨off, hd, ht, rfl⟩ := hd
  exact fun G p l e s m args below meth c H locs rls C D => lv_icmp_lt C.1 C.2.1 hd ht (fun h => kt h G p l e s m args below meth c H locs rls C D) (fun h => kf h G p l e s m args below meth c H locs rls C D)
def DFge (M : Mth) (pc tgt nx : Nat) : Prop := ∃ off : Int, decode (mC M) pc = .ok (.ifCond .ge off, 3) ∧ (pc : Int) + off = (tgt : Int) ∧ pc + 3 = nx
theorem w_ifge {tgt : Nat} {x : Int32} (hd : DFge M pc tgt nx) (kt : 0 ≤ x → MW M j tgt ls st ρ Q) (kf : ¬ 0 ≤ x → MW M j nx ls st ρ Q) : MW M j pc ls (.int x :: st) ρ Q := by
  obtain ⟨off, hd, ht, rfl⟩ := hd
  exact fun G p l e s m args below meth c H locs rls C D => lv_if_ge C.1 C.2.1 hd ht (fun h => kt h G p l e s m args below meth c H locs rls C D) (fun h => kf h G p l e s m args below meth c H locs rls C D)
def DCge (M : Mth) (pc tgt nx : Nat) : Prop := ∃ off : Int, decode (mC M) pc = .ok (.if_icmp .ge off, 3) ∧ (pc : Int) + off = (tgt : Int) ∧ pc + 3 = nx
theorem w_icge {tgt : Nat} {x y : Int32} (hd : DCge M pc tgt nx) (kt : y ≤ x → MW M j tgt ls st ρ Q) (kf : ¬ y ≤ x → MW M j nx ls st ρ Q) : MW M j pc ls (.int y :: .int x :: st) ρ Q := by
  obtain ⟨off, hd, ht, rfl⟩ := hd
  exact fun G p l e s m args below meth c H locs rls C D => lv_icmp_ge C.1 C.2.1 hd ht (fun h => kt h G p l e s m args below meth c H locs rls C D) (fun h => kf h G p l e s m args below meth c H locs rls C D)
def DFgt (M : Mth) (pc tgt nx : Nat) : Prop := ∃ off : Int, decode (mC M) pc = .ok (.ifCond .gt off, 3) ∧ (pc : Int) + off = (tgt : Int) ∧ pc + 3 = nx
theorem w_ifgt {tgt : Nat} {x : Int32} (hd : DFgt M pc tgt nx) (kt : 0 < x → MW M j tgt ls st ρ Q) (kf : ¬ 0 < x → MW M j nx ls st ρ Q) : MW M j pc ls (.int x :: st) ρ Q := by
  obtain ⟨off, hd, ht, rfl⟩ := hd
  exact fun G p l e s m args below meth c H locs rls C D => lv_if_gt C.1 C.2.1 hd ht (fun h => kt h G p l e s m args below meth c H locs rls C D) (fun h => kf h G p l e s m args below meth c H locs rls C D)
def DCgt (M : Mth) (pc tgt nx : Nat) : Prop := ∃ off : Int, decode (mC M) pc = .ok (.if_icmp .gt off, 3) ∧ (pc : Int) + off = (tgt : Int) ∧ pc + 3 = nx
theorem w_icgt {tgt : Nat} {x y : Int32} (hd : DCgt M pc tgt nx) (kt : y < x → MW M j tgt ls st ρ Q) (kf : ¬ y < x → MW M j nx ls st ρ Q) : MW M j pc ls (.int y :: .int x :: st) ρ Q := by
  obtain ⟨off, hd, ht, rfl⟩ := hd
  exact fun G p l e s m args below meth c H locs rls C D => lv_icmp_gt C.1 C.2.1 hd ht (fun h => kt h G p l e s m args below meth c H locs rls C D) (fun h => kf h G p l e s m args below meth c H locs rls C D)
def DFle (M : Mth) (pc tgt nx : Nat) : Prop := ∃ off : Int, decode (mC M) pc = .ok (.ifCond .le off, 3) ∧ (pc : Int) + off = (tgt : Int) ∧ pc + 3 = nx
theorem w_ifle {tgt : Nat} {x : Int32} (hd : DFle M pc tgt nx) (kt : x ≤ 0 → MW M j tgt ls st ρ Q) (kf : ¬ x ≤ 0 → MW M j nx ls st ρ Q) : MW M j pc ls (.int x :: st) ρ Q := by
  obtain ⟨off, hd, ht, rfl⟩ := hd
  exact fun G p l e s m args below meth c H locs rls C D => lv_if_le C.1 C.2.1 hd ht (fun h => kt h G p l e s m args below meth c H locs rls C D) (fun h => kf h G p l e s m args below meth c H locs rls C D)
def DCle (M : Mth) (pc tgt nx : Nat) : Prop := ∃ off : Int, decode (mC M) pc = .ok (.if_icmp .le off, 3) ∧ (pc : Int) + off = (tgt : Int) ∧ pc + 3 = nx
theorem w_icle {tgt : Nat} {x y : Int32} (hd : DCle M pc tgt nx) (kt : x ≤ y → MW M j tgt ls st ρ Q) (kf : ¬ x ≤ y → MW M j nx ls st ρ Q) : MW M j pc ls (.int y :: .int x :: st) ρ Q := by
  obtain ⟨off, hd, ht, rfl⟩ := hd
  exact fun G p l e s m args below meth c H locs rls C D => lv_icmp_le C.1 C.2.1 hd ht (fun h => kt h G p l e s m args below meth c H locs rls C D) (fun h => kf h G p l e s m args below meth c H locs rls C D)
def DG (M : Mth) (pc tgt : Nat) : Prop := ∃ off : Int, decode (mC M) pc = .ok (.goto off, 3) ∧ (pc : Int) + off = (tgt : Int)
theorem w_goto {tgt : Nat} (hd : DG M pc tgt) (k : MW M j tgt ls st ρ Q) : MW M j pc ls st ρ Q := by
  obtain ⟨off, hd, ht⟩ := hd
  exact fun G p l e s m args below meth c H locs rls C D => lv_goto C.1 C.2.1 hd ht (k G p l e s m args below meth c H locs rls C D)
theorem w_tin {dflt lo hi : Int} {offs : Array Int} {len tgt : Nat} {x : Int32} {off : Int} (hd : decode (mC M) pc = .ok (.tableswitch dflt lo hi offs, len)) (h1 : ¬ x.toInt < lo) (h2 : ¬ hi < x.toInt) (ho : offs[(x.toInt - lo).toNat]? = some off) (ht : (pc : Int) + off = (tgt : Int)) (k : MW M j tgt ls st ρ Q) : MW M j pc ls (.int x :: st) ρ Q := 
  fun G p l e s m args below meth c H locs rls C D => lv_tableIn C.1 C.2.1 hd h1 h2 ho ht (k G p l e s m args below meth c H locs rls C D)
theorem w_tout {dflt lo hi : Int} {offs : Array Int} {len tgt : Nat} {x : Int32} (hd : decode (mC M) pc = .ok (.tableswitch dflt lo hi offs, len)) (h : x.toInt < lo ∨ hi < x.toInt) (ht : (pc : Int) + dflt = (tgt : Int)) (k : MW M j tgt ls st ρ Q) : MW M j pc ls (.int x :: st) ρ Q := 
  fun G p l e s m args below meth c H locs rls C D => lv_tableOut C.1 C.2.1 hd h ht (k G p l e s m args below meth c H locs rls C D)
theorem w_lkp {dflt : Int} {ps : Array (Int × Int)} {len tgt : Nat} {x : Int32} {off : Int} (hd : decode (mC M) pc = .ok (.lookupswitch dflt ps, len)) (hp : (ps.toList.zip (ps.toList.drop 1)).all (fun (a, next) => a.1 < next.1) = true) (ho : Op.lookupswitch.offset ps.toList dflt x.toInt = off) (ht : (pc : Int) + off = (tgt : Int)) (k : MW M j tgt ls st ρ Q) : MW M j pc ls (.int x :: st) ρ Q := 
  fun G p l e s m args below meth c H locs rls C D => lv_lookup C.1 C.2.1 hd hp ho ht (k G p l e s m args below meth c H locs rls C D)
def Sh (k : Nat) (s : (Nat × Nat) ⊕ (Nat × List Nat)) : Prop := k < NC ∧ shp k = s
def FLk (own : String) (idx ci slot : Nat) : Prop := ∃ (C : String) (T : u_T) (N : Nat), CL[ci]? = some (C, T, N) ∧ slot < N ∧ Cond.fieldLink own idx (T slot).1 (T slot).2.1 (T slot).2.2.1 ∈ BT ∧ ∀ w ∈ u_ws C T N, w ∈ BT
def FPk (own : String) (idx ci slot : Nat) (ty : FieldType) : Prop := ∃ (C : String) (T : u_T) (N : Nat) (ty0 : Nat → FieldType), CL[ci]? = some (C, T, N) ∧ slot < N ∧ Cond.fieldLink own idx (T slot).1 (T slot).2.1 (T slot).2.2.1 ∈ BT ∧ (∀ w ∈ u_ws C T N, w ∈ BT) ∧ (∀ k, k < N → parseFieldDescriptor (T k).2.2.1 = some (ty0 k)) ∧ (∀ a, a < N → ∀ b, b < N → a ≠ b → (T a).2.1 ≠ (T b).2.1) ∧ (T slot).2.2.2 = false ∧ parseFieldDescriptor (T slot).2.2.1 = some ty
theorem ce_obj {G : Wd} {q ci : Nat} {fs : List Nat} (h : Sh q (.inr (ci, fs))) : (wsO G ρ)[q]? = some (G.2.1 q, .inr (ci, fvs G ρ q 0 fs)) := by
  rw [wsO_at h.1]
  simp [ce, h.2]
theorem ce_ai {G : Wd} {q n : Nat} (h : Sh q (.inl (0, n))) : (wsO G ρ)[q]? = some (G.2.1 q, .inl (G.2.2 0, n, .inl (ρ.1 q))) := by
  rw [wsO_at h.1]
  simp [ce, h.2, arrOf]
theorem ce_al {G : Wd} {q n : Nat} (h : Sh q (.inl (1, n))) : (wsO G ρ)[q]? = some (G.2.1 q, .inl (G.2.2 1, n, .inr (.inl (ρ.2 q)))) := by
  rw [wsO_at h.1]
  simp [ce, h.2, arrOf]
theorem ce_az {G : Wd} {q n : Nat} (h : Sh q (.inl (2, n))) : (wsO G ρ)[q]? = some (G.2.1 q, .inl (G.2.2 2, n, .inl (ρ.1 q))) := by
  rw [wsO_at h.1]
  simp [ce, h.2, arrOf]
theorem ce_ar {G : Wd} {q b n : Nat} (h : Sh q (.inl (b + 3, n))) : (wsO G ρ)[q]? = some (G.2.1 q, .inl (G.2.2 3, n, .inr (.inr (.inr (.inr (fun i => some (G.2.1 (b + i)))))))) := by
  rw [wsO_at h.1]
  simp [ce, h.2, arrOf]
theorem w_get {q idx ci slot f : Nat} {fs : List Nat} {v : Value} (hd : D0 M pc (.getfield idx) 3 nx) (hf : FLk (mO M) idx ci slot) (hs : Sh q (.inr (ci, fs))) (hk : fs[slot]? = some f) (hv : ∀ G : Wd, fv G ρ q slot f = rv G v) (k : MW M j nx ls (v :: st) ρ Q) : MW M j pc ls (.ref q :: st) ρ Q := by
  obtain ⟨hd, rfl⟩ := hd
  obtain ⟨Cn, T, N, h1, h2, h3, h4⟩ := hf
  exact fun G p l e s m args below meth c H locs rls C D => va_get (v := rv G v) C.1 C.2.1 C.2.2.2.2.2.1 h4 C.2.2.2.2.1 C.2.2.2.2.2.2.2.1 D.1 q (ce_obj hs) h1 slot h2 (C.2.2.2.2.2.1 _ h3) (fun _ h => h) (by rw [fvs_get fs 0 slot f hk, Nat.zero_add, hv G]) hd (k G p l e s m args below meth c H locs rls C D)
theorem w_gi {q idx ci slot : Nat} {fs : List Nat} (hd : D0 M pc (.getfield idx) 3 nx) (hf : FLk (mO M) idx ci slot) (hs : Sh q (.inr (ci, fs))) (hk : fs[slot]? = some 0) (k : MW M j nx ls (.int (ρ.1 q slot) :: st) ρ Q) : MW M j pc ls (.ref q :: st) ρ Q := w_get hd hf hs hk (fun _ => rfl) k
theorem w_gl {q idx ci slot : Nat} {fs : List Nat} (hd : D0 M pc (.getfield idx) 3 nx) (hf : FLk (mO M) idx ci slot) (hs : Sh q (.inr (ci, fs))) (hk : fs[slot]? = some 1) (k : MW M j nx ls (.long (ρ.2 q slot) :: st) ρ Q) : MW M j pc ls (.ref q :: st) ρ Q := w_get hd hf hs hk (fun _ => rfl) k
theorem w_gr {q idx ci slot n : Nat} {fs : List Nat} (hd : D0 M pc (.getfield idx) 3 nx) (hf : FLk (mO M) idx ci slot) (hs : Sh q (.inr (ci, fs))) (hk : fs[slot]? = some (n + 2)) (k : MW M j nx ls (.ref n :: st) ρ Q) : MW M j pc ls (.ref q :: st) ρ Q := w_get hd hf hs hk (fun _ => rfl) k
theorem w_pi {q idx ci slot : Nat} {fs : List Nat} {x : Int32} {ty : FieldType} (hd : D0 M pc (.putfield idx) 3 nx) (hf : FPk (mO M) idx ci slot ty) (hs : Sh q (.inr (ci, fs))) (hk : fs[slot]? = some 0) (hn : narrow ty (.int x) = .int x) (hfit : fits ty (.int x) = true) (k : MW M j nx ls st (wI ρ q slot x) Q) : MW M j pc ls (.int x :: .ref q :: st) ρ Q := by
  obtain ⟨hd, rfl⟩ := hd
  obtain ⟨Cn, T, N, ty0, h1, h2, h3, h4, h5, h6, h7, h8⟩ := hf
  exact fun G p l e s m args below meth c H locs rls C D => by
    refine va_put C.1 C.2.1 C.2.2.2.2.2.1 h4 ty0 h5 h6 C.2.2.2.2.1 C.2.2.2.2.2.2.2.1 D.1 (wsO_D C.2.2.2.2.2.2.2.2.1 ρ) D.2.1 q (ce_obj hs) h1 slot h2 (C.2.2.2.2.2.1 _ h3) (fun _ h => h) h7 h8 hn hfit (by rw [fvs_len]; exact (List.getElem?_eq_some_iff.mp hk).1) hd (fun H1 locs1 hP1 hD1 hS1 => ?_)
    have hP1 : va_P G.1 CL ((wsO G ρ).set q (G.2.1 q, .inr (ci, (fvs G ρ q 0 fs).set slot (.int x)))) H1 := hP1
    rw [wsO_set (G := G) (ρ := ρ) (ρ' := wI ρ q slot x) hs.1 (by simp only [ce, hs.2]; rw [fvs_setI fs 0 slot hk, Nat.zero_add]) (fun a ha => ce_congr (wI_ne ha) rfl)] at hP1
    exact k G p l e s m args below meth c H1 locs1 rls C ⟨hP1, hS1, D.2.2⟩
theorem w_pl {q idx ci slot : Nat} {fs : List Nat} {x : Int64} (hd : D0 M pc (.putfield idx) 3 nx) (hf : FPk (mO M) idx ci slot .long) (hs : Sh q (.inr (ci, fs))) (hk : fs[slot]? = some 1) (k : MW M j nx ls st (wL ρ q slot x) Q) : MW M j pc ls (.long x :: .ref q :: st) ρ Q := by
  obtain ⟨hd, rfl⟩ := hd
  obtain ⟨Cn, T, N, ty0, h1, h2, h3, h4, h5, h6, h7, h8⟩ := hf
  exact fun G p l e s m args below meth c H locs rls C D => by
    refine va_put C.1 C.2.1 C.2.2.2.2.2.1 h4 ty0 h5 h6 C.2.2.2.2.1 C.2.2.2.2.2.2.2.1 D.1 (wsO_D C.2.2.2.2.2.2.2.2.1 ρ) D.2.1 q (ce_obj hs) h1 slot h2 (C.2.2.2.2.2.1 _ h3) (fun _ h => h) h7 h8 rfl rfl (by rw [fvs_len]; exact (List.getElem?_eq_some_iff.mp hk).1) hd (fun H1 locs1 hP1 hD1 hS1 => ?_)
    have hP1 : va_P G.1 CL ((wsO G ρ).set q (G.2.1 q, .inr (ci, (fvs G ρ q 0 fs).set slot (.long x)))) H1 := hP1
    rw [wsO_set (G := G) (ρ := ρ) (ρ' := wL ρ q slot x) hs.1 (by simp only [ce, hs.2]; rw [fvs_setL fs 0 slot hk, Nat.zero_add]) (fun a ha => ce_congr rfl (wL_ne ha))] at hP1
    exact k G p l e s m args below meth c H1 locs1 rls C ⟨hP1, hS1, D.2.2⟩
theorem w_iald {q n : Nat} {i : Int32} (hd : D0 M pc .iaload 1 nx) (hs : Sh q (.inl (0, n))) (hin : vp_in i n) (k : MW M j nx ls (.int (ρ.1 q i.toNatClampNeg) :: st) ρ Q) : MW M j pc ls (.int i :: .ref q :: st) ρ Q := by
  obtain ⟨hd, rfl⟩ := hd
  exact fun G p l e s m args below meth c H locs rls C D => va_iald C.1 C.2.1 C.2.2.2.2.2.2.2.1 D.1 q 0 (ce_ai hs) rfl hin hd (k G p l e s m args below meth c H locs rls C D)
theorem w_lald {q n : Nat} {i : Int32} (hd : D0 M pc .laload 1 nx) (hs : Sh q (.inl (1, n))) (hin : vp_in i n) (k : MW M j nx ls (.long (ρ.2 q i.toNatClampNeg) :: st) ρ Q) : MW M j pc ls (.int i :: .ref q :: st) ρ Q := by
  obtain ⟨hd, rfl⟩ := hd
  exact fun G p l e s m args below meth c H locs rls C D => va_lald C.1 C.2.1 C.2.2.2.2.2.2.2.1 D.1 q 1 (ce_al hs) rfl hin hd (k G p l e s m args below meth c H locs rls C D)
theorem w_zald {q n : Nat} {i : Int32} (hd : D0 M pc .baload 1 nx) (hs : Sh q (.inl (2, n))) (hin : vp_in i n) (k : MW M j nx ls (.int (ρ.1 q i.toNatClampNeg) :: st) ρ Q) : MW M j pc ls (.int i :: .ref q :: st) ρ Q := by
  obtain ⟨hd, rfl⟩ := hd
  exact fun G p l e s m args below meth c H locs rls C D => va_zald C.1 C.2.1 C.2.2.2.2.2.2.2.1 D.1 q 2 (ce_az hs) rfl hin hd (k G p l e s m args below meth c H locs rls C D)
theorem w_aald {q b n : Nat} {i : Int32} (hd : D0 M pc .aaload 1 nx) (hs : Sh q (.inl (b + 3, n))) (hin : vp_in i n) (k : MW M j nx ls (.ref (b + i.toNatClampNeg) :: st) ρ Q) : MW M j pc ls (.int i :: .ref q :: st) ρ Q := by
  obtain ⟨hd, rfl⟩ := hd
  exact fun G p l e s m args below meth c H locs rls C D => va_aldq C.1 C.2.1 C.2.2.2.2.2.2.2.1 D.1 q 3 (ce_ar hs) rfl hin hd (k G p l e s m args below meth c H locs rls C D)
theorem w_alen {q n : Nat} (hd : D0 M pc .arraylength 1 nx) (hs : Sh q (.inl (0, n))) (k : MW M j nx ls (.int (nI n) :: st) ρ Q) : MW M j pc ls (.ref q :: st) ρ Q := by
  obtain ⟨hd, rfl⟩ := hd
  exact fun G p l e s m args below meth c H locs rls C D => va_alen C.1 C.2.1 C.2.2.2.2.2.2.2.1 D.1 q 0 (ce_ai hs) rfl rfl hd (k G p l e s m args below meth c H locs rls C D)
theorem w_alenL {q n : Nat} (hd : D0 M pc .arraylength 1 nx) (hs : Sh q (.inl (1, n))) (k : MW M j nx ls (.int (nI n) :: st) ρ Q) : MW M j pc ls (.ref q :: st) ρ Q := by
  obtain ⟨hd, rfl⟩ := hd
  exact fun G p l e s m args below meth c H locs rls C D => va_alen C.1 C.2.1 C.2.2.2.2.2.2.2.1 D.1 q 1 (ce_al hs) rfl rfl hd (k G p l e s m args below meth c H locs rls C D)
theorem w_iast {q n : Nat} {i x : Int32} (hd : D0 M pc .iastore 1 nx) (hs : Sh q (.inl (0, n))) (hin : vp_in i n) (k : MW M j nx ls st (wI ρ q i.toNatClampNeg x) Q) : MW M j pc ls (.int x :: .int i :: .ref q :: st) ρ Q := by
  obtain ⟨hd, rfl⟩ := hd
  exact fun G p l e s m args below meth c H locs rls C D => by
    refine va_iast C.1 C.2.1 C.2.2.2.2.2.2.2.1 D.1 (wsO_D C.2.2.2.2.2.2.2.2.1 ρ) D.2.1 q 0 (ce_ai hs) rfl hin hd (fun H1 locs1 hP1 hD1 hS1 => ?_)
    rw [wsO_set (G := G) (ρ := ρ) (ρ' := wI ρ q i.toNatClampNeg x) hs.1 (by simp only [ce, hs.2, arrOf, wI_upd]) (fun a ha => ce_congr (wI_ne ha) rfl)] at hP1
    exact k G p l e s m args below meth c H1 locs1 rls C ⟨hP1, hS1, D.2.2⟩
theorem w_zast {q n : Nat} {i x : Int32} (hd : D0 M pc .bastore 1 nx) (hs : Sh q (.inl (2, n))) (hin : vp_in i n) (hx : vp_nar .boolean x = x) (k : MW M j nx ls st (wI ρ q i.toNatClampNeg x) Q) : MW M j pc ls (.int x :: .int i :: .ref q :: st) ρ Q := by
  obtain ⟨hd, rfl⟩ := hd
  exact fun G p l e s m args below meth c H locs rls C D => by
    refine va_zast C.1 C.2.1 C.2.2.2.2.2.2.2.1 D.1 (wsO_D C.2.2.2.2.2.2.2.2.1 ρ) D.2.1 q 2 (ce_az hs) rfl hin hd (fun H1 locs1 hP1 hD1 hS1 => ?_)
    rw [wsO_set (G := G) (ρ := ρ) (ρ' := wI ρ q i.toNatClampNeg x) hs.1 (by simp only [ce, hs.2, arrOf, wI_upd, hx]) (fun a ha => ce_congr (wI_ne ha) rfl)] at hP1
    exact k G p l e s m args below meth c H1 locs1 rls C ⟨hP1, hS1, D.2.2⟩
theorem w_last {q n : Nat} {i : Int32} {x : Int64} (hd : D0 M pc .lastore 1 nx) (hs : Sh q (.inl (1, n))) (hin : vp_in i n) (k : MW M j nx ls st (wL ρ q i.toNatClampNeg x) Q) : MW M j pc ls (.long x :: .int i :: .ref q :: st) ρ Q := by
  obtain ⟨hd, rfl⟩ := hd
  exact fun G p l e s m args below meth c H locs rls C D => by
    refine va_last C.1 C.2.1 C.2.2.2.2.2.2.2.1 D.1 (wsO_D C.2.2.2.2.2.2.2.2.1 ρ) D.2.1 q 1 (ce_al hs) rfl hin hd (fun H1 locs1 hP1 hD1 hS1 => ?_)
    rw [wsO_set (G := G) (ρ := ρ) (ρ' := wL ρ q i.toNatClampNeg x) hs.1 (by simp only [ce, hs.2, arrOf, wL_upd]) (fun a ha => ce_congr rfl (wL_ne ha))] at hP1
    exact k G p l e s m args below meth c H1 locs1 rls C ⟨hP1, hS1, D.2.2⟩
theorem w_iret {x : Int32} (hd : D0 M pc .ireturn 1 nx) (hr : mR M = some .int) (q : Q (some (.int x)) ρ) : MW M j pc ls [.int x] ρ Q := fun G p l e s m args below meth c H locs rls C D => W.iret C.1 C.2.1 (C.2.2.2.1.trans hr) (fun t ht hW => ⟨⟨_, ρ, rfl, q, by rw [ht]; exact D.1⟩, D.2.1.F ht⟩) D.2.1.2.2 hd.1 C.2.2.2.2.2.2.1
theorem w_zret {x : Int32} (hd : D0 M pc .ireturn 1 nx) (hr : mR M = some .boolean) (hx : narrow .boolean (.int x) = .int x) (q : Q (some (.int x)) ρ) : MW M j pc ls [.int x] ρ Q := fun G p l e s m args below meth c H locs rls C D => W.zret C.1 C.2.1 (C.2.2.2.1.trans hr) hx (fun t ht hW => ⟨⟨_, ρ, rfl, q, by rw [ht]; exact D.1⟩, D.2.1.F ht⟩) D.2.1.2.2 hd.1 C.2.2.2.2.2.2.1
theorem w_lret {x : Int64} (hd : D0 M pc .lreturn 1 nx) (hr : mR M = some .long) (q : Q (some (.long x)) ρ) : MW M j pc ls [.long x] ρ Q := fun G p l e s m args below meth c H locs rls C D => W.lret C.1 C.2.1 (C.2.2.2.1.trans hr) (fun t ht hW => ⟨⟨_, ρ, rfl, q, by rw [ht]; exact D.1⟩, D.2.1.F ht⟩) D.2.1.2.2 hd.1 C.2.2.2.2.2.2.1
theorem w_ret (hd : D0 M pc .return_ 1 nx) (hr : mR M = none) (q : Q none ρ) : MW M j pc ls [] ρ Q := fun G p l e s m args below meth c H locs rls C D => W.vret C.1 C.2.1 (C.2.2.2.1.trans hr) (fun t ht hW => ⟨⟨none, ρ, rfl, q, by rw [ht]; exact D.1⟩, D.2.1.F ht⟩) D.2.1.2.2 hd.1 C.2.2.2.2.2.2.1
def lsub : List (Option Value) → List (Option Value) → Prop
  | [], _ => True
  | _ :: _, [] => False
  | none :: a, _ :: b => lsub a b
  | some v :: a, w :: b => w = some v ∧ lsub a b
theorem lsub_lg : ∀ (a b : List (Option Value)), lsub a b → ∀ i v, lg a i = some v → lg b i = some v
  | [], _, _, i, v, h => by simp [lg] at h
  | _ :: _, [], hs, _, _, _ => hs.elim
  | none :: a, _ :: b, hs, 0, v, h => by simp [lg] at h
  | none :: a, _ :: b, hs, i + 1, v, h => lsub_lg a b hs i v h
  | some u :: a, w :: b, hs, 0, v, h => by simp only [lg] at h ⊢; rw [hs.1]; exact h
  | some u :: a, w :: b, hs, i + 1, v, h => lsub_lg a b hs.2 i v h
theorem w_weak {ls2 : List (Option Value)} (h : lsub ls2 ls) (k : MW M j pc ls2 st ρ Q) : MW M j pc ls st ρ Q := fun G p l e s m args below meth c H locs rls C D => by
    obtain ⟨hP, hS, lv, h1, h2⟩ := D
    exact k G p l e s m args below meth c H locs rls C ⟨hP, hS, lv, h1, fun i v hi => h2 i v (lsub_lg _ _ h i v hi)⟩
theorem w_mono {Q2 : Option Value → Rho → Prop} (h : ∀ r ρ, Q r ρ → Q2 r ρ) (k : MW M j pc ls st ρ Q) : MW M j pc ls st ρ Q2 := fun G p l e s m args below meth c H locs rls C D => by
    intro T hT X
    obtain ⟨t, a, o, b1, b2, b3, b4⟩ := k G p l e s m args below meth c H locs rls C D T hT X
    exact ⟨t, a, o, b1, b2, QC_mono h b3, b4⟩
theorem w_run {i : Nat} {as rest : List Value} {st0 : List Value} {Q2 : Option Value → Rho → Prop} {G : Wd} {p : Program} {l : Launch} {e : Env} {s : State} {m : MethodId} {args a : Array Value} {below : List Frame} {meth : Method} {c : Code} {H : Heap} {locs : List Loc} {rls : Array Slot} (C : Cx M G p s m args meth c) (D : Dy M G ρ s H locs rls ls)
    (hr : va_Run p l e (rmL j) s m args below meth c H locs 0 0 0 0 (F0 m pc rls st0) (rest.map (rv G)) (QC G Q2 a) (AG G)) (k : ∀ r ρ2, Q2 r ρ2 → MW M j (pc + 3) ls (r.toList ++ rest) ρ2 Q) : W p l e (rmL j) s m args below meth c H locs 0 0 (MQ below (QC G Q) args s 0 0 (AG G)) (F0 m pc rls st0) := by
  intro T hT X
  obtain ⟨v, st₀, t, T', L, h0, X', hL, e1, e2, ⟨⟨r, ρ2, hv, hQ, hP2⟩, hF⟩, go⟩ := hr T hT X
  have hv : v = r.map (rv G) := by cases hv; rfl
  subst hv
  have hS2 : va_S (AG G) s.heap T'.heap (locs ++ L) := ⟨Nat.le_trans D.2.1.1 (by rw [e1, ← h0]; exact hF.1), fun q h1 h2 => by rw [e1, hF.2 q (by rw [h0]; exact Nat.lt_of_lt_of_le h1 D.2.1.1) h2, h0]; exact D.2.1.2.1 q h1 h2, fun q hq => (List.mem_append.mp hq).elim (D.2.1.2.2 q) (hL q)⟩
  obtain ⟨t2, a1, b1⟩ := k r ρ2 hQ G p l e s m args below meth c T'.heap (locs ++ L) rls C ⟨by rw [e1]; exact hP2, hS2, D.2.2⟩ T' rfl X'
  refine ⟨t2, go t2 ?_, b1⟩
  cases r with
  | none => exact a1
  | some r => exact a1
theorem cat_rv {G : Wd} (rest : List Value) : ((rest.map (rv G)).map fun v => v.category) = rest.map fun v => v.category := by
  simp [List.map_map, Function.comp_def, rv_cat]
def SLk (M M2 : Mth) (idx n : Nat) : Prop := Cond.methodLink (mO M) idx (mY M2) ∈ BT ∧ Cond.static (mY M2) ∈ BT ∧ Cond.initialized (mY M2).cls ∈ BT ∧ Cond.code (mY M2) (mC M2) (mN M2) (mR M2) ∈ BT ∧ ((mY M2).cls ≠ "java/lang/invoke/MethodHandle" ∧ (mY M2).cls ≠ "java/lang/invoke/VarHandle") ∧ (parseMethodDescriptor (mY M2).desc).map (fun d => d.parameters.length) = some n ∧ mN M2 ≤ 21
def VLk (M M2 : Mth) (idx ci n : Nat) : Prop := Cond.methodLink (mO M) idx (mY M2) ∈ BT ∧ Cond.instanceMethod (mY M2) ∈ BT ∧ Cond.selects (mY M2).cls (mY M2) (mY M2) ∈ BT ∧ Cond.initialized (mY M2).cls ∈ BT ∧ Cond.code (mY M2) (mC M2) (mN M2) (mR M2) ∈ BT ∧ ((mY M2).cls ≠ "java/lang/invoke/MethodHandle" ∧ (mY M2).cls ≠ "java/lang/invoke/VarHandle") ∧ (parseMethodDescriptor (mY M2).desc).map (fun d => d.parameters.length) = some n ∧ mN M2 ≤ 21 ∧ ∃ T N, CL[ci]? = some ((mY M2).cls, T, N)
theorem rm_ok {i : Nat} (h : i < j) : (rmL i).frames + 1 ≤ (rmL j).frames := h
theorem rm_lo {i n : Nat} (h : i < j) (hn : n ≤ 21) : 8 + (n + 11) + (rmL i).locals ≤ (rmL j).locals := by
  show 8 + (n + 11) + 40 * i ≤ 40 * j
  omega
theorem len_of {d : String} {n : Nat} (h : (parseMethodDescriptor d).map (fun d => d.parameters.length) = some n) : ∀ sig, parseMethodDescriptor d = some sig → n = sig.parameters.length := fun sig hs => by
  rw [hs] at h
  exact (Option.some.inj h).symm
theorem PC_at {G : Wd} {as : List Value} {p : Program} {s : State} {m : MethodId} {args : Array Value} {meth : Method} {c : Code} {H : Heap} {locs : List Loc} {rls : Array Slot} (C : Cx M G p s m args meth c) (D : Dy M G ρ s H locs rls ls) : ∀ U : State, U.heap = H → s.WarmedH U.vm → PC G as ρ (as.map (rv G)).toArray U := fun U hU hW =>
  ⟨rfl, va_K.moved hW.alike C.2.2.2.2.2.2.2.1, by rw [hU]; exact D.1, va_Nw.warmM hW C.2.2.2.2.2.2.2.2.2⟩
theorem rls_size {G : Wd} {s : State} {H : Heap} {locs : List Loc} {rls : Array Slot} (D : Dy M G ρ s H locs rls ls) : rls.size = mN M := by
  obtain ⟨-, -, lv, h1, -⟩ := D
  exact h1.1
theorem w_cS {M2 : Mth} {idx n i : Nat} {as rest stk : List Value} {Q2 : Option Value → Rho → Prop} (hd : D0 M pc (.invokestatic idx) 3 nx) (hl : SLk M M2 idx n) (hi : i < j) (hC : CallOK i M2 as ρ Q2) (hn : as.length = n) (hs : stk = as.reverse ++ rest) (hw : (rest.map fun v => v.category).sum ≤ 8) (k : ∀ r ρ2, Q2 r ρ2 → MW M j nx ls (r.toList ++ rest) ρ2 Q) : MW M j pc ls stk ρ Q := by
  subst hs
  obtain ⟨hd, rfl⟩ := hd
  obtain ⟨l1, l2, l3, l4, l5, l6, l7⟩ := hl
  exact fun G p l e s m args below meth c H locs rls C D => by
    have B := C.2.2.2.2.2.1
    rw [List.map_append, List.map_reverse]
    exact w_run (i := i) (as := as) C D (va_runS (n := n) (As := as.map (rv G)) ⟨C.1, C.2.1, C.2.2.1, C.2.2.2.2.1, B⟩ (hC l G C.2.2.2.2.2.2.2.2.1) ⟨⟨rfl, rfl, rm_ok hi, rm_lo hi l7, pay_in B (goodBT l4), List.mem_cons_self, B _ l4, B _ l3, l5, len_of l6, B _ l1⟩, B _ l2⟩ ⟨PC_blind G as ρ, PC_at C D⟩ rfl (by rw [List.length_map]; exact hn) (rls_size D) rfl (lv_room (by rw [cat_rv]; exact hw)) hd ⟨Nat.le_refl _, Nat.le_refl _⟩) k
theorem w_cSN {n i : Nat} {as rest stk : List Value} {Q2 : Option Value → Rho → Prop} {M2 : Mth} (hO : mO M = "TurningVillage$Land") (hY : mY M2 = yX7_within) (hd : D0 M pc (.invokestatic 81) 3 nx) (l2 : Cond.static (mY M2) ∈ BT) (l3 : Cond.initialized (mY M2).cls ∈ BT) (l4 : Cond.code (mY M2) (mC M2) (mN M2) (mR M2) ∈ BT) (l6 : (parseMethodDescriptor (mY M2).desc).map (fun d => d.parameters.length) = some n) (l7 : mN M2 ≤ 21) (l5 : (mY M2).cls ≠ "java/lang/invoke/MethodHandle" ∧ (mY M2).cls ≠ "java/lang/invoke/VarHandle") (hi : i < j) (hC : CallOK i M2 as ρ Q2) (hn : as.length = n) (hs : stk = as.reverse ++ rest) (hw : (rest.map fun v => v.category).sum ≤ 8) (k : ∀ r ρ2, Q2 r ρ2 → MW M j nx ls (r.toList ++ rest) ρ2 Q) : MW M j pc ls stk ρ Q := by
  subst hs
  obtain ⟨hd, rfl⟩ := hd
  exact fun G p l e s m args below meth c H locs rls C D => by
    have B := C.2.2.2.2.2.1
    have hN : va_Nw (.methodLinkNest (mO M) 81 (mY M2) "TurningVillage") s := by rw [hO, hY]; exact C.2.2.2.2.2.2.2.2.2
    rw [List.map_append, List.map_reverse]
    exact w_run (i := i) (as := as) C D (va_runSN (n := n) (As := as.map (rv G)) ⟨C.1, C.2.1, C.2.2.1, C.2.2.2.2.1, B⟩ (hC l G C.2.2.2.2.2.2.2.2.1) ⟨va_cnB n B (goodBT l4) rfl rfl rfl hN (B _ l3) ⟨l5.1, l5.2, l6⟩ ⟨rm_ok hi, rm_lo hi l7⟩, B _ l2, trivial⟩ ⟨PC_blind G as ρ, PC_at C D⟩ rfl (by rw [List.length_map]; exact hn) (rls_size D) rfl (lv_room (by rw [cat_rv]; exact hw)) hd ⟨Nat.le_refl _, Nat.le_refl _⟩) k
theorem w_cV {M2 : Mth} {idx ci n i q : Nat} {fs : List Nat} {as rest stk : List Value} {Q2 : Option Value → Rho → Prop} (hd : D0 M pc (.invokevirtual idx) 3 nx) (hl : VLk M M2 idx ci n) (hq : Sh q (.inr (ci, fs))) (hi : i < j) (hC : CallOK i M2 (.ref q :: as) ρ Q2) (hn : as.length = n) (hs : stk = as.reverse ++ .ref q :: rest) (hw : (rest.map fun v => v.category).sum ≤ 8) (k : ∀ r ρ2, Q2 r ρ2 → MW M j nx ls (r.toList ++ rest) ρ2 Q) : MW M j pc ls stk ρ Q := by
  subst hs
  obtain ⟨hd, rfl⟩ := hd
  obtain ⟨l1, l2, l3, l4, l5, l6, l7, l8, T, N, l9⟩ := hl
  exact fun G p l e s m args below meth c H locs rls C D => by
    have B := C.2.2.2.2.2.1
    rw [List.map_append, List.map_reverse]
    exact w_run (i := i) (as := as) C D (va_runV (n := n) (b := G.2.1 q) (As := as.map (rv G)) ⟨C.1, C.2.1, C.2.2.1, C.2.2.2.2.1, B⟩ (hC l G C.2.2.2.2.2.2.2.2.1) ⟨⟨rfl, rfl, rm_ok hi, rm_lo hi l8, pay_in B (goodBT l5), List.mem_cons_self, B _ l5, B _ l4, l6, len_of l7, B _ l1⟩, B _ l2, B _ l3⟩ ⟨PC_blind G _ ρ, va_recv C.2.2.2.2.2.2.2.1 D.1 l9 (ce_obj hq), PC_at C D⟩ rfl (by rw [List.length_map]; exact hn) (rls_size D) rfl (lv_room (by rw [cat_rv]; exact hw)) hd ⟨Nat.le_refl _, Nat.le_refl _⟩) k
theorem CallOK.mono {M2 : Mth} {i : Nat} {as : List Value} {Q2 Q3 : Option Value → Rho → Prop} (h : CallOK i M2 as ρ Q2) (hq : ∀ r ρ2, Q2 r ρ2 → Q3 r ρ2) : CallOK i M2 as ρ Q3 := by
  intro l G hG p e ha hc hk s m args below hf h1 h2 h3
  obtain ⟨k, o, a1, a2, a3, a4, a5⟩ := h l G hG p e ha hc hk s m args below hf h1 h2 h3
  exact ⟨k, o, a1, a2, a3, QC_mono hq a4, a5⟩
theorem w_cSf {M2 : Mth} {idx n i : Nat} {as rest stk : List Value} {v : Value} {ρ1 : Rho} (hd : D0 M pc (.invokestatic idx) 3 nx) (hl : SLk M M2 idx n) (hi : i < j) (hC : CallOK i M2 as ρ (fun r ρ2 => r = some v ∧ ρ2 = ρ1)) (hn : as.length = n) (hs : stk = as.reverse ++ rest) (hw : (rest.map fun v => v.category).sum ≤ 8) (k : MW M j nx ls (v :: rest) ρ1 Q) : MW M j pc ls stk ρ Q := w_cS hd hl hi hC hn hs hw (fun r ρ2 h => by obtain ⟨rfl, rfl⟩ := h; exact k)
theorem w_cSv {M2 : Mth} {idx n i : Nat} {as rest stk : List Value} {ρ1 : Rho} (hd : D0 M pc (.invokestatic idx) 3 nx) (hl : SLk M M2 idx n) (hi : i < j) (hC : CallOK i M2 as ρ (fun r ρ2 => r = none ∧ ρ2 = ρ1)) (hn : as.length = n) (hs : stk = as.reverse ++ rest) (hw : (rest.map fun v => v.category).sum ≤ 8) (k : MW M j nx ls rest ρ1 Q) : MW M j pc ls stk ρ Q := w_cS hd hl hi hC hn hs hw (fun r ρ2 h => by obtain ⟨rfl, rfl⟩ := h; exact k)
theorem w_cSr {M2 : Mth} {idx n i : Nat} {as rest stk : List Value} {B : Value → Rho → Prop} (hd : D0 M pc (.invokestatic idx) 3 nx) (hl : SLk M M2 idx n) (hi : i < j) (hC : CallOK i M2 as ρ (fun r ρ2 => ∃ v, r = some v ∧ B v ρ2)) (hn : as.length = n) (hs : stk = as.reverse ++ rest) (hw : (rest.map fun v => v.category).sum ≤ 8) (k : ∀ v ρ2, B v ρ2 → MW M j nx ls (v :: rest) ρ2 Q) : MW M j pc ls stk ρ Q := w_cS hd hl hi hC hn hs hw (fun r ρ2 h => by obtain ⟨v, rfl, h⟩ := h; exact k v ρ2 h)
theorem w_cSu {M2 : Mth} {idx n i : Nat} {as rest stk : List Value} {B : Rho → Prop} (hd : D0 M pc (.invokestatic idx) 3 nx) (hl : SLk M M2 idx n) (hi : i < j) (hC : CallOK i M2 as ρ (fun r ρ2 => r = none ∧ B ρ2)) (hn : as.length = n) (hs : stk = as.reverse ++ rest) (hw : (rest.map fun v => v.category).sum ≤ 8) (k : ∀ ρ2, B ρ2 → MW M j nx ls rest ρ2 Q) : MW M j pc ls stk ρ Q := w_cS hd hl hi hC hn hs hw (fun r ρ2 h => by obtain ⟨rfl, h⟩ := h; exact k ρ2 h)
theorem w_cVf {M2 : Mth} {idx ci n i q : Nat} {fs : List Nat} {as rest stk : List Value} {v : Value} {ρ1 : Rho} (hd : D0 M pc (.invokevirtual idx) 3 nx) (hl : VLk M M2 idx ci n) (hq : Sh q (.inr (ci, fs))) (hi : i < j) (hC : CallOK i M2 (.ref q :: as) ρ (fun r ρ2 => r = some v ∧ ρ2 = ρ1)) (hn : as.length = n) (hs : stk = as.reverse ++ .ref q :: rest) (hw : (rest.map fun v => v.category).sum ≤ 8) (k : MW M j nx ls (v :: rest) ρ1 Q) : MW M j pc ls stk ρ Q := w_cV hd hl hq hi hC hn hs hw (fun r ρ2 h => by obtain ⟨rfl, rfl⟩ := h; exact k)
theorem w_cVv {M2 : Mth} {idx ci n i q : Nat} {fs : List Nat} {as rest stk : List Value} {ρ1 : Rho} (hd : D0 M pc (.invokevirtual idx) 3 nx) (hl : VLk M M2 idx ci n) (hq : Sh q (.inr (ci, fs))) (hi : i < j) (hC : CallOK i M2 (.ref q :: as) ρ (fun r ρ2 => r = none ∧ ρ2 = ρ1)) (hn : as.length = n) (hs : stk = as.reverse ++ .ref q :: rest) (hw : (rest.map fun v => v.category).sum ≤ 8) (k : MW M j nx ls rest ρ1 Q) : MW M j pc ls stk ρ Q := w_cV hd hl hq hi hC hn hs hw (fun r ρ2 h => by obtain ⟨rfl, rfl⟩ := h; exact k)
theorem w_cVr {M2 : Mth} {idx ci n i q : Nat} {fs : List Nat} {as rest stk : List Value} {B : Value → Rho → Prop} (hd : D0 M pc (.invokevirtual idx) 3 nx) (hl : VLk M M2 idx ci n) (hq : Sh q (.inr (ci, fs))) (hi : i < j) (hC : CallOK i M2 (.ref q :: as) ρ (fun r ρ2 => ∃ v, r = some v ∧ B v ρ2)) (hn : as.length = n) (hs : stk = as.reverse ++ .ref q :: rest) (hw : (rest.map fun v => v.category).sum ≤ 8) (k : ∀ v ρ2, B v ρ2 → MW M j nx ls (v :: rest) ρ2 Q) : MW M j pc ls stk ρ Q := w_cV hd hl hq hi hC hn hs hw (fun r ρ2 h => by obtain ⟨v, rfl, h⟩ := h; exact k v ρ2 h)
theorem w_cVu {M2 : Mth} {idx ci n i q : Nat} {fs : List Nat} {as rest stk : List Value} {B : Rho → Prop} (hd : D0 M pc (.invokevirtual idx) 3 nx) (hl : VLk M M2 idx ci n) (hq : Sh q (.inr (ci, fs))) (hi : i < j) (hC : CallOK i M2 (.ref q :: as) ρ (fun r ρ2 => r = none ∧ B ρ2)) (hn : as.length = n) (hs : stk = as.reverse ++ .ref q :: rest) (hw : (rest.map fun v => v.category).sum ≤ 8) (k : ∀ ρ2, B ρ2 → MW M j nx ls rest ρ2 Q) : MW M j pc ls stk ρ Q := w_cV hd hl hq hi hC hn hs hw (fun r ρ2 h => by obtain ⟨rfl, h⟩ := h; exact k ρ2 h)
def b2i (c : Prop) [Decidable c] : Int32 := if c then 1 else 0
theorem b2i_nar (c : Prop) [Decidable c] : narrow .boolean (.int (b2i c)) = .int (b2i c) := by
  unfold b2i
  split <;> rfl
theorem b2i_vp (c : Prop) [Decidable c] : vp_nar .boolean (b2i c) = b2i c := by
  unfold b2i
  split <;> rfl
theorem b2i_0 {c : Prop} [Decidable c] : b2i c = 0 ↔ ¬ c := by
  unfold b2i
  split <;> simp_all
theorem b2i_t {c : Prop} [Decidable c] (h : c) : b2i c = 1 := if_pos h
theorem b2i_f {c : Prop} [Decidable c] (h : ¬ c) : b2i c = 0 := if_neg h
theorem w_ifeqB {tgt : Nat} {c : Prop} [Decidable c] (hd : DFeq M pc tgt nx) (kt : ¬ c → MW M j tgt ls st ρ Q) (kf : c → MW M j nx ls st ρ Q) : MW M j pc ls (.int (b2i c) :: st) ρ Q := w_ifeq hd (fun h => kt (b2i_0.mp h)) (fun h => kf (Decidable.byContradiction fun q => h (b2i_0.mpr q)))
theorem w_ifneB {tgt : Nat} {c : Prop} [Decidable c] (hd : DFne M pc tgt nx) (kt : c → MW M j tgt ls st ρ Q) (kf : ¬ c → MW M j nx ls st ρ Q) : MW M j pc ls (.int (b2i c) :: st) ρ Q := w_ifne hd (fun h => kt (Decidable.byContradiction fun q => h (b2i_0.mpr q))) (fun h => kf (b2i_0.mp h))
theorem w_eqS {st2 : List Value} (h : st = st2) (k : MW M j pc ls st2 ρ Q) : MW M j pc ls st ρ Q := h ▸ k
theorem w_eqR {ρ2 : Rho} (h : ρ = ρ2) (k : MW M j pc ls st ρ2 Q) : MW M j pc ls st ρ Q := h ▸ k
end
section
def mX0_init : Mth := (yX0_init, cX0_init, 1, none, RX0)
def mX0_begin : Mth := (yX0_begin, cX0_begin, 2, none, RX0)
def mX0_oneDay : Mth := (yX0_oneDay, cX0_oneDay, 7, none, RX0)
def mX0_left : Mth := (yX0_left, cX0_left, 4, (some .long), RX0)
def mX1_init : Mth := (yX1_init, cX1_init, 1, none, RX1)
def mX1_mayBeTold : Mth := (yX1_mayBeTold, cX1_mayBeTold, 2, (some .boolean), RX1)
def mX1_add : Mth := (yX1_add, cX1_add, 4, (some .boolean), RX1)
def mX1_isTaken : Mth := (yX1_isTaken, cX1_isTaken, 2, (some .boolean), RX1)
def mX1_remove : Mth := (yX1_remove, cX1_remove, 3, none, RX1)
def mX1_change : Mth := (yX1_change, cX1_change, 4, (some .int), RX1)
def mX1_counts : Mth := (yX1_counts, cX1_counts, 2, (some .boolean), RX1)
def mX1_counting : Mth := (yX1_counting, cX1_counting, 3, (some .int), RX1)
def mX1_reckonTurns : Mth := (yX1_reckonTurns, cX1_reckonTurns, 3, none, RX1)
def mX1_tally : Mth := (yX1_tally, cX1_tally, 4, none, RX1)
def mX1_findFirstDays : Mth := (yX1_findFirstDays, cX1_findFirstDays, 3, none, RX1)
def mX2_init : Mth := (yX2_init, cX2_init, 2, none, RX2)
def mX2_search : Mth := (yX2_search, cX2_search, 9, none, RX2)
def mX2_reckonCrops : Mth := (yX2_reckonCrops, cX2_reckonCrops, 6, (some .long), RX2)
def mX2_extend : Mth := (yX2_extend, cX2_extend, 4, none, RX2)
def mX2_note : Mth := (yX2_note, cX2_note, 3, none, RX2)
def mX3_init : Mth := (yX3_init, cX3_init, 1, none, RX3)
def mX3_append : Mth := (yX3_append, cX3_append, 2, (some .int), RX3)
def mX3_empty : Mth := (yX3_empty, cX3_empty, 2, (some .int), RX3)
def mX3_interpret : Mth := (yX3_interpret, cX3_interpret, 1, none, RX3)
def mX3_forget : Mth := (yX3_forget, cX3_forget, 1, none, RX3)
def mX3_takeSigns : Mth := (yX3_takeSigns, cX3_takeSigns, 3, (some .int), RX3)
def mX3_takeParts : Mth := (yX3_takeParts, cX3_takeParts, 5, (some .int), RX3)
def mX3_takePath : Mth := (yX3_takePath, cX3_takePath, 3, (some .int), RX3)
def mX3_takeBridge : Mth := (yX3_takeBridge, cX3_takeBridge, 6, (some .int), RX3)
def mX3_signAt : Mth := (yX3_signAt, cX3_signAt, 2, (some .int), RX3)
def mX3_figureAt : Mth := (yX3_figureAt, cX3_figureAt, 3, (some .int), RX3)
def mX3_thingOf : Mth := (yX3_thingOf, cX3_thingOf, 1, (some .int), RX3)
def mX3_joins : Mth := (yX3_joins, cX3_joins, 4, (some .boolean), RX3)
def mX3_meetsAt : Mth := (yX3_meetsAt, cX3_meetsAt, 4, (some .boolean), RX3)
def mX3_canWork : Mth := (yX3_canWork, cX3_canWork, 5, (some .boolean), RX3)
def mX3_closedPaths : Mth := (yX3_closedPaths, cX3_closedPaths, 3, (some .int), RX3)
def mX4_init : Mth := (yX4_init, cX4_init, 1, none, RX4)
def mX4_renew : Mth := (yX4_renew, cX4_renew, 3, none, RX4)
def mX4_findingAt : Mth := (yX4_findingAt, cX4_findingAt, 3, (some .int), RX4)
def mX4_keep : Mth := (yX4_keep, cX4_keep, 3, none, RX4)
def mX4_has : Mth := (yX4_has, cX4_has, 3, (some .boolean), RX4)
def mX5_init : Mth := (yX5_init, cX5_init, 2, none, RX5)
def mX5_changeWish : Mth := (yX5_changeWish, cX5_changeWish, 6, (some .int), RX5)
def mX5_inOwnRow : Mth := (yX5_inOwnRow, cX5_inOwnRow, 3, (some .int), RX5)
def mX5_joyIn : Mth := (yX5_joyIn, cX5_joyIn, 8, (some .int), RX5)
def mX5_reckonJoys : Mth := (yX5_reckonJoys, cX5_reckonJoys, 5, none, RX5)
def mX5_changeUntilNobodyWould : Mth := (yX5_changeUntilNobodyWould, cX5_changeUntilNobodyWould, 2, (some .int), RX5)
def mX5_changeFirstPair : Mth := (yX5_changeFirstPair, cX5_changeFirstPair, 4, (some .boolean), RX5)
def mX5_wouldChange : Mth := (yX5_wouldChange, cX5_wouldChange, 5, (some .boolean), RX5)
def mX5_findBest : Mth := (yX5_findBest, cX5_findBest, 5, none, RX5)
def mX5_joyWith : Mth := (yX5_joyWith, cX5_joyWith, 4, (some .int), RX5)
def mX5_leastBestRow : Mth := (yX5_leastBestRow, cX5_leastBestRow, 4, (some .int), RX5)
def mX5_bestJoy : Mth := (yX5_bestJoy, cX5_bestJoy, 1, (some .int), RX5)
def mX5_envious : Mth := (yX5_envious, cX5_envious, 5, (some .int), RX5)
def mX6_init : Mth := (yX6_init, cX6_init, 1, none, RX6)
def mX6_begin : Mth := (yX6_begin, cX6_begin, 2, none, RX6)
def mX6_oneDay : Mth := (yX6_oneDay, cX6_oneDay, 5, none, RX6)
def mX6_join : Mth := (yX6_join, cX6_join, 3, none, RX6)
def mX6_isOn : Mth := (yX6_isOn, cX6_isOn, 2, (some .boolean), RX6)
def mX6_stepsTo : Mth := (yX6_stepsTo, cX6_stepsTo, 2, (some .int), RX6)
def mX7_init : Mth := (yX7_init, cX7_init, 2, none, RX7)
def mX7_type : Mth := (yX7_type, cX7_type, 2, (some .int), RX7)
def mX7_wipe : Mth := (yX7_wipe, cX7_wipe, 1, (some .int), RX7)
def mX7_fault : Mth := (yX7_fault, cX7_fault, 1, (some .int), RX7)
def mX7_place : Mth := (yX7_place, cX7_place, 3, (some .int), RX7)
def mX7_bridge : Mth := (yX7_bridge, cX7_bridge, 5, (some .int), RX7)
def mX7_gale : Mth := (yX7_gale, cX7_gale, 4, (some .int), RX7)
def mX7_read : Mth := (yX7_read, cX7_read, 6, (some .int), RX7)
def mX7_takeBack : Mth := (yX7_takeBack, cX7_takeBack, 3, (some .int), RX7)
def mX7_set : Mth := (yX7_set, cX7_set, 4, (some .int), RX7)
def mX7_sun : Mth := (yX7_sun, cX7_sun, 4, (some .int), RX7)
def mX7_turn : Mth := (yX7_turn, cX7_turn, 2, (some .int), RX7)
def mX7_door : Mth := (yX7_door, cX7_door, 5, (some .int), RX7)
def mX7_share : Mth := (yX7_share, cX7_share, 6, (some .long), RX7)
def mX7_shine : Mth := (yX7_shine, cX7_shine, 6, (some .int), RX7)
def mX7_ahead : Mth := (yX7_ahead, cX7_ahead, 10, (some .int), RX7)
def mX7_next : Mth := (yX7_next, cX7_next, 7, (some .int), RX7)
def mX7_likely : Mth := (yX7_likely, cX7_likely, 11, (some .long), RX7)
def mX7_soon : Mth := (yX7_soon, cX7_soon, 4, (some .int), RX7)
def mX7_carried : Mth := (yX7_carried, cX7_carried, 4, (some .int), RX7)
def mX7_meet : Mth := (yX7_meet, cX7_meet, 7, (some .int), RX7)
def mX7_wish : Mth := (yX7_wish, cX7_wish, 4, (some .int), RX7)
def mX7_lives : Mth := (yX7_lives, cX7_lives, 2, (some .int), RX7)
def mX7_joy : Mth := (yX7_joy, cX7_joy, 5, (some .int), RX7)
def mX7_swap : Mth := (yX7_swap, cX7_swap, 3, (some .int), RX7)
def mX7_best : Mth := (yX7_best, cX7_best, 4, (some .int), RX7)
def mX7_envy : Mth := (yX7_envy, cX7_envy, 3, (some .int), RX7)
def mX7_reaped : Mth := (yX7_reaped, cX7_reaped, 4, (some .int), RX7)
def mX7_history : Mth := (yX7_history, cX7_history, 4, (some .int), RX7)
def mX7_waits : Mth := (yX7_waits, cX7_waits, 3, (some .int), RX7)
def mX7_dig : Mth := (yX7_dig, cX7_dig, 7, (some .int), RX7)
def mX7_sheet : Mth := (yX7_sheet, cX7_sheet, 4, (some .int), RX7)
def mX7_lose : Mth := (yX7_lose, cX7_lose, 3, (some .int), RX7)
def mX7_put : Mth := (yX7_put, cX7_put, 6, (some .int), RX7)
def mX7_get : Mth := (yX7_get, cX7_get, 5, (some .int), RX7)
def mX7_copy : Mth := (yX7_copy, cX7_copy, 8, (some .int), RX7)
def mX7_write : Mth := (yX7_write, cX7_write, 6, (some .int), RX7)
def mX7_count : Mth := (yX7_count, cX7_count, 2, (some .int), RX7)
def mX7_digest : Mth := (yX7_digest, cX7_digest, 4, (some .long), RX7)
def mX7_digestPlaces : Mth := (yX7_digestPlaces, cX7_digestPlaces, 6, (some .long), RX7)
def mX7_digestRows : Mth := (yX7_digestRows, cX7_digestRows, 6, (some .long), RX7)
def mX7_digestTenants : Mth := (yX7_digestTenants, cX7_digestTenants, 6, (some .long), RX7)
def mX7_within : Mth := (yX7_within, cX7_within, 2, (some .boolean), RX7)
def mX7_isDay : Mth := (yX7_isDay, cX7_isDay, 1, (some .boolean), RX7)
def mX7_isSpan : Mth := (yX7_isSpan, cX7_isSpan, 2, (some .boolean), RX7)
def mX7_isThing : Mth := (yX7_isThing, cX7_isThing, 1, (some .boolean), RX7)
def mX7_isSheet : Mth := (yX7_isSheet, cX7_isSheet, 1, (some .boolean), RX7)
def mX7_isForm : Mth := (yX7_isForm, cX7_isForm, 1, (some .boolean), RX7)
def mX7_found : Mth := (yX7_found, cX7_found, 2, (some .int), RX7)
def mX7_lowestTerms : Mth := (yX7_lowestTerms, cX7_lowestTerms, 12, (some .long), RX7)
def mX7_daysWith : Mth := (yX7_daysWith, cX7_daysWith, 5, (some .int), RX7)
def mX7_walkTo : Mth := (yX7_walkTo, cX7_walkTo, 5, (some .int), RX7)
def mX7_reckonJoys : Mth := (yX7_reckonJoys, cX7_reckonJoys, 3, none, RX7)
def mX7_longestWait : Mth := (yX7_longestWait, cX7_longestWait, 8, (some .int), RX7)
def mX8_init : Mth := (yX8_init, cX8_init, 2, none, RX8)
def mX8_in : Mth := (yX8_in, cX8_in, 3, (some .boolean), RX8)
def mX8_isIn : Mth := (yX8_isIn, cX8_isIn, 2, (some .boolean), RX8)
def mX8_no : Mth := (yX8_no, cX8_no, 1, (some .long), RX8)
def mX8_lowest : Mth := (yX8_lowest, cX8_lowest, 11, (some .long), RX8)
def mX8_type : Mth := (yX8_type, cX8_type, 2, (some .int), RX8)
def mX8_wipe : Mth := (yX8_wipe, cX8_wipe, 2, (some .int), RX8)
def mX8_byteAt : Mth := (yX8_byteAt, cX8_byteAt, 2, (some .int), RX8)
def mX8_thingOf : Mth := (yX8_thingOf, cX8_thingOf, 1, (some .int), RX8)
def mX8_mayBe : Mth := (yX8_mayBe, cX8_mayBe, 4, (some .boolean), RX8)
def mX8_reads : Mth := (yX8_reads, cX8_reads, 4, (some .int), RX8)
def mX8_faultNow : Mth := (yX8_faultNow, cX8_faultNow, 3, (some .int), RX8)
def mX8_fault : Mth := (yX8_fault, cX8_fault, 1, (some .int), RX8)
def mX8_placeOf : Mth := (yX8_placeOf, cX8_placeOf, 4, (some .int), RX8)
def mX8_isEighth : Mth := (yX8_isEighth, cX8_isEighth, 1, (some .boolean), RX8)
def mX8_place : Mth := (yX8_place, cX8_place, 3, (some .int), RX8)
def mX8_sun : Mth := (yX8_sun, cX8_sun, 4, (some .int), RX8)
def mX8_galeMore : Mth := (yX8_galeMore, cX8_galeMore, 4, (some .int), RX8)
def mX8_gale : Mth := (yX8_gale, cX8_gale, 4, (some .int), RX8)
def mX8_read : Mth := (yX8_read, cX8_read, 4, (some .int), RX8)
def mX8_takeBack : Mth := (yX8_takeBack, cX8_takeBack, 3, (some .int), RX8)
def mX8_set : Mth := (yX8_set, cX8_set, 4, (some .int), RX8)
def mX8_doesCount : Mth := (yX8_doesCount, cX8_doesCount, 2, (some .boolean), RX8)
def mX8_lays : Mth := (yX8_lays, cX8_lays, 4, none, RX8)
def mX8_isDay : Mth := (yX8_isDay, cX8_isDay, 1, (some .boolean), RX8)
def mX8_turnOf : Mth := (yX8_turnOf, cX8_turnOf, 2, (some .int), RX8)
def mX8_turn : Mth := (yX8_turn, cX8_turn, 2, (some .int), RX8)
def mX8_isOver : Mth := (yX8_isOver, cX8_isOver, 7, (some .boolean), RX8)
def mX8_bridge : Mth := (yX8_bridge, cX8_bridge, 4, (some .int), RX8)
def mX8_doorAt : Mth := (yX8_doorAt, cX8_doorAt, 3, (some .int), RX8)
def mX8_doorOf : Mth := (yX8_doorOf, cX8_doorOf, 5, (some .int), RX8)
def mX8_door : Mth := (yX8_door, cX8_door, 4, (some .int), RX8)
def mX8_isThing : Mth := (yX8_isThing, cX8_isThing, 1, (some .boolean), RX8)
def mX8_isSpan : Mth := (yX8_isSpan, cX8_isSpan, 2, (some .boolean), RX8)
def mX8_daysOf : Mth := (yX8_daysOf, cX8_daysOf, 7, (some .int), RX8)
def mX8_share : Mth := (yX8_share, cX8_share, 6, (some .long), RX8)
def mX8_shineOf : Mth := (yX8_shineOf, cX8_shineOf, 6, (some .int), RX8)
def mX8_shine : Mth := (yX8_shine, cX8_shine, 4, (some .int), RX8)
def mX8_aheadOf : Mth := (yX8_aheadOf, cX8_aheadOf, 9, (some .int), RX8)
def mX8_ahead : Mth := (yX8_ahead, cX8_ahead, 5, (some .int), RX8)
def mX8_works : Mth := (yX8_works, cX8_works, 5, (some .boolean), RX8)
def mX8_next : Mth := (yX8_next, cX8_next, 6, (some .int), RX8)
def mX8_likely : Mth := (yX8_likely, cX8_likely, 13, (some .long), RX8)
def mX8_begins : Mth := (yX8_begins, cX8_begins, 4, none, RX8)
def mX8_isStep : Mth := (yX8_isStep, cX8_isStep, 6, (some .boolean), RX8)
def mX8_goes : Mth := (yX8_goes, cX8_goes, 7, none, RX8)
def mX8_soonOf : Mth := (yX8_soonOf, cX8_soonOf, 6, (some .int), RX8)
def mX8_soon : Mth := (yX8_soon, cX8_soon, 4, (some .int), RX8)
def mX8_carried : Mth := (yX8_carried, cX8_carried, 4, (some .int), RX8)
def mX8_meetOf : Mth := (yX8_meetOf, cX8_meetOf, 7, (some .int), RX8)
def mX8_meet : Mth := (yX8_meet, cX8_meet, 5, (some .int), RX8)
def mX8_wish : Mth := (yX8_wish, cX8_wish, 5, (some .int), RX8)
def mX8_lives : Mth := (yX8_lives, cX8_lives, 2, (some .int), RX8)
def mX8_laysJoy : Mth := (yX8_laysJoy, cX8_laysJoy, 7, none, RX8)
def mX8_joy : Mth := (yX8_joy, cX8_joy, 5, (some .int), RX8)
def mX8_swap : Mth := (yX8_swap, cX8_swap, 10, (some .int), RX8)
def mX8_ones : Mth := (yX8_ones, cX8_ones, 3, (some .int), RX8)
def mX8_bestOf : Mth := (yX8_bestOf, cX8_bestOf, 9, (some .int), RX8)
def mX8_best : Mth := (yX8_best, cX8_best, 4, (some .int), RX8)
def mX8_envyOf : Mth := (yX8_envyOf, cX8_envyOf, 7, (some .int), RX8)
def mX8_envy : Mth := (yX8_envy, cX8_envy, 3, (some .int), RX8)
def mX8_reaped : Mth := (yX8_reaped, cX8_reaped, 4, (some .int), RX8)
def mX8_historyOf : Mth := (yX8_historyOf, cX8_historyOf, 12, (some .int), RX8)
def mX8_history : Mth := (yX8_history, cX8_history, 4, (some .int), RX8)
def mX8_waitsOf : Mth := (yX8_waitsOf, cX8_waitsOf, 6, (some .int), RX8)
def mX8_waits : Mth := (yX8_waits, cX8_waits, 3, (some .int), RX8)
def mX8_digOf : Mth := (yX8_digOf, cX8_digOf, 8, (some .int), RX8)
def mX8_dig : Mth := (yX8_dig, cX8_dig, 3, (some .int), RX8)
def mX8_meets : Mth := (yX8_meets, cX8_meets, 2, (some .int), RX8)
def mX8_isSheet : Mth := (yX8_isSheet, cX8_isSheet, 1, (some .boolean), RX8)
def mX8_sheet : Mth := (yX8_sheet, cX8_sheet, 5, (some .int), RX8)
def mX8_lose : Mth := (yX8_lose, cX8_lose, 2, (some .int), RX8)
def mX8_lacks : Mth := (yX8_lacks, cX8_lacks, 4, (some .int), RX8)
def mX8_keep : Mth := (yX8_keep, cX8_keep, 4, none, RX8)
def mX8_put : Mth := (yX8_put, cX8_put, 6, (some .int), RX8)
def mX8_get : Mth := (yX8_get, cX8_get, 5, (some .int), RX8)
def mX8_copy : Mth := (yX8_copy, cX8_copy, 7, (some .int), RX8)
def mX8_write : Mth := (yX8_write, cX8_write, 4, (some .int), RX8)
def mX8_sumOf : Mth := (yX8_sumOf, cX8_sumOf, 5, (some .int), RX8)
def mX8_count : Mth := (yX8_count, cX8_count, 2, (some .int), RX8)
def mX8_digest : Mth := (yX8_digest, cX8_digest, 5, (some .long), RX8)
def mJ6_numberOfTrailingZeros_0f7a4 : Mth := (yJ6_numberOfTrailingZeros_0f7a4, cJ6_numberOfTrailingZeros_0f7a4, 2, (some .int), RJ6)
def mJ6_bitCount_0f7a4 : Mth := (yJ6_bitCount_0f7a4, cJ6_bitCount_0f7a4, 1, (some .int), RJ6)
def mJ9_max_7cf53 : Mth := (yJ9_max_7cf53, cJ9_max_7cf53, 2, (some .int), RJ9)
def mJ9_min_7cf53 : Mth := (yJ9_min_7cf53, cJ9_min_7cf53, 2, (some .int), RJ9)
def mJ7_fill_d0a16 : Mth := (yJ7_fill_d0a16, cJ7_fill_d0a16, 5, none, RJ7)
def mJ7_fill_53178 : Mth := (yJ7_fill_53178, cJ7_fill_53178, 4, none, RJ7)
theorem bt0 : Cond.laysFinal RX0 "TurningVillage$Chance" "weights" "[J" ∈ BT := bt_of (in_t1 (List.mem_of_getElem? (i := 135) rfl)) rfl
theorem bt1 : Cond.lays RX0 "TurningVillage$Chance" "all" "J" ∈ BT := bt_of (in_t1 (List.mem_of_getElem? (i := 137) rfl)) rfl
theorem iB_X0 : ∀ w ∈ u_ws RX0 TX0 2, w ∈ BT := fun w hw => by
  obtain ⟨k, hk, rfl⟩ := List.mem_map.mp hw
  have hk := List.mem_range.mp hk
  match k, hk with
  | 0, _ => exact bt0
  | 1, _ => exact bt1
  | n + 2, h => exact absurd h (by omega)
theorem bt2 : Cond.lays RX1 "TurningVillage$Gales" "number" "I" ∈ BT := bt_of (in_t1 (List.mem_of_getElem? (i := 100) rfl)) rfl
theorem bt3 : Cond.laysFinal RX1 "TurningVillage$Gales" "days" "[I" ∈ BT := bt_of (in_t1 (List.mem_of_getElem? (i := 102) rfl)) rfl
theorem bt4 : Cond.laysFinal RX1 "TurningVillage$Gales" "froms" "[I" ∈ BT := bt_of (in_t1 (List.mem_of_getElem? (i := 104) rfl)) rfl
theorem bt5 : Cond.laysFinal RX1 "TurningVillage$Gales" "told" "[I" ∈ BT := bt_of (in_t1 (List.mem_of_getElem? (i := 106) rfl)) rfl
theorem bt6 : Cond.laysFinal RX1 "TurningVillage$Gales" "taken" "[I" ∈ BT := bt_of (in_t1 (List.mem_of_getElem? (i := 108) rfl)) rfl
theorem bt7 : Cond.lays RX1 "TurningVillage$Gales" "latest" "I" ∈ BT := bt_of (in_t1 (List.mem_of_getElem? (i := 110) rfl)) rfl
theorem bt8 : Cond.lays RX1 "TurningVillage$Gales" "asOf" "I" ∈ BT := bt_of (in_t1 (List.mem_of_getElem? (i := 112) rfl)) rfl
theorem bt9 : Cond.lays RX1 "TurningVillage$Gales" "wing" "I" ∈ BT := bt_of (in_t1 (List.mem_of_getElem? (i := 114) rfl)) rfl
theorem bt10 : Cond.lays RX1 "TurningVillage$Gales" "begin" "I" ∈ BT := bt_of (in_t1 (List.mem_of_getElem? (i := 116) rfl)) rfl
theorem bt11 : Cond.laysFinal RX1 "TurningVillage$Gales" "turns" "[I" ∈ BT := bt_of (in_t1 (List.mem_of_getElem? (i := 118) rfl)) rfl
theorem bt12 : Cond.laysFinal RX1 "TurningVillage$Gales" "daysOfTurn" "[I" ∈ BT := bt_of (in_t1 (List.mem_of_getElem? (i := 120) rfl)) rfl
theorem bt13 : Cond.laysFinal RX1 "TurningVillage$Gales" "firstDays" "[I" ∈ BT := bt_of (in_t1 (List.mem_of_getElem? (i := 122) rfl)) rfl
theorem iB_X1 : ∀ w ∈ u_ws RX1 TX1 12, w ∈ BT := fun w hw => by
  obtain ⟨k, hk, rfl⟩ := List.mem_map.mp hw
  have hk := List.mem_range.mp hk
  match k, hk with
  | 0, _ => exact bt2
  | 1, _ => exact bt3
  | 2, _ => exact bt4
  | 3, _ => exact bt5
  | 4, _ => exact bt6
  | 5, _ => exact bt7
  | 6, _ => exact bt8
  | 7, _ => exact bt9
  | 8, _ => exact bt10
  | 9, _ => exact bt11
  | 10, _ => exact bt12
  | 11, _ => exact bt13
  | n + 12, h => exact absurd h (by omega)
theorem bt14 : Cond.laysFinal RX2 "TurningVillage$Harvest" "known" "[I" ∈ BT := bt_of (in_t1 (List.mem_of_getElem? (i := 198) rfl)) rfl
theorem bt15 : Cond.laysFinal RX2 "TurningVillage$Harvest" "cropOfTurn" "[J" ∈ BT := bt_of (in_t1 (List.mem_of_getElem? (i := 200) rfl)) rfl
theorem bt16 : Cond.laysFinal RX2 "TurningVillage$Harvest" "bits" "[I" ∈ BT := bt_of (in_t1 (List.mem_of_getElem? (i := 202) rfl)) rfl
theorem bt17 : Cond.laysFinal RX2 "TurningVillage$Harvest" "turns" "[I" ∈ BT := bt_of (in_t1 (List.mem_of_getElem? (i := 204) rfl)) rfl
theorem bt18 : Cond.laysFinal RX2 "TurningVillage$Harvest" "crops" "[J" ∈ BT := bt_of (in_t1 (List.mem_of_getElem? (i := 206) rfl)) rfl
theorem bt19 : Cond.lays RX2 "TurningVillage$Harvest" "fitting" "I" ∈ BT := bt_of (in_t1 (List.mem_of_getElem? (i := 208) rfl)) rfl
theorem bt20 : Cond.lays RX2 "TurningVillage$Harvest" "first" "I" ∈ BT := bt_of (in_t1 (List.mem_of_getElem? (i := 210) rfl)) rfl
theorem bt21 : Cond.lays RX2 "TurningVillage$Harvest" "sureWith" "I" ∈ BT := bt_of (in_t1 (List.mem_of_getElem? (i := 212) rfl)) rfl
theorem bt22 : Cond.lays RX2 "TurningVillage$Harvest" "sureWithout" "I" ∈ BT := bt_of (in_t1 (List.mem_of_getElem? (i := 214) rfl)) rfl
theorem iB_X2 : ∀ w ∈ u_ws RX2 TX2 9, w ∈ BT := fun w hw => by
  obtain ⟨k, hk, rfl⟩ := List.mem_map.mp hw
  have hk := List.mem_range.mp hk
  match k, hk with
  | 0, _ => exact bt14
  | 1, _ => exact bt15
  | 2, _ => exact bt16
  | 3, _ => exact bt17
  | 4, _ => exact bt18
  | 5, _ => exact bt19
  | 6, _ => exact bt20
  | 7, _ => exact bt21
  | 8, _ => exact bt22
  | n + 9, h => exact absurd h (by omega)
theorem bt23 : Cond.laysFinal RX3 "TurningVillage$Land" "text" "[I" ∈ BT := bt_of (in_t1 (List.mem_of_getElem? (i := 51) rfl)) rfl
theorem bt24 : Cond.lays RX3 "TurningVillage$Land" "length" "I" ∈ BT := bt_of (in_t1 (List.mem_of_getElem? (i := 53) rfl)) rfl
theorem bt25 : Cond.lays RX3 "TurningVillage$Land" "fault" "I" ∈ BT := bt_of (in_t1 (List.mem_of_getElem? (i := 55) rfl)) rfl
theorem bt26 : Cond.laysFinal RX3 "TurningVillage$Land" "things" "[I" ∈ BT := bt_of (in_t1 (List.mem_of_getElem? (i := 57) rfl)) rfl
theorem bt27 : Cond.laysFinal RX3 "TurningVillage$Land" "closed" "[I" ∈ BT := bt_of (in_t1 (List.mem_of_getElem? (i := 59) rfl)) rfl
theorem bt28 : Cond.laysFinal RX3 "TurningVillage$Land" "suns" "[I" ∈ BT := bt_of (in_t1 (List.mem_of_getElem? (i := 61) rfl)) rfl
theorem bt29 : Cond.lays RX3 "TurningVillage$Land" "bridges" "I" ∈ BT := bt_of (in_t1 (List.mem_of_getElem? (i := 63) rfl)) rfl
theorem bt30 : Cond.laysFinal RX3 "TurningVillage$Land" "oneEnd" "[I" ∈ BT := bt_of (in_t1 (List.mem_of_getElem? (i := 65) rfl)) rfl
theorem bt31 : Cond.laysFinal RX3 "TurningVillage$Land" "otherEnd" "[I" ∈ BT := bt_of (in_t1 (List.mem_of_getElem? (i := 67) rfl)) rfl
theorem bt32 : Cond.laysFinal RX3 "TurningVillage$Land" "modulus" "[I" ∈ BT := bt_of (in_t1 (List.mem_of_getElem? (i := 69) rfl)) rfl
theorem bt33 : Cond.laysFinal RX3 "TurningVillage$Land" "remainder" "[I" ∈ BT := bt_of (in_t1 (List.mem_of_getElem? (i := 71) rfl)) rfl
theorem iB_X3 : ∀ w ∈ u_ws RX3 TX3 11, w ∈ BT := fun w hw => by
  obtain ⟨k, hk, rfl⟩ := List.mem_map.mp hw
  have hk := List.mem_range.mp hk
  match k, hk with
  | 0, _ => exact bt23
  | 1, _ => exact bt24
  | 2, _ => exact bt25
  | 3, _ => exact bt26
  | 4, _ => exact bt27
  | 5, _ => exact bt28
  | 6, _ => exact bt29
  | 7, _ => exact bt30
  | 8, _ => exact bt31
  | 9, _ => exact bt32
  | 10, _ => exact bt33
  | n + 11, h => exact absurd h (by omega)
theorem bt34 : Cond.lays RX4 "TurningVillage$Sheet" "lost" "Z" ∈ BT := bt_of (in_t1 (List.mem_of_getElem? (i := 232) rfl)) rfl
theorem bt35 : Cond.lays RX4 "TurningVillage$Sheet" "form" "I" ∈ BT := bt_of (in_t1 (List.mem_of_getElem? (i := 234) rfl)) rfl
theorem bt36 : Cond.lays RX4 "TurningVillage$Sheet" "size" "I" ∈ BT := bt_of (in_t1 (List.mem_of_getElem? (i := 236) rfl)) rfl
theorem bt37 : Cond.laysFinal RX4 "TurningVillage$Sheet" "items" "[I" ∈ BT := bt_of (in_t1 (List.mem_of_getElem? (i := 238) rfl)) rfl
theorem iB_X4 : ∀ w ∈ u_ws RX4 TX4 4, w ∈ BT := fun w hw => by
  obtain ⟨k, hk, rfl⟩ := List.mem_map.mp hw
  have hk := List.mem_range.mp hk
  match k, hk with
  | 0, _ => exact bt34
  | 1, _ => exact bt35
  | 2, _ => exact bt36
  | 3, _ => exact bt37
  | n + 4, h => exact absurd h (by omega)
theorem bt38 : Cond.laysFinal RX5 "TurningVillage$Tenants" "rows" "[I" ∈ BT := bt_of (in_t1 (List.mem_of_getElem? (i := 167) rfl)) rfl
theorem bt39 : Cond.laysFinal RX5 "TurningVillage$Tenants" "wishes" "[I" ∈ BT := bt_of (in_t1 (List.mem_of_getElem? (i := 169) rfl)) rfl
theorem bt40 : Cond.laysFinal RX5 "TurningVillage$Tenants" "joys" "[I" ∈ BT := bt_of (in_t1 (List.mem_of_getElem? (i := 171) rfl)) rfl
theorem bt41 : Cond.laysFinal RX5 "TurningVillage$Tenants" "mostJoy" "[I" ∈ BT := bt_of (in_t1 (List.mem_of_getElem? (i := 173) rfl)) rfl
theorem bt42 : Cond.laysFinal RX5 "TurningVillage$Tenants" "bestRows" "[I" ∈ BT := bt_of (in_t1 (List.mem_of_getElem? (i := 175) rfl)) rfl
theorem iB_X5 : ∀ w ∈ u_ws RX5 TX5 5, w ∈ BT := fun w hw => by
  obtain ⟨k, hk, rfl⟩ := List.mem_map.mp hw
  have hk := List.mem_range.mp hk
  match k, hk with
  | 0, _ => exact bt38
  | 1, _ => exact bt39
  | 2, _ => exact bt40
  | 3, _ => exact bt41
  | 4, _ => exact bt42
  | n + 5, h => exact absurd h (by omega)
theorem bt43 : Cond.laysFinal RX6 "TurningVillage$Walker" "steps" "[I" ∈ BT := bt_of (in_t1 (List.mem_of_getElem? (i := 149) rfl)) rfl
theorem bt44 : Cond.laysFinal RX6 "TurningVillage$Walker" "before" "[I" ∈ BT := bt_of (in_t1 (List.mem_of_getElem? (i := 151) rfl)) rfl
theorem iB_X6 : ∀ w ∈ u_ws RX6 TX6 2, w ∈ BT := fun w hw => by
  obtain ⟨k, hk, rfl⟩ := List.mem_map.mp hw
  have hk := List.mem_range.mp hk
  match k, hk with
  | 0, _ => exact bt43
  | 1, _ => exact bt44
  | n + 2, h => exact absurd h (by omega)
theorem bt45 : Cond.laysFinal RX7 "TurningVillage" "land" "LTurningVillage$Land;" ∈ BT := bt_of (in_t2 (List.mem_of_getElem? (i := 10) rfl)) rfl
theorem bt46 : Cond.laysFinal RX7 "TurningVillage" "gales" "LTurningVillage$Gales;" ∈ BT := bt_of (in_t2 (List.mem_of_getElem? (i := 12) rfl)) rfl
theorem bt47 : Cond.laysFinal RX7 "TurningVillage" "chance" "LTurningVillage$Chance;" ∈ BT := bt_of (in_t2 (List.mem_of_getElem? (i := 14) rfl)) rfl
theorem bt48 : Cond.laysFinal RX7 "TurningVillage" "walker" "LTurningVillage$Walker;" ∈ BT := bt_of (in_t2 (List.mem_of_getElem? (i := 16) rfl)) rfl
theorem bt49 : Cond.laysFinal RX7 "TurningVillage" "companion" "LTurningVillage$Walker;" ∈ BT := bt_of (in_t2 (List.mem_of_getElem? (i := 18) rfl)) rfl
theorem bt50 : Cond.laysFinal RX7 "TurningVillage" "tenants" "LTurningVillage$Tenants;" ∈ BT := bt_of (in_t2 (List.mem_of_getElem? (i := 20) rfl)) rfl
theorem bt51 : Cond.laysFinal RX7 "TurningVillage" "harvest" "LTurningVillage$Harvest;" ∈ BT := bt_of (in_t2 (List.mem_of_getElem? (i := 22) rfl)) rfl
theorem bt52 : Cond.laysFinal RX7 "TurningVillage" "sheets" "[LTurningVillage$Sheet;" ∈ BT := bt_of (in_t2 (List.mem_of_getElem? (i := 24) rfl)) rfl
theorem bt53 : Cond.lays RX7 "TurningVillage" "finding" "I" ∈ BT := bt_of (in_t2 (List.mem_of_getElem? (i := 26) rfl)) rfl
theorem iB_X7 : ∀ w ∈ u_ws RX7 TX7 9, w ∈ BT := fun w hw => by
  obtain ⟨k, hk, rfl⟩ := List.mem_map.mp hw
  have hk := List.mem_range.mp hk
  match k, hk with
  | 0, _ => exact bt45
  | 1, _ => exact bt46
  | 2, _ => exact bt47
  | 3, _ => exact bt48
  | 4, _ => exact bt49
  | 5, _ => exact bt50
  | 6, _ => exact bt51
  | 7, _ => exact bt52
  | 8, _ => exact bt53
  | n + 9, h => exact absurd h (by omega)
theorem bt54 : Cond.lays RX8 "TurningVillageModel" "typed" "I" ∈ BT := bt_of (in_t4 (List.mem_of_getElem? (i := 54) rfl)) rfl
theorem bt55 : Cond.laysFinal RX8 "TurningVillageModel" "text" "[I" ∈ BT := bt_of (in_t4 (List.mem_of_getElem? (i := 56) rfl)) rfl
theorem bt56 : Cond.laysFinal RX8 "TurningVillageModel" "things" "[I" ∈ BT := bt_of (in_t4 (List.mem_of_getElem? (i := 58) rfl)) rfl
theorem bt57 : Cond.laysFinal RX8 "TurningVillageModel" "closed" "[I" ∈ BT := bt_of (in_t4 (List.mem_of_getElem? (i := 60) rfl)) rfl
theorem bt58 : Cond.lays RX8 "TurningVillageModel" "bridges" "I" ∈ BT := bt_of (in_t4 (List.mem_of_getElem? (i := 62) rfl)) rfl
theorem bt59 : Cond.laysFinal RX8 "TurningVillageModel" "bridge" "[I" ∈ BT := bt_of (in_t4 (List.mem_of_getElem? (i := 64) rfl)) rfl
theorem bt60 : Cond.laysFinal RX8 "TurningVillageModel" "suns" "[I" ∈ BT := bt_of (in_t4 (List.mem_of_getElem? (i := 66) rfl)) rfl
theorem bt61 : Cond.lays RX8 "TurningVillageModel" "gales" "I" ∈ BT := bt_of (in_t4 (List.mem_of_getElem? (i := 68) rfl)) rfl
theorem bt62 : Cond.laysFinal RX8 "TurningVillageModel" "galeDay" "[I" ∈ BT := bt_of (in_t4 (List.mem_of_getElem? (i := 70) rfl)) rfl
theorem bt63 : Cond.laysFinal RX8 "TurningVillageModel" "galeFrom" "[I" ∈ BT := bt_of (in_t4 (List.mem_of_getElem? (i := 72) rfl)) rfl
theorem bt64 : Cond.laysFinal RX8 "TurningVillageModel" "galeTime" "[I" ∈ BT := bt_of (in_t4 (List.mem_of_getElem? (i := 74) rfl)) rfl
theorem bt65 : Cond.laysFinal RX8 "TurningVillageModel" "galeBack" "[I" ∈ BT := bt_of (in_t4 (List.mem_of_getElem? (i := 76) rfl)) rfl
theorem bt66 : Cond.lays RX8 "TurningVillageModel" "lastTime" "I" ∈ BT := bt_of (in_t4 (List.mem_of_getElem? (i := 78) rfl)) rfl
theorem bt67 : Cond.laysFinal RX8 "TurningVillageModel" "setting" "[I" ∈ BT := bt_of (in_t4 (List.mem_of_getElem? (i := 80) rfl)) rfl
theorem bt68 : Cond.laysFinal RX8 "TurningVillageModel" "turns" "[I" ∈ BT := bt_of (in_t4 (List.mem_of_getElem? (i := 82) rfl)) rfl
theorem bt69 : Cond.laysFinal RX8 "TurningVillageModel" "chance" "[J" ∈ BT := bt_of (in_t4 (List.mem_of_getElem? (i := 84) rfl)) rfl
theorem bt70 : Cond.laysFinal RX8 "TurningVillageModel" "steps" "[I" ∈ BT := bt_of (in_t4 (List.mem_of_getElem? (i := 86) rfl)) rfl
theorem bt71 : Cond.laysFinal RX8 "TurningVillageModel" "then" "[I" ∈ BT := bt_of (in_t4 (List.mem_of_getElem? (i := 88) rfl)) rfl
theorem bt72 : Cond.laysFinal RX8 "TurningVillageModel" "wishes" "[I" ∈ BT := bt_of (in_t4 (List.mem_of_getElem? (i := 90) rfl)) rfl
theorem bt73 : Cond.laysFinal RX8 "TurningVillageModel" "lives" "[I" ∈ BT := bt_of (in_t4 (List.mem_of_getElem? (i := 92) rfl)) rfl
theorem bt74 : Cond.laysFinal RX8 "TurningVillageModel" "joys" "[I" ∈ BT := bt_of (in_t4 (List.mem_of_getElem? (i := 94) rfl)) rfl
theorem bt75 : Cond.laysFinal RX8 "TurningVillageModel" "mostBehind" "[I" ∈ BT := bt_of (in_t4 (List.mem_of_getElem? (i := 96) rfl)) rfl
theorem bt76 : Cond.laysFinal RX8 "TurningVillageModel" "reaped" "[I" ∈ BT := bt_of (in_t4 (List.mem_of_getElem? (i := 98) rfl)) rfl
theorem bt77 : Cond.laysFinal RX8 "TurningVillageModel" "fields" "[I" ∈ BT := bt_of (in_t4 (List.mem_of_getElem? (i := 100) rfl)) rfl
theorem bt78 : Cond.laysFinal RX8 "TurningVillageModel" "isThere" "[Z" ∈ BT := bt_of (in_t4 (List.mem_of_getElem? (i := 102) rfl)) rfl
theorem bt79 : Cond.laysFinal RX8 "TurningVillageModel" "forms" "[I" ∈ BT := bt_of (in_t4 (List.mem_of_getElem? (i := 104) rfl)) rfl
theorem bt80 : Cond.laysFinal RX8 "TurningVillageModel" "sizes" "[I" ∈ BT := bt_of (in_t4 (List.mem_of_getElem? (i := 106) rfl)) rfl
theorem bt81 : Cond.laysFinal RX8 "TurningVillageModel" "items" "[I" ∈ BT := bt_of (in_t4 (List.mem_of_getElem? (i := 108) rfl)) rfl
theorem bt82 : Cond.laysFinal RX8 "TurningVillageModel" "moved" "[I" ∈ BT := bt_of (in_t4 (List.mem_of_getElem? (i := 110) rfl)) rfl
theorem bt83 : Cond.lays RX8 "TurningVillageModel" "finding" "I" ∈ BT := bt_of (in_t4 (List.mem_of_getElem? (i := 112) rfl)) rfl
theorem iB_X8 : ∀ w ∈ u_ws RX8 TX8 30, w ∈ BT := fun w hw => by
  obtain ⟨k, hk, rfl⟩ := List.mem_map.mp hw
  have hk := List.mem_range.mp hk
  match k, hk with
  | 0, _ => exact bt54
  | 1, _ => exact bt55
  | 2, _ => exact bt56
  | 3, _ => exact bt57
  | 4, _ => exact bt58
  | 5, _ => exact bt59
  | 6, _ => exact bt60
  | 7, _ => exact bt61
  | 8, _ => exact bt62
  | 9, _ => exact bt63
  | 10, _ => exact bt64
  | 11, _ => exact bt65
  | 12, _ => exact bt66
  | 13, _ => exact bt67
  | 14, _ => exact bt68
  | 15, _ => exact bt69
  | 16, _ => exact bt70
  | 17, _ => exact bt71
  | 18, _ => exact bt72
  | 19, _ => exact bt73
  | 20, _ => exact bt74
  | 21, _ => exact bt75
  | 22, _ => exact bt76
  | 23, _ => exact bt77
  | 24, _ => exact bt78
  | 25, _ => exact bt79
  | 26, _ => exact bt80
  | 27, _ => exact bt81
  | 28, _ => exact bt82
  | 29, _ => exact bt83
  | n + 30, h => exact absurd h (by omega)
theorem bt84 : Cond.fieldLink RX0 9 "TurningVillage$Chance" "weights" "[J" ∈ BT := bt_of (in_t1 (List.mem_of_getElem? (i := 131) rfl)) rfl
theorem fl_X0_9 : FLk RX0 9 0 0 := ⟨RX0, TX0, 2, rfl, by decide, bt84, iB_X0⟩
theorem bt85 : Cond.methodLink RX0 19 yJ7_fill_d0a16 ∈ BT := bt_of (in_t2 (List.mem_of_getElem? (i := 228) rfl)) rfl
theorem bt86 : Cond.static yJ7_fill_d0a16 ∈ BT := bt_of (in_t2 (List.mem_of_getElem? (i := 229) rfl)) rfl
theorem bt87 : Cond.initialized RJ7 ∈ BT := bt_of (in_t1 (List.mem_of_getElem? (i := 10) rfl)) rfl
theorem bt88 : Cond.code yJ7_fill_d0a16 cJ7_fill_d0a16 5 none ∈ BT := bt_of (in_t2 (List.mem_of_getElem? (i := 230) rfl)) rfl
theorem sl_X0_19 (M : Mth) (h : mO M = RX0) : SLk M mJ7_fill_d0a16 19 2 := ⟨by rw [h]; exact bt85, bt86, bt87, bt88, ⟨by decide +kernel, by decide +kernel⟩, by decide +kernel, by decide⟩
theorem bt89 : Cond.fieldLink RX0 15 "TurningVillage$Chance" "all" "J" ∈ BT := bt_of (in_t1 (List.mem_of_getElem? (i := 133) rfl)) rfl
theorem fp_X0_15 : FPk RX0 15 0 1 .long := ⟨RX0, TX0, 2, tyX0, rfl, by decide, bt89, iB_X0, tyX0_ok, nmX0, rfl, by decide +kernel⟩
theorem fl_X0_15 : FLk RX0 15 0 1 := ⟨RX0, TX0, 2, rfl, by decide, bt89, iB_X0⟩
theorem bt90 : Cond.constantLong RX0 25 (16) ∈ BT := bt_of (in_t2 (List.mem_of_getElem? (i := 235) rfl)) rfl
theorem bt91 : Cond.fieldLink RX1 28 "TurningVillage$Gales" "latest" "I" ∈ BT := bt_of (in_t1 (List.mem_of_getElem? (i := 87) rfl)) rfl
theorem fl_X1_28 : FLk RX1 28 1 5 := ⟨RX1, TX1, 12, rfl, by decide, bt91, iB_X1⟩
theorem bt92 : Cond.fieldLink RX1 9 "TurningVillage$Gales" "number" "I" ∈ BT := bt_of (in_t1 (List.mem_of_getElem? (i := 81) rfl)) rfl
theorem fl_X1_9 : FLk RX1 9 1 0 := ⟨RX1, TX1, 12, rfl, by decide, bt92, iB_X1⟩
theorem bt93 : Cond.fieldLink RX1 15 "TurningVillage$Gales" "days" "[I" ∈ BT := bt_of (in_t1 (List.mem_of_getElem? (i := 83) rfl)) rfl
theorem fl_X1_15 : FLk RX1 15 1 1 := ⟨RX1, TX1, 12, rfl, by decide, bt93, iB_X1⟩
theorem bt94 : Cond.fieldLink RX1 19 "TurningVillage$Gales" "froms" "[I" ∈ BT := bt_of (in_t1 (List.mem_of_getElem? (i := 84) rfl)) rfl
theorem fl_X1_19 : FLk RX1 19 1 2 := ⟨RX1, TX1, 12, rfl, by decide, bt94, iB_X1⟩
theorem bt95 : Cond.fieldLink RX1 22 "TurningVillage$Gales" "told" "[I" ∈ BT := bt_of (in_t1 (List.mem_of_getElem? (i := 85) rfl)) rfl
theorem fl_X1_22 : FLk RX1 22 1 3 := ⟨RX1, TX1, 12, rfl, by decide, bt95, iB_X1⟩
theorem bt96 : Cond.fieldLink RX1 25 "TurningVillage$Gales" "taken" "[I" ∈ BT := bt_of (in_t1 (List.mem_of_getElem? (i := 86) rfl)) rfl
theorem fl_X1_25 : FLk RX1 25 1 4 := ⟨RX1, TX1, 12, rfl, by decide, bt96, iB_X1⟩
theorem fp_X1_28 : FPk RX1 28 1 5 .int := ⟨RX1, TX1, 12, tyX1, rfl, by decide, bt91, iB_X1, tyX1_ok, nmX1, rfl, by decide +kernel⟩
theorem fp_X1_9 : FPk RX1 9 1 0 .int := ⟨RX1, TX1, 12, tyX1, rfl, by decide, bt92, iB_X1, tyX1_ok, nmX1, rfl, by decide +kernel⟩
theorem bt97 : Cond.fieldLink RX1 31 "TurningVillage$Gales" "asOf" "I" ∈ BT := bt_of (in_t1 (List.mem_of_getElem? (i := 88) rfl)) rfl
theorem fl_X1_31 : FLk RX1 31 1 6 := ⟨RX1, TX1, 12, rfl, by decide, bt97, iB_X1⟩
theorem fp_X1_31 : FPk RX1 31 1 6 .int := ⟨RX1, TX1, 12, tyX1, rfl, by decide, bt97, iB_X1, tyX1_ok, nmX1, rfl, by decide +kernel⟩
theorem bt98 : Cond.fieldLink RX1 34 "TurningVillage$Gales" "wing" "I" ∈ BT := bt_of (in_t1 (List.mem_of_getElem? (i := 90) rfl)) rfl
theorem fl_X1_34 : FLk RX1 34 1 7 := ⟨RX1, TX1, 12, rfl, by decide, bt98, iB_X1⟩
theorem fp_X1_34 : FPk RX1 34 1 7 .int := ⟨RX1, TX1, 12, tyX1, rfl, by decide, bt98, iB_X1, tyX1_ok, nmX1, rfl, by decide +kernel⟩
theorem bt99 : Cond.fieldLink RX1 37 "TurningVillage$Gales" "begin" "I" ∈ BT := bt_of (in_t1 (List.mem_of_getElem? (i := 92) rfl)) rfl
theorem fl_X1_37 : FLk RX1 37 1 8 := ⟨RX1, TX1, 12, rfl, by decide, bt99, iB_X1⟩
theorem fp_X1_37 : FPk RX1 37 1 8 .int := ⟨RX1, TX1, 12, tyX1, rfl, by decide, bt99, iB_X1, tyX1_ok, nmX1, rfl, by decide +kernel⟩
theorem bt100 : Cond.methodLink RX1 49 yX1_counts ∈ BT := bt_of (in_t2 (List.mem_of_getElem? (i := 127) rfl)) rfl
theorem bt101 : Cond.instanceMethod yX1_counts ∈ BT := bt_of (in_t2 (List.mem_of_getElem? (i := 129) rfl)) rfl
theorem bt102 : Cond.selects RX1 yX1_counts yX1_counts ∈ BT := bt_of (in_s1 (n := 12) (List.mem_of_getElem? (i := 8) rfl)) rfl
theorem bt103 : Cond.initialized RX1 ∈ BT := bt_of (in_t1 (List.mem_of_getElem? (i := 3) rfl)) rfl
theorem bt104 : Cond.code yX1_counts cX1_counts 2 (some .boolean) ∈ BT := bt_of (in_t2 (List.mem_of_getElem? (i := 130) rfl)) rfl
theorem vl_X1_49 (M : Mth) (h : mO M = RX1) : VLk M mX1_counts 49 1 1 := ⟨by rw [h]; exact bt100, bt101, bt102, bt103, bt104, ⟨by decide +kernel, by decide +kernel⟩, by decide +kernel, by decide, TX1, 12, rfl⟩
theorem bt105 : Cond.fieldLink RX1 40 "TurningVillage$Gales" "turns" "[I" ∈ BT := bt_of (in_t1 (List.mem_of_getElem? (i := 94) rfl)) rfl
theorem fl_X1_40 : FLk RX1 40 1 9 := ⟨RX1, TX1, 12, rfl, by decide, bt105, iB_X1⟩
theorem bt106 : Cond.methodLink RX1 53 yJ7_fill_53178 ∈ BT := bt_of (in_t2 (List.mem_of_getElem? (i := 126) rfl)) rfl
theorem bt107 : Cond.static yJ7_fill_53178 ∈ BT := bt_of (in_t2 (List.mem_of_getElem? (i := 49) rfl)) rfl
theorem bt108 : Cond.code yJ7_fill_53178 cJ7_fill_53178 4 none ∈ BT := bt_of (in_t2 (List.mem_of_getElem? (i := 50) rfl)) rfl
theorem sl_X1_53 (M : Mth) (h : mO M = RX1) : SLk M mJ7_fill_53178 53 2 := ⟨by rw [h]; exact bt106, bt107, bt87, bt108, ⟨by decide +kernel, by decide +kernel⟩, by decide +kernel, by decide⟩
theorem bt109 : Cond.fieldLink RX1 43 "TurningVillage$Gales" "daysOfTurn" "[I" ∈ BT := bt_of (in_t1 (List.mem_of_getElem? (i := 96) rfl)) rfl
theorem fl_X1_43 : FLk RX1 43 1 10 := ⟨RX1, TX1, 12, rfl, by decide, bt109, iB_X1⟩
theorem bt110 : Cond.fieldLink RX1 46 "TurningVillage$Gales" "firstDays" "[I" ∈ BT := bt_of (in_t1 (List.mem_of_getElem? (i := 98) rfl)) rfl
theorem fl_X1_46 : FLk RX1 46 1 11 := ⟨RX1, TX1, 12, rfl, by decide, bt110, iB_X1⟩
theorem bt111 : Cond.methodLink RX2 41 yX2_reckonCrops ∈ BT := bt_of (in_t3 (List.mem_of_getElem? (i := 136) rfl)) rfl
theorem bt112 : Cond.instanceMethod yX2_reckonCrops ∈ BT := bt_of (in_t3 (List.mem_of_getElem? (i := 138) rfl)) rfl
theorem bt113 : Cond.selects RX2 yX2_reckonCrops yX2_reckonCrops ∈ BT := bt_of (in_s2 (n := 9) (List.mem_of_getElem? (i := 2) rfl)) rfl
theorem bt114 : Cond.initialized RX2 ∈ BT := bt_of (in_t1 (List.mem_of_getElem? (i := 7) rfl)) rfl
theorem bt115 : Cond.code yX2_reckonCrops cX2_reckonCrops 6 (some .long) ∈ BT := bt_of (in_t3 (List.mem_of_getElem? (i := 139) rfl)) rfl
theorem vl_X2_41 (M : Mth) (h : mO M = RX2) : VLk M mX2_reckonCrops 41 2 1 := ⟨by rw [h]; exact bt111, bt112, bt113, bt114, bt115, ⟨by decide +kernel, by decide +kernel⟩, by decide +kernel, by decide, TX2, 9, rfl⟩
theorem bt116 : Cond.fieldLink RX2 28 "TurningVillage$Harvest" "fitting" "I" ∈ BT := bt_of (in_t1 (List.mem_of_getElem? (i := 190) rfl)) rfl
theorem fp_X2_28 : FPk RX2 28 2 5 .int := ⟨RX2, TX2, 9, tyX2, rfl, by decide, bt116, iB_X2, tyX2_ok, nmX2, rfl, by decide +kernel⟩
theorem bt117 : Cond.fieldLink RX2 32 "TurningVillage$Harvest" "first" "I" ∈ BT := bt_of (in_t1 (List.mem_of_getElem? (i := 192) rfl)) rfl
theorem fp_X2_32 : FPk RX2 32 2 6 .int := ⟨RX2, TX2, 9, tyX2, rfl, by decide, bt117, iB_X2, tyX2_ok, nmX2, rfl, by decide +kernel⟩
theorem bt118 : Cond.fieldLink RX2 35 "TurningVillage$Harvest" "sureWith" "I" ∈ BT := bt_of (in_t1 (List.mem_of_getElem? (i := 194) rfl)) rfl
theorem fp_X2_35 : FPk RX2 35 2 7 .int := ⟨RX2, TX2, 9, tyX2, rfl, by decide, bt118, iB_X2, tyX2_ok, nmX2, rfl, by decide +kernel⟩
theorem fl_X2_35 : FLk RX2 35 2 7 := ⟨RX2, TX2, 9, rfl, by decide, bt118, iB_X2⟩
theorem bt119 : Cond.fieldLink RX2 38 "TurningVillage$Harvest" "sureWithout" "I" ∈ BT := bt_of (in_t1 (List.mem_of_getElem? (i := 196) rfl)) rfl
theorem fp_X2_38 : FPk RX2 38 2 8 .int := ⟨RX2, TX2, 9, tyX2, rfl, by decide, bt119, iB_X2, tyX2_ok, nmX2, rfl, by decide +kernel⟩
theorem bt120 : Cond.fieldLink RX2 22 "TurningVillage$Harvest" "turns" "[I" ∈ BT := bt_of (in_t1 (List.mem_of_getElem? (i := 188) rfl)) rfl
theorem fl_X2_22 : FLk RX2 22 2 3 := ⟨RX2, TX2, 9, rfl, by decide, bt120, iB_X2⟩
theorem bt121 : Cond.methodLink RX2 45 yJ6_numberOfTrailingZeros_0f7a4 ∈ BT := bt_of (in_t3 (List.mem_of_getElem? (i := 141) rfl)) rfl
theorem bt122 : Cond.static yJ6_numberOfTrailingZeros_0f7a4 ∈ BT := bt_of (in_t3 (List.mem_of_getElem? (i := 142) rfl)) rfl
theorem bt123 : Cond.initialized RJ6 ∈ BT := bt_of (in_t1 (List.mem_of_getElem? (i := 13) rfl)) rfl
theorem bt124 : Cond.code yJ6_numberOfTrailingZeros_0f7a4 cJ6_numberOfTrailingZeros_0f7a4 2 (some .int) ∈ BT := bt_of (in_t3 (List.mem_of_getElem? (i := 143) rfl)) rfl
theorem sl_X2_45 (M : Mth) (h : mO M = RX2) : SLk M mJ6_numberOfTrailingZeros_0f7a4 45 1 := ⟨by rw [h]; exact bt121, bt122, bt123, bt124, ⟨by decide +kernel, by decide +kernel⟩, by decide +kernel, by decide⟩
theorem bt125 : Cond.methodLink RX2 51 yX2_extend ∈ BT := bt_of (in_t3 (List.mem_of_getElem? (i := 145) rfl)) rfl
theorem bt126 : Cond.instanceMethod yX2_extend ∈ BT := bt_of (in_t3 (List.mem_of_getElem? (i := 147) rfl)) rfl
theorem bt127 : Cond.selects RX2 yX2_extend yX2_extend ∈ BT := bt_of (in_s2 (n := 9) (List.mem_of_getElem? (i := 3) rfl)) rfl
theorem bt128 : Cond.code yX2_extend cX2_extend 4 none ∈ BT := bt_of (in_t3 (List.mem_of_getElem? (i := 148) rfl)) rfl
theorem vl_X2_51 (M : Mth) (h : mO M = RX2) : VLk M mX2_extend 51 2 2 := ⟨by rw [h]; exact bt125, bt126, bt127, bt114, bt128, ⟨by decide +kernel, by decide +kernel⟩, by decide +kernel, by decide, TX2, 9, rfl⟩
theorem bt129 : Cond.fieldLink RX2 25 "TurningVillage$Harvest" "crops" "[J" ∈ BT := bt_of (in_t1 (List.mem_of_getElem? (i := 189) rfl)) rfl
theorem fl_X2_25 : FLk RX2 25 2 4 := ⟨RX2, TX2, 9, rfl, by decide, bt129, iB_X2⟩
theorem bt130 : Cond.fieldLink RX2 19 "TurningVillage$Harvest" "bits" "[I" ∈ BT := bt_of (in_t1 (List.mem_of_getElem? (i := 187) rfl)) rfl
theorem fl_X2_19 : FLk RX2 19 2 2 := ⟨RX2, TX2, 9, rfl, by decide, bt130, iB_X2⟩
theorem bt131 : Cond.methodLink RX2 55 yX2_note ∈ BT := bt_of (in_t3 (List.mem_of_getElem? (i := 149) rfl)) rfl
theorem bt132 : Cond.instanceMethod yX2_note ∈ BT := bt_of (in_t3 (List.mem_of_getElem? (i := 151) rfl)) rfl
theorem bt133 : Cond.selects RX2 yX2_note yX2_note ∈ BT := bt_of (in_s2 (n := 9) (List.mem_of_getElem? (i := 4) rfl)) rfl
theorem bt134 : Cond.code yX2_note cX2_note 3 none ∈ BT := bt_of (in_t3 (List.mem_of_getElem? (i := 152) rfl)) rfl
theorem vl_X2_55 (M : Mth) (h : mO M = RX2) : VLk M mX2_note 55 2 2 := ⟨by rw [h]; exact bt131, bt132, bt133, bt114, bt134, ⟨by decide +kernel, by decide +kernel⟩, by decide +kernel, by decide, TX2, 9, rfl⟩
theorem bt135 : Cond.fieldLink RX2 15 "TurningVillage$Harvest" "cropOfTurn" "[J" ∈ BT := bt_of (in_t1 (List.mem_of_getElem? (i := 186) rfl)) rfl
theorem fl_X2_15 : FLk RX2 15 2 1 := ⟨RX2, TX2, 9, rfl, by decide, bt135, iB_X2⟩
theorem bt136 : Cond.methodLink RX2 58 yJ7_fill_d0a16 ∈ BT := bt_of (in_t3 (List.mem_of_getElem? (i := 140) rfl)) rfl
theorem sl_X2_58 (M : Mth) (h : mO M = RX2) : SLk M mJ7_fill_d0a16 58 2 := ⟨by rw [h]; exact bt136, bt86, bt87, bt88, ⟨by decide +kernel, by decide +kernel⟩, by decide +kernel, by decide⟩
theorem bt137 : Cond.fieldLink RX2 9 "TurningVillage$Harvest" "known" "[I" ∈ BT := bt_of (in_t1 (List.mem_of_getElem? (i := 184) rfl)) rfl
theorem fl_X2_9 : FLk RX2 9 2 0 := ⟨RX2, TX2, 9, rfl, by decide, bt137, iB_X2⟩
theorem bt138 : Cond.fieldLink RX2 64 "TurningVillage$Land" "things" "[I" ∈ BT := bt_of (in_t1 (List.mem_of_getElem? (i := 34) rfl)) rfl
theorem fl_X2_64 : FLk RX2 64 3 3 := ⟨RX3, TX3, 11, rfl, by decide, bt138, iB_X3⟩
theorem fl_X2_28 : FLk RX2 28 2 5 := ⟨RX2, TX2, 9, rfl, by decide, bt116, iB_X2⟩
theorem fl_X2_32 : FLk RX2 32 2 6 := ⟨RX2, TX2, 9, rfl, by decide, bt117, iB_X2⟩
theorem bt139 : Cond.methodLink RX2 69 yJ9_min_7cf53 ∈ BT := bt_of (in_t3 (List.mem_of_getElem? (i := 153) rfl)) rfl
theorem bt140 : Cond.static yJ9_min_7cf53 ∈ BT := bt_of (in_t2 (List.mem_of_getElem? (i := 206) rfl)) rfl
theorem bt141 : Cond.initialized RJ9 ∈ BT := bt_of (in_t1 (List.mem_of_getElem? (i := 11) rfl)) rfl
theorem bt142 : Cond.code yJ9_min_7cf53 cJ9_min_7cf53 2 (some .int) ∈ BT := bt_of (in_t2 (List.mem_of_getElem? (i := 207) rfl)) rfl
theorem sl_X2_69 (M : Mth) (h : mO M = RX2) : SLk M mJ9_min_7cf53 69 2 := ⟨by rw [h]; exact bt139, bt140, bt141, bt142, ⟨by decide +kernel, by decide +kernel⟩, by decide +kernel, by decide⟩
theorem fl_X2_38 : FLk RX2 38 2 8 := ⟨RX2, TX2, 9, rfl, by decide, bt119, iB_X2⟩
theorem bt143 : Cond.fieldLink RX3 15 "TurningVillage$Land" "length" "I" ∈ BT := bt_of (in_t1 (List.mem_of_getElem? (i := 29) rfl)) rfl
theorem fl_X3_15 : FLk RX3 15 3 1 := ⟨RX3, TX3, 11, rfl, by decide, bt143, iB_X3⟩
theorem bt144 : Cond.fieldLink RX3 9 "TurningVillage$Land" "text" "[I" ∈ BT := bt_of (in_t1 (List.mem_of_getElem? (i := 28) rfl)) rfl
theorem fl_X3_9 : FLk RX3 9 3 0 := ⟨RX3, TX3, 11, rfl, by decide, bt144, iB_X3⟩
theorem fp_X3_15 : FPk RX3 15 3 1 .int := ⟨RX3, TX3, 11, tyX3, rfl, by decide, bt143, iB_X3, tyX3_ok, nmX3, rfl, by decide +kernel⟩
theorem bt145 : Cond.methodLink RX3 46 yX3_interpret ∈ BT := bt_of (in_t2 (List.mem_of_getElem? (i := 40) rfl)) rfl
theorem bt146 : Cond.instanceMethod yX3_interpret ∈ BT := bt_of (in_t2 (List.mem_of_getElem? (i := 42) rfl)) rfl
theorem bt147 : Cond.selects RX3 yX3_interpret yX3_interpret ∈ BT := bt_of (in_s1 (n := 11) (List.mem_of_getElem? (i := 0) rfl)) rfl
theorem bt148 : Cond.initialized RX3 ∈ BT := bt_of (in_t1 (List.mem_of_getElem? (i := 2) rfl)) rfl
theorem bt149 : Cond.code yX3_interpret cX3_interpret 1 none ∈ BT := bt_of (in_t2 (List.mem_of_getElem? (i := 43) rfl)) rfl
theorem vl_X3_46 (M : Mth) (h : mO M = RX3) : VLk M mX3_interpret 46 3 0 := ⟨by rw [h]; exact bt145, bt146, bt147, bt148, bt149, ⟨by decide +kernel, by decide +kernel⟩, by decide +kernel, by decide, TX3, 11, rfl⟩
theorem bt150 : Cond.methodLink RX3 49 yX3_forget ∈ BT := bt_of (in_t2 (List.mem_of_getElem? (i := 44) rfl)) rfl
theorem bt151 : Cond.instanceMethod yX3_forget ∈ BT := bt_of (in_t2 (List.mem_of_getElem? (i := 46) rfl)) rfl
theorem bt152 : Cond.selects RX3 yX3_forget yX3_forget ∈ BT := bt_of (in_s1 (n := 11) (List.mem_of_getElem? (i := 1) rfl)) rfl
theorem bt153 : Cond.code yX3_forget cX3_forget 1 none ∈ BT := bt_of (in_t2 (List.mem_of_getElem? (i := 47) rfl)) rfl
theorem vl_X3_49 (M : Mth) (h : mO M = RX3) : VLk M mX3_forget 49 3 0 := ⟨by rw [h]; exact bt150, bt151, bt152, bt148, bt153, ⟨by decide +kernel, by decide +kernel⟩, by decide +kernel, by decide, TX3, 11, rfl⟩
theorem bt154 : Cond.methodLink RX3 52 yX3_takeSigns ∈ BT := bt_of (in_t2 (List.mem_of_getElem? (i := 51) rfl)) rfl
theorem bt155 : Cond.instanceMethod yX3_takeSigns ∈ BT := bt_of (in_t2 (List.mem_of_getElem? (i := 53) rfl)) rfl
theorem bt156 : Cond.selects RX3 yX3_takeSigns yX3_takeSigns ∈ BT := bt_of (in_s1 (n := 11) (List.mem_of_getElem? (i := 2) rfl)) rfl
theorem bt157 : Cond.code yX3_takeSigns cX3_takeSigns 3 (some .int) ∈ BT := bt_of (in_t2 (List.mem_of_getElem? (i := 54) rfl)) rfl
theorem vl_X3_52 (M : Mth) (h : mO M = RX3) : VLk M mX3_takeSigns 52 3 0 := ⟨by rw [h]; exact bt154, bt155, bt156, bt148, bt157, ⟨by decide +kernel, by decide +kernel⟩, by decide +kernel, by decide, TX3, 11, rfl⟩
theorem bt158 : Cond.fieldLink RX3 19 "TurningVillage$Land" "fault" "I" ∈ BT := bt_of (in_t1 (List.mem_of_getElem? (i := 31) rfl)) rfl
theorem fp_X3_19 : FPk RX3 19 3 2 .int := ⟨RX3, TX3, 11, tyX3, rfl, by decide, bt158, iB_X3, tyX3_ok, nmX3, rfl, by decide +kernel⟩
theorem fl_X3_19 : FLk RX3 19 3 2 := ⟨RX3, TX3, 11, rfl, by decide, bt158, iB_X3⟩
theorem bt159 : Cond.methodLink RX3 56 yX3_takeParts ∈ BT := bt_of (in_t2 (List.mem_of_getElem? (i := 62) rfl)) rfl
theorem bt160 : Cond.instanceMethod yX3_takeParts ∈ BT := bt_of (in_t2 (List.mem_of_getElem? (i := 64) rfl)) rfl
theorem bt161 : Cond.selects RX3 yX3_takeParts yX3_takeParts ∈ BT := bt_of (in_s1 (n := 11) (List.mem_of_getElem? (i := 4) rfl)) rfl
theorem bt162 : Cond.code yX3_takeParts cX3_takeParts 5 (some .int) ∈ BT := bt_of (in_t2 (List.mem_of_getElem? (i := 65) rfl)) rfl
theorem vl_X3_56 (M : Mth) (h : mO M = RX3) : VLk M mX3_takeParts 56 3 0 := ⟨by rw [h]; exact bt159, bt160, bt161, bt148, bt162, ⟨by decide +kernel, by decide +kernel⟩, by decide +kernel, by decide, TX3, 11, rfl⟩
theorem bt163 : Cond.fieldLink RX3 22 "TurningVillage$Land" "things" "[I" ∈ BT := bt_of (in_t1 (List.mem_of_getElem? (i := 33) rfl)) rfl
theorem fl_X3_22 : FLk RX3 22 3 3 := ⟨RX3, TX3, 11, rfl, by decide, bt163, iB_X3⟩
theorem bt164 : Cond.methodLink RX3 59 yJ7_fill_53178 ∈ BT := bt_of (in_t2 (List.mem_of_getElem? (i := 48) rfl)) rfl
theorem sl_X3_59 (M : Mth) (h : mO M = RX3) : SLk M mJ7_fill_53178 59 2 := ⟨by rw [h]; exact bt164, bt107, bt87, bt108, ⟨by decide +kernel, by decide +kernel⟩, by decide +kernel, by decide⟩
theorem bt165 : Cond.fieldLink RX3 25 "TurningVillage$Land" "closed" "[I" ∈ BT := bt_of (in_t1 (List.mem_of_getElem? (i := 37) rfl)) rfl
theorem fl_X3_25 : FLk RX3 25 3 4 := ⟨RX3, TX3, 11, rfl, by decide, bt165, iB_X3⟩
theorem bt166 : Cond.fieldLink RX3 31 "TurningVillage$Land" "bridges" "I" ∈ BT := bt_of (in_t1 (List.mem_of_getElem? (i := 42) rfl)) rfl
theorem fp_X3_31 : FPk RX3 31 3 6 .int := ⟨RX3, TX3, 11, tyX3, rfl, by decide, bt166, iB_X3, tyX3_ok, nmX3, rfl, by decide +kernel⟩
theorem bt167 : Cond.methodLink RX3 65 yX3_signAt ∈ BT := bt_of (in_t2 (List.mem_of_getElem? (i := 55) rfl)) rfl
theorem bt168 : Cond.instanceMethod yX3_signAt ∈ BT := bt_of (in_t2 (List.mem_of_getElem? (i := 57) rfl)) rfl
theorem bt169 : Cond.selects RX3 yX3_signAt yX3_signAt ∈ BT := bt_of (in_s1 (n := 11) (List.mem_of_getElem? (i := 3) rfl)) rfl
theorem bt170 : Cond.code yX3_signAt cX3_signAt 2 (some .int) ∈ BT := bt_of (in_t2 (List.mem_of_getElem? (i := 58) rfl)) rfl
theorem vl_X3_65 (M : Mth) (h : mO M = RX3) : VLk M mX3_signAt 65 3 1 := ⟨by rw [h]; exact bt167, bt168, bt169, bt148, bt170, ⟨by decide +kernel, by decide +kernel⟩, by decide +kernel, by decide, TX3, 11, rfl⟩
theorem bt171 : Cond.methodLink RX3 69 yX3_thingOf ∈ BT := bt_of (in_t2 (List.mem_of_getElem? (i := 59) rfl)) rfl
theorem bt172 : Cond.static yX3_thingOf ∈ BT := bt_of (in_t2 (List.mem_of_getElem? (i := 60) rfl)) rfl
theorem bt173 : Cond.code yX3_thingOf cX3_thingOf 1 (some .int) ∈ BT := bt_of (in_t2 (List.mem_of_getElem? (i := 61) rfl)) rfl
theorem sl_X3_69 (M : Mth) (h : mO M = RX3) : SLk M mX3_thingOf 69 1 := ⟨by rw [h]; exact bt171, bt172, bt148, bt173, ⟨by decide +kernel, by decide +kernel⟩, by decide +kernel, by decide⟩
theorem bt174 : Cond.methodLink RX3 72 yX3_takePath ∈ BT := bt_of (in_t2 (List.mem_of_getElem? (i := 66) rfl)) rfl
theorem bt175 : Cond.instanceMethod yX3_takePath ∈ BT := bt_of (in_t2 (List.mem_of_getElem? (i := 68) rfl)) rfl
theorem bt176 : Cond.selects RX3 yX3_takePath yX3_takePath ∈ BT := bt_of (in_s1 (n := 11) (List.mem_of_getElem? (i := 5) rfl)) rfl
theorem bt177 : Cond.code yX3_takePath cX3_takePath 3 (some .int) ∈ BT := bt_of (in_t2 (List.mem_of_getElem? (i := 69) rfl)) rfl
theorem vl_X3_72 (M : Mth) (h : mO M = RX3) : VLk M mX3_takePath 72 3 1 := ⟨by rw [h]; exact bt174, bt175, bt176, bt148, bt177, ⟨by decide +kernel, by decide +kernel⟩, by decide +kernel, by decide, TX3, 11, rfl⟩
theorem bt178 : Cond.methodLink RX3 75 yX3_takeBridge ∈ BT := bt_of (in_t2 (List.mem_of_getElem? (i := 75) rfl)) rfl
theorem bt179 : Cond.instanceMethod yX3_takeBridge ∈ BT := bt_of (in_t2 (List.mem_of_getElem? (i := 77) rfl)) rfl
theorem bt180 : Cond.selects RX3 yX3_takeBridge yX3_takeBridge ∈ BT := bt_of (in_s1 (n := 11) (List.mem_of_getElem? (i := 7) rfl)) rfl
theorem bt181 : Cond.code yX3_takeBridge cX3_takeBridge 6 (some .int) ∈ BT := bt_of (in_t2 (List.mem_of_getElem? (i := 78) rfl)) rfl
theorem vl_X3_75 (M : Mth) (h : mO M = RX3) : VLk M mX3_takeBridge 75 3 1 := ⟨by rw [h]; exact bt178, bt179, bt180, bt148, bt181, ⟨by decide +kernel, by decide +kernel⟩, by decide +kernel, by decide, TX3, 11, rfl⟩
theorem bt182 : Cond.methodLink RX3 78 yX3_figureAt ∈ BT := bt_of (in_t2 (List.mem_of_getElem? (i := 70) rfl)) rfl
theorem bt183 : Cond.instanceMethod yX3_figureAt ∈ BT := bt_of (in_t2 (List.mem_of_getElem? (i := 72) rfl)) rfl
theorem bt184 : Cond.selects RX3 yX3_figureAt yX3_figureAt ∈ BT := bt_of (in_s1 (n := 11) (List.mem_of_getElem? (i := 6) rfl)) rfl
theorem bt185 : Cond.code yX3_figureAt cX3_figureAt 3 (some .int) ∈ BT := bt_of (in_t2 (List.mem_of_getElem? (i := 73) rfl)) rfl
theorem vl_X3_78 (M : Mth) (h : mO M = RX3) : VLk M mX3_figureAt 78 3 1 := ⟨by rw [h]; exact bt182, bt183, bt184, bt148, bt185, ⟨by decide +kernel, by decide +kernel⟩, by decide +kernel, by decide, TX3, 11, rfl⟩
theorem bt186 : Cond.static yX7_within ∈ BT := bt_of (in_t2 (List.mem_of_getElem? (i := 34) rfl)) rfl
theorem bt187 : Cond.initialized RX7 ∈ BT := bt_of (in_t1 (List.mem_of_getElem? (i := 1) rfl)) rfl
theorem bt188 : Cond.code yX7_within cX7_within 2 (some .boolean) ∈ BT := bt_of (in_t2 (List.mem_of_getElem? (i := 35) rfl)) rfl
theorem nl_within : Cond.static (mY mX7_within) ∈ BT ∧ Cond.initialized (mY mX7_within).cls ∈ BT ∧ Cond.code (mY mX7_within) (mC mX7_within) (mN mX7_within) (mR mX7_within) ∈ BT := ⟨bt186, bt187, bt188⟩
theorem fl_X3_31 : FLk RX3 31 3 6 := ⟨RX3, TX3, 11, rfl, by decide, bt166, iB_X3⟩
theorem bt189 : Cond.fieldLink RX3 34 "TurningVillage$Land" "oneEnd" "[I" ∈ BT := bt_of (in_t1 (List.mem_of_getElem? (i := 45) rfl)) rfl
theorem fl_X3_34 : FLk RX3 34 3 7 := ⟨RX3, TX3, 11, rfl, by decide, bt189, iB_X3⟩
theorem bt190 : Cond.fieldLink RX3 37 "TurningVillage$Land" "otherEnd" "[I" ∈ BT := bt_of (in_t1 (List.mem_of_getElem? (i := 47) rfl)) rfl
theorem fl_X3_37 : FLk RX3 37 3 8 := ⟨RX3, TX3, 11, rfl, by decide, bt190, iB_X3⟩
theorem bt191 : Cond.fieldLink RX3 40 "TurningVillage$Land" "modulus" "[I" ∈ BT := bt_of (in_t1 (List.mem_of_getElem? (i := 49) rfl)) rfl
theorem fl_X3_40 : FLk RX3 40 3 9 := ⟨RX3, TX3, 11, rfl, by decide, bt191, iB_X3⟩
theorem bt192 : Cond.fieldLink RX3 43 "TurningVillage$Land" "remainder" "[I" ∈ BT := bt_of (in_t1 (List.mem_of_getElem? (i := 50) rfl)) rfl
theorem fl_X3_43 : FLk RX3 43 3 10 := ⟨RX3, TX3, 11, rfl, by decide, bt192, iB_X3⟩
theorem bt193 : Cond.fieldLink RX4 9 "TurningVillage$Sheet" "lost" "Z" ∈ BT := bt_of (in_t1 (List.mem_of_getElem? (i := 224) rfl)) rfl
theorem fp_X4_9 : FPk RX4 9 4 0 .boolean := ⟨RX4, TX4, 4, tyX4, rfl, by decide, bt193, iB_X4, tyX4_ok, nmX4, rfl, by decide +kernel⟩
theorem bt194 : Cond.fieldLink RX4 15 "TurningVillage$Sheet" "form" "I" ∈ BT := bt_of (in_t1 (List.mem_of_getElem? (i := 226) rfl)) rfl
theorem fp_X4_15 : FPk RX4 15 4 1 .int := ⟨RX4, TX4, 4, tyX4, rfl, by decide, bt194, iB_X4, tyX4_ok, nmX4, rfl, by decide +kernel⟩
theorem bt195 : Cond.fieldLink RX4 19 "TurningVillage$Sheet" "size" "I" ∈ BT := bt_of (in_t1 (List.mem_of_getElem? (i := 228) rfl)) rfl
theorem fp_X4_19 : FPk RX4 19 4 2 .int := ⟨RX4, TX4, 4, tyX4, rfl, by decide, bt195, iB_X4, tyX4_ok, nmX4, rfl, by decide +kernel⟩
theorem bt196 : Cond.fieldLink RX4 22 "TurningVillage$Sheet" "items" "[I" ∈ BT := bt_of (in_t1 (List.mem_of_getElem? (i := 230) rfl)) rfl
theorem fl_X4_22 : FLk RX4 22 4 3 := ⟨RX4, TX4, 4, rfl, by decide, bt196, iB_X4⟩
theorem bt197 : Cond.methodLink RX4 26 yJ7_fill_53178 ∈ BT := bt_of (in_t3 (List.mem_of_getElem? (i := 178) rfl)) rfl
theorem sl_X4_26 (M : Mth) (h : mO M = RX4) : SLk M mJ7_fill_53178 26 2 := ⟨by rw [h]; exact bt197, bt107, bt87, bt108, ⟨by decide +kernel, by decide +kernel⟩, by decide +kernel, by decide⟩
theorem fl_X4_9 : FLk RX4 9 4 0 := ⟨RX4, TX4, 4, rfl, by decide, bt193, iB_X4⟩
theorem fl_X4_15 : FLk RX4 15 4 1 := ⟨RX4, TX4, 4, rfl, by decide, bt194, iB_X4⟩
theorem fl_X4_19 : FLk RX4 19 4 2 := ⟨RX4, TX4, 4, rfl, by decide, bt195, iB_X4⟩
theorem bt198 : Cond.fieldLink RX5 15 "TurningVillage$Tenants" "wishes" "[I" ∈ BT := bt_of (in_t1 (List.mem_of_getElem? (i := 162) rfl)) rfl
theorem fl_X5_15 : FLk RX5 15 5 1 := ⟨RX5, TX5, 5, rfl, by decide, bt198, iB_X5⟩
theorem bt199 : Cond.fieldLink RX5 9 "TurningVillage$Tenants" "rows" "[I" ∈ BT := bt_of (in_t1 (List.mem_of_getElem? (i := 160) rfl)) rfl
theorem fl_X5_9 : FLk RX5 9 5 0 := ⟨RX5, TX5, 5, rfl, by decide, bt199, iB_X5⟩
theorem bt200 : Cond.fieldLink RX5 27 "TurningVillage$Land" "things" "[I" ∈ BT := bt_of (in_t1 (List.mem_of_getElem? (i := 35) rfl)) rfl
theorem fl_X5_27 : FLk RX5 27 3 3 := ⟨RX3, TX3, 11, rfl, by decide, bt200, iB_X3⟩
theorem bt201 : Cond.fieldLink RX5 18 "TurningVillage$Tenants" "joys" "[I" ∈ BT := bt_of (in_t1 (List.mem_of_getElem? (i := 163) rfl)) rfl
theorem fl_X5_18 : FLk RX5 18 5 2 := ⟨RX5, TX5, 5, rfl, by decide, bt201, iB_X5⟩
theorem bt202 : Cond.methodLink RX5 32 yX5_joyIn ∈ BT := bt_of (in_t3 (List.mem_of_getElem? (i := 74) rfl)) rfl
theorem bt203 : Cond.instanceMethod yX5_joyIn ∈ BT := bt_of (in_t3 (List.mem_of_getElem? (i := 59) rfl)) rfl
theorem bt204 : Cond.selects RX5 yX5_joyIn yX5_joyIn ∈ BT := bt_of (in_t3 (List.mem_of_getElem? (i := 60) rfl)) rfl
theorem bt205 : Cond.initialized RX5 ∈ BT := bt_of (in_t1 (List.mem_of_getElem? (i := 6) rfl)) rfl
theorem bt206 : Cond.code yX5_joyIn cX5_joyIn 8 (some .int) ∈ BT := bt_of (in_t3 (List.mem_of_getElem? (i := 61) rfl)) rfl
theorem vl_X5_32 (M : Mth) (h : mO M = RX5) : VLk M mX5_joyIn 32 5 4 := ⟨by rw [h]; exact bt202, bt203, bt204, bt205, bt206, ⟨by decide +kernel, by decide +kernel⟩, by decide +kernel, by decide, TX5, 5, rfl⟩
theorem bt207 : Cond.methodLink RX5 36 yX5_changeFirstPair ∈ BT := bt_of (in_t3 (List.mem_of_getElem? (i := 79) rfl)) rfl
theorem bt208 : Cond.instanceMethod yX5_changeFirstPair ∈ BT := bt_of (in_t3 (List.mem_of_getElem? (i := 81) rfl)) rfl
theorem bt209 : Cond.selects RX5 yX5_changeFirstPair yX5_changeFirstPair ∈ BT := bt_of (in_s1 (n := 5) (List.mem_of_getElem? (i := 14) rfl)) rfl
theorem bt210 : Cond.code yX5_changeFirstPair cX5_changeFirstPair 4 (some .boolean) ∈ BT := bt_of (in_t3 (List.mem_of_getElem? (i := 82) rfl)) rfl
theorem vl_X5_36 (M : Mth) (h : mO M = RX5) : VLk M mX5_changeFirstPair 36 5 0 := ⟨by rw [h]; exact bt207, bt208, bt209, bt205, bt210, ⟨by decide +kernel, by decide +kernel⟩, by decide +kernel, by decide, TX5, 5, rfl⟩
theorem bt211 : Cond.methodLink RX5 40 yX5_wouldChange ∈ BT := bt_of (in_t3 (List.mem_of_getElem? (i := 83) rfl)) rfl
theorem bt212 : Cond.instanceMethod yX5_wouldChange ∈ BT := bt_of (in_t3 (List.mem_of_getElem? (i := 85) rfl)) rfl
theorem bt213 : Cond.selects RX5 yX5_wouldChange yX5_wouldChange ∈ BT := bt_of (in_s1 (n := 5) (List.mem_of_getElem? (i := 15) rfl)) rfl
theorem bt214 : Cond.code yX5_wouldChange cX5_wouldChange 5 (some .boolean) ∈ BT := bt_of (in_t3 (List.mem_of_getElem? (i := 86) rfl)) rfl
theorem vl_X5_40 (M : Mth) (h : mO M = RX5) : VLk M mX5_wouldChange 40 5 2 := ⟨by rw [h]; exact bt211, bt212, bt213, bt205, bt214, ⟨by decide +kernel, by decide +kernel⟩, by decide +kernel, by decide, TX5, 5, rfl⟩
theorem bt215 : Cond.fieldLink RX5 21 "TurningVillage$Tenants" "mostJoy" "[I" ∈ BT := bt_of (in_t1 (List.mem_of_getElem? (i := 164) rfl)) rfl
theorem fl_X5_21 : FLk RX5 21 5 3 := ⟨RX5, TX5, 5, rfl, by decide, bt215, iB_X5⟩
theorem bt216 : Cond.methodLink RX5 44 yJ6_bitCount_0f7a4 ∈ BT := bt_of (in_t3 (List.mem_of_getElem? (i := 95) rfl)) rfl
theorem bt217 : Cond.static yJ6_bitCount_0f7a4 ∈ BT := bt_of (in_t3 (List.mem_of_getElem? (i := 96) rfl)) rfl
theorem bt218 : Cond.code yJ6_bitCount_0f7a4 cJ6_bitCount_0f7a4 1 (some .int) ∈ BT := bt_of (in_t3 (List.mem_of_getElem? (i := 97) rfl)) rfl
theorem sl_X5_44 (M : Mth) (h : mO M = RX5) : SLk M mJ6_bitCount_0f7a4 44 1 := ⟨by rw [h]; exact bt216, bt217, bt123, bt218, ⟨by decide +kernel, by decide +kernel⟩, by decide +kernel, by decide⟩
theorem bt219 : Cond.methodLink RX5 50 yX5_joyWith ∈ BT := bt_of (in_t3 (List.mem_of_getElem? (i := 101) rfl)) rfl
theorem bt220 : Cond.instanceMethod yX5_joyWith ∈ BT := bt_of (in_t3 (List.mem_of_getElem? (i := 103) rfl)) rfl
theorem bt221 : Cond.selects RX5 yX5_joyWith yX5_joyWith ∈ BT := bt_of (in_s2 (n := 5) (List.mem_of_getElem? (i := 0) rfl)) rfl
theorem bt222 : Cond.code yX5_joyWith cX5_joyWith 4 (some .int) ∈ BT := bt_of (in_t3 (List.mem_of_getElem? (i := 104) rfl)) rfl
theorem vl_X5_50 (M : Mth) (h : mO M = RX5) : VLk M mX5_joyWith 50 5 3 := ⟨by rw [h]; exact bt219, bt220, bt221, bt205, bt222, ⟨by decide +kernel, by decide +kernel⟩, by decide +kernel, by decide, TX5, 5, rfl⟩
theorem bt223 : Cond.methodLink RX5 54 yJ9_max_7cf53 ∈ BT := bt_of (in_t3 (List.mem_of_getElem? (i := 105) rfl)) rfl
theorem bt224 : Cond.static yJ9_max_7cf53 ∈ BT := bt_of (in_t3 (List.mem_of_getElem? (i := 106) rfl)) rfl
theorem bt225 : Cond.code yJ9_max_7cf53 cJ9_max_7cf53 2 (some .int) ∈ BT := bt_of (in_t3 (List.mem_of_getElem? (i := 107) rfl)) rfl
theorem sl_X5_54 (M : Mth) (h : mO M = RX5) : SLk M mJ9_max_7cf53 54 2 := ⟨by rw [h]; exact bt223, bt224, bt141, bt225, ⟨by decide +kernel, by decide +kernel⟩, by decide +kernel, by decide⟩
theorem bt226 : Cond.methodLink RX5 60 yX5_leastBestRow ∈ BT := bt_of (in_t3 (List.mem_of_getElem? (i := 108) rfl)) rfl
theorem bt227 : Cond.instanceMethod yX5_leastBestRow ∈ BT := bt_of (in_t3 (List.mem_of_getElem? (i := 110) rfl)) rfl
theorem bt228 : Cond.selects RX5 yX5_leastBestRow yX5_leastBestRow ∈ BT := bt_of (in_s2 (n := 5) (List.mem_of_getElem? (i := 1) rfl)) rfl
theorem bt229 : Cond.code yX5_leastBestRow cX5_leastBestRow 4 (some .int) ∈ BT := bt_of (in_t3 (List.mem_of_getElem? (i := 111) rfl)) rfl
theorem vl_X5_60 (M : Mth) (h : mO M = RX5) : VLk M mX5_leastBestRow 60 5 2 := ⟨by rw [h]; exact bt226, bt227, bt228, bt205, bt229, ⟨by decide +kernel, by decide +kernel⟩, by decide +kernel, by decide, TX5, 5, rfl⟩
theorem bt230 : Cond.fieldLink RX5 24 "TurningVillage$Tenants" "bestRows" "[I" ∈ BT := bt_of (in_t1 (List.mem_of_getElem? (i := 165) rfl)) rfl
theorem fl_X5_24 : FLk RX5 24 5 4 := ⟨RX5, TX5, 5, rfl, by decide, bt230, iB_X5⟩
theorem bt231 : Cond.fieldLink RX6 11 "TurningVillage$Walker" "steps" "[I" ∈ BT := bt_of (in_t1 (List.mem_of_getElem? (i := 147) rfl)) rfl
theorem fl_X6_11 : FLk RX6 11 6 0 := ⟨RX6, TX6, 2, rfl, by decide, bt231, iB_X6⟩
theorem bt232 : Cond.methodLink RX6 18 yJ7_fill_53178 ∈ BT := bt_of (in_t3 (List.mem_of_getElem? (i := 12) rfl)) rfl
theorem sl_X6_18 (M : Mth) (h : mO M = RX6) : SLk M mJ7_fill_53178 18 2 := ⟨by rw [h]; exact bt232, bt107, bt87, bt108, ⟨by decide +kernel, by decide +kernel⟩, by decide +kernel, by decide⟩
theorem bt233 : Cond.fieldLink RX6 15 "TurningVillage$Walker" "before" "[I" ∈ BT := bt_of (in_t1 (List.mem_of_getElem? (i := 148) rfl)) rfl
theorem fl_X6_15 : FLk RX6 15 6 1 := ⟨RX6, TX6, 2, rfl, by decide, bt233, iB_X6⟩
theorem bt234 : Cond.methodLink RX6 24 arraycopyName ∈ BT := bt_of (in_t3 (List.mem_of_getElem? (i := 17) rfl)) rfl
theorem bt235 : Cond.methodLink RX6 30 yX6_join ∈ BT := bt_of (in_t3 (List.mem_of_getElem? (i := 20) rfl)) rfl
theorem bt236 : Cond.instanceMethod yX6_join ∈ BT := bt_of (in_t3 (List.mem_of_getElem? (i := 22) rfl)) rfl
theorem bt237 : Cond.selects RX6 yX6_join yX6_join ∈ BT := bt_of (in_s1 (n := 2) (List.mem_of_getElem? (i := 12) rfl)) rfl
theorem bt238 : Cond.initialized RX6 ∈ BT := bt_of (in_t1 (List.mem_of_getElem? (i := 5) rfl)) rfl
theorem bt239 : Cond.code yX6_join cX6_join 3 none ∈ BT := bt_of (in_t3 (List.mem_of_getElem? (i := 23) rfl)) rfl
theorem vl_X6_30 (M : Mth) (h : mO M = RX6) : VLk M mX6_join 30 6 2 := ⟨by rw [h]; exact bt235, bt236, bt237, bt238, bt239, ⟨by decide +kernel, by decide +kernel⟩, by decide +kernel, by decide, TX6, 2, rfl⟩
theorem bt240 : Cond.fieldLink RX6 34 "TurningVillage$Land" "closed" "[I" ∈ BT := bt_of (in_t1 (List.mem_of_getElem? (i := 38) rfl)) rfl
theorem fl_X6_34 : FLk RX6 34 3 4 := ⟨RX3, TX3, 11, rfl, by decide, bt240, iB_X3⟩
theorem bt241 : Cond.fieldLink RX6 39 "TurningVillage$Land" "bridges" "I" ∈ BT := bt_of (in_t1 (List.mem_of_getElem? (i := 43) rfl)) rfl
theorem fl_X6_39 : FLk RX6 39 3 6 := ⟨RX3, TX3, 11, rfl, by decide, bt241, iB_X3⟩
theorem bt242 : Cond.methodLink RX6 43 yX3_meetsAt ∈ BT := bt_of (in_t3 (List.mem_of_getElem? (i := 25) rfl)) rfl
theorem bt243 : Cond.instanceMethod yX3_meetsAt ∈ BT := bt_of (in_t2 (List.mem_of_getElem? (i := 107) rfl)) rfl
theorem bt244 : Cond.selects RX3 yX3_meetsAt yX3_meetsAt ∈ BT := bt_of (in_t2 (List.mem_of_getElem? (i := 108) rfl)) rfl
theorem bt245 : Cond.code yX3_meetsAt cX3_meetsAt 4 (some .boolean) ∈ BT := bt_of (in_t2 (List.mem_of_getElem? (i := 109) rfl)) rfl
theorem vl_X6_43 (M : Mth) (h : mO M = RX6) : VLk M mX3_meetsAt 43 3 2 := ⟨by rw [h]; exact bt242, bt243, bt244, bt148, bt245, ⟨by decide +kernel, by decide +kernel⟩, by decide +kernel, by decide, TX3, 11, rfl⟩
theorem bt246 : Cond.fieldLink RX6 47 "TurningVillage$Land" "oneEnd" "[I" ∈ BT := bt_of (in_t1 (List.mem_of_getElem? (i := 46) rfl)) rfl
theorem fl_X6_47 : FLk RX6 47 3 7 := ⟨RX3, TX3, 11, rfl, by decide, bt246, iB_X3⟩
theorem bt247 : Cond.fieldLink RX6 50 "TurningVillage$Land" "otherEnd" "[I" ∈ BT := bt_of (in_t1 (List.mem_of_getElem? (i := 48) rfl)) rfl
theorem fl_X6_50 : FLk RX6 50 3 8 := ⟨RX3, TX3, 11, rfl, by decide, bt247, iB_X3⟩
theorem bt248 : Cond.methodLink RX6 53 yJ9_min_7cf53 ∈ BT := bt_of (in_t3 (List.mem_of_getElem? (i := 24) rfl)) rfl
theorem sl_X6_53 (M : Mth) (h : mO M = RX6) : SLk M mJ9_min_7cf53 53 2 := ⟨by rw [h]; exact bt248, bt140, bt141, bt142, ⟨by decide +kernel, by decide +kernel⟩, by decide +kernel, by decide⟩
theorem bt249 : Cond.methodLink RX7 63 yX7_within ∈ BT := bt_of (in_t2 (List.mem_of_getElem? (i := 33) rfl)) rfl
theorem sl_X7_63 (M : Mth) (h : mO M = RX7) : SLk M mX7_within 63 2 := ⟨by rw [h]; exact bt249, bt186, bt187, bt188, ⟨by decide +kernel, by decide +kernel⟩, by decide +kernel, by decide⟩
theorem bt250 : Cond.fieldLink RX7 12 "TurningVillage" "land" "LTurningVillage$Land;" ∈ BT := bt_of (in_t2 (List.mem_of_getElem? (i := 1) rfl)) rfl
theorem fl_X7_12 : FLk RX7 12 7 0 := ⟨RX7, TX7, 9, rfl, by decide, bt250, iB_X7⟩
theorem bt251 : Cond.methodLink RX7 67 yX3_append ∈ BT := bt_of (in_t2 (List.mem_of_getElem? (i := 36) rfl)) rfl
theorem bt252 : Cond.instanceMethod yX3_append ∈ BT := bt_of (in_t2 (List.mem_of_getElem? (i := 37) rfl)) rfl
theorem bt253 : Cond.selects RX3 yX3_append yX3_append ∈ BT := bt_of (in_t2 (List.mem_of_getElem? (i := 38) rfl)) rfl
theorem bt254 : Cond.code yX3_append cX3_append 2 (some .int) ∈ BT := bt_of (in_t2 (List.mem_of_getElem? (i := 39) rfl)) rfl
theorem vl_X7_67 (M : Mth) (h : mO M = RX7) : VLk M mX3_append 67 3 1 := ⟨by rw [h]; exact bt251, bt252, bt253, bt148, bt254, ⟨by decide +kernel, by decide +kernel⟩, by decide +kernel, by decide, TX3, 11, rfl⟩
theorem bt255 : Cond.methodLink RX7 71 yX3_empty ∈ BT := bt_of (in_t2 (List.mem_of_getElem? (i := 83) rfl)) rfl
theorem bt256 : Cond.instanceMethod yX3_empty ∈ BT := bt_of (in_t2 (List.mem_of_getElem? (i := 84) rfl)) rfl
theorem bt257 : Cond.selects RX3 yX3_empty yX3_empty ∈ BT := bt_of (in_t2 (List.mem_of_getElem? (i := 85) rfl)) rfl
theorem bt258 : Cond.code yX3_empty cX3_empty 2 (some .int) ∈ BT := bt_of (in_t2 (List.mem_of_getElem? (i := 86) rfl)) rfl
theorem vl_X7_71 (M : Mth) (h : mO M = RX7) : VLk M mX3_empty 71 3 0 := ⟨by rw [h]; exact bt255, bt256, bt257, bt148, bt258, ⟨by decide +kernel, by decide +kernel⟩, by decide +kernel, by decide, TX3, 11, rfl⟩
theorem bt259 : Cond.fieldLink RX7 75 "TurningVillage$Land" "fault" "I" ∈ BT := bt_of (in_t1 (List.mem_of_getElem? (i := 32) rfl)) rfl
theorem fl_X7_75 : FLk RX7 75 3 2 := ⟨RX3, TX3, 11, rfl, by decide, bt259, iB_X3⟩
theorem bt260 : Cond.fieldLink RX7 79 "TurningVillage$Land" "things" "[I" ∈ BT := bt_of (in_t1 (List.mem_of_getElem? (i := 36) rfl)) rfl
theorem fl_X7_79 : FLk RX7 79 3 3 := ⟨RX3, TX3, 11, rfl, by decide, bt260, iB_X3⟩
theorem bt261 : Cond.fieldLink RX7 83 "TurningVillage$Land" "closed" "[I" ∈ BT := bt_of (in_t1 (List.mem_of_getElem? (i := 39) rfl)) rfl
theorem fl_X7_83 : FLk RX7 83 3 4 := ⟨RX3, TX3, 11, rfl, by decide, bt261, iB_X3⟩
theorem bt262 : Cond.fieldLink RX7 86 "TurningVillage$Land" "suns" "[I" ∈ BT := bt_of (in_t1 (List.mem_of_getElem? (i := 41) rfl)) rfl
theorem fl_X7_86 : FLk RX7 86 3 5 := ⟨RX3, TX3, 11, rfl, by decide, bt262, iB_X3⟩
theorem bt263 : Cond.methodLink RX7 89 yX7_isDay ∈ BT := bt_of (in_t2 (List.mem_of_getElem? (i := 99) rfl)) rfl
theorem bt264 : Cond.static yX7_isDay ∈ BT := bt_of (in_t2 (List.mem_of_getElem? (i := 100) rfl)) rfl
theorem bt265 : Cond.code yX7_isDay cX7_isDay 1 (some .boolean) ∈ BT := bt_of (in_t2 (List.mem_of_getElem? (i := 101) rfl)) rfl
theorem sl_X7_89 (M : Mth) (h : mO M = RX7) : SLk M mX7_isDay 89 1 := ⟨by rw [h]; exact bt263, bt264, bt187, bt265, ⟨by decide +kernel, by decide +kernel⟩, by decide +kernel, by decide⟩
theorem bt266 : Cond.fieldLink RX7 93 "TurningVillage$Land" "bridges" "I" ∈ BT := bt_of (in_t1 (List.mem_of_getElem? (i := 44) rfl)) rfl
theorem fl_X7_93 : FLk RX7 93 3 6 := ⟨RX3, TX3, 11, rfl, by decide, bt266, iB_X3⟩
theorem bt267 : Cond.methodLink RX7 96 yX3_joins ∈ BT := bt_of (in_t2 (List.mem_of_getElem? (i := 102) rfl)) rfl
theorem bt268 : Cond.instanceMethod yX3_joins ∈ BT := bt_of (in_t2 (List.mem_of_getElem? (i := 103) rfl)) rfl
theorem bt269 : Cond.selects RX3 yX3_joins yX3_joins ∈ BT := bt_of (in_t2 (List.mem_of_getElem? (i := 104) rfl)) rfl
theorem bt270 : Cond.code yX3_joins cX3_joins 4 (some .boolean) ∈ BT := bt_of (in_t2 (List.mem_of_getElem? (i := 105) rfl)) rfl
theorem vl_X7_96 (M : Mth) (h : mO M = RX7) : VLk M mX3_joins 96 3 3 := ⟨by rw [h]; exact bt267, bt268, bt269, bt148, bt270, ⟨by decide +kernel, by decide +kernel⟩, by decide +kernel, by decide, TX3, 11, rfl⟩
theorem bt271 : Cond.fieldLink RX7 21 "TurningVillage" "gales" "LTurningVillage$Gales;" ∈ BT := bt_of (in_t2 (List.mem_of_getElem? (i := 2) rfl)) rfl
theorem fl_X7_21 : FLk RX7 21 7 1 := ⟨RX7, TX7, 9, rfl, by decide, bt271, iB_X7⟩
theorem bt272 : Cond.fieldLink RX7 100 "TurningVillage$Gales" "turns" "[I" ∈ BT := bt_of (in_t1 (List.mem_of_getElem? (i := 95) rfl)) rfl
theorem fl_X7_100 : FLk RX7 100 1 9 := ⟨RX1, TX1, 12, rfl, by decide, bt272, iB_X1⟩
theorem bt273 : Cond.methodLink RX7 103 yX3_meetsAt ∈ BT := bt_of (in_t2 (List.mem_of_getElem? (i := 106) rfl)) rfl
theorem vl_X7_103 (M : Mth) (h : mO M = RX7) : VLk M mX3_meetsAt 103 3 2 := ⟨by rw [h]; exact bt273, bt243, bt244, bt148, bt245, ⟨by decide +kernel, by decide +kernel⟩, by decide +kernel, by decide, TX3, 11, rfl⟩
theorem bt274 : Cond.methodLink RX7 106 yX1_mayBeTold ∈ BT := bt_of (in_t2 (List.mem_of_getElem? (i := 114) rfl)) rfl
theorem bt275 : Cond.instanceMethod yX1_mayBeTold ∈ BT := bt_of (in_t2 (List.mem_of_getElem? (i := 115) rfl)) rfl
theorem bt276 : Cond.selects RX1 yX1_mayBeTold yX1_mayBeTold ∈ BT := bt_of (in_t2 (List.mem_of_getElem? (i := 116) rfl)) rfl
theorem bt277 : Cond.code yX1_mayBeTold cX1_mayBeTold 2 (some .boolean) ∈ BT := bt_of (in_t2 (List.mem_of_getElem? (i := 117) rfl)) rfl
theorem vl_X7_106 (M : Mth) (h : mO M = RX7) : VLk M mX1_mayBeTold 106 1 1 := ⟨by rw [h]; exact bt274, bt275, bt276, bt103, bt277, ⟨by decide +kernel, by decide +kernel⟩, by decide +kernel, by decide, TX1, 12, rfl⟩
theorem bt278 : Cond.methodLink RX7 109 yX1_add ∈ BT := bt_of (in_t2 (List.mem_of_getElem? (i := 118) rfl)) rfl
theorem bt279 : Cond.instanceMethod yX1_add ∈ BT := bt_of (in_t2 (List.mem_of_getElem? (i := 119) rfl)) rfl
theorem bt280 : Cond.selects RX1 yX1_add yX1_add ∈ BT := bt_of (in_t2 (List.mem_of_getElem? (i := 120) rfl)) rfl
theorem bt281 : Cond.code yX1_add cX1_add 4 (some .boolean) ∈ BT := bt_of (in_t2 (List.mem_of_getElem? (i := 121) rfl)) rfl
theorem vl_X7_109 (M : Mth) (h : mO M = RX7) : VLk M mX1_add 109 1 3 := ⟨by rw [h]; exact bt278, bt279, bt280, bt103, bt281, ⟨by decide +kernel, by decide +kernel⟩, by decide +kernel, by decide, TX1, 12, rfl⟩
theorem bt282 : Cond.methodLink RX7 112 yX1_reckonTurns ∈ BT := bt_of (in_t2 (List.mem_of_getElem? (i := 122) rfl)) rfl
theorem bt283 : Cond.instanceMethod yX1_reckonTurns ∈ BT := bt_of (in_t2 (List.mem_of_getElem? (i := 123) rfl)) rfl
theorem bt284 : Cond.selects RX1 yX1_reckonTurns yX1_reckonTurns ∈ BT := bt_of (in_t2 (List.mem_of_getElem? (i := 124) rfl)) rfl
theorem bt285 : Cond.code yX1_reckonTurns cX1_reckonTurns 3 none ∈ BT := bt_of (in_t2 (List.mem_of_getElem? (i := 125) rfl)) rfl
theorem vl_X7_112 (M : Mth) (h : mO M = RX7) : VLk M mX1_reckonTurns 112 1 0 := ⟨by rw [h]; exact bt282, bt283, bt284, bt103, bt285, ⟨by decide +kernel, by decide +kernel⟩, by decide +kernel, by decide, TX1, 12, rfl⟩
theorem bt286 : Cond.fieldLink RX7 115 "TurningVillage$Gales" "number" "I" ∈ BT := bt_of (in_t1 (List.mem_of_getElem? (i := 82) rfl)) rfl
theorem fl_X7_115 : FLk RX7 115 1 0 := ⟨RX1, TX1, 12, rfl, by decide, bt286, iB_X1⟩
theorem bt287 : Cond.methodLink RX7 118 yX7_isSheet ∈ BT := bt_of (in_t2 (List.mem_of_getElem? (i := 135) rfl)) rfl
theorem bt288 : Cond.static yX7_isSheet ∈ BT := bt_of (in_t2 (List.mem_of_getElem? (i := 136) rfl)) rfl
theorem bt289 : Cond.code yX7_isSheet cX7_isSheet 1 (some .boolean) ∈ BT := bt_of (in_t2 (List.mem_of_getElem? (i := 137) rfl)) rfl
theorem sl_X7_118 (M : Mth) (h : mO M = RX7) : SLk M mX7_isSheet 118 1 := ⟨by rw [h]; exact bt287, bt288, bt187, bt289, ⟨by decide +kernel, by decide +kernel⟩, by decide +kernel, by decide⟩
theorem bt290 : Cond.fieldLink RX7 58 "TurningVillage" "sheets" "[LTurningVillage$Sheet;" ∈ BT := bt_of (in_t2 (List.mem_of_getElem? (i := 8) rfl)) rfl
theorem fl_X7_58 : FLk RX7 58 7 7 := ⟨RX7, TX7, 9, rfl, by decide, bt290, iB_X7⟩
theorem bt291 : Cond.fieldLink RX7 121 "TurningVillage$Sheet" "lost" "Z" ∈ BT := bt_of (in_t1 (List.mem_of_getElem? (i := 225) rfl)) rfl
theorem fl_X7_121 : FLk RX7 121 4 0 := ⟨RX4, TX4, 4, rfl, by decide, bt291, iB_X4⟩
theorem bt292 : Cond.methodLink RX7 125 yX7_found ∈ BT := bt_of (in_t2 (List.mem_of_getElem? (i := 138) rfl)) rfl
theorem bt293 : Cond.instanceMethod yX7_found ∈ BT := bt_of (in_t2 (List.mem_of_getElem? (i := 140) rfl)) rfl
theorem bt294 : Cond.selects RX7 yX7_found yX7_found ∈ BT := bt_of (in_s1 (n := 9) (List.mem_of_getElem? (i := 9) rfl)) rfl
theorem bt295 : Cond.code yX7_found cX7_found 2 (some .int) ∈ BT := bt_of (in_t2 (List.mem_of_getElem? (i := 141) rfl)) rfl
theorem vl_X7_125 (M : Mth) (h : mO M = RX7) : VLk M mX7_found 125 7 1 := ⟨by rw [h]; exact bt292, bt293, bt294, bt187, bt295, ⟨by decide +kernel, by decide +kernel⟩, by decide +kernel, by decide, TX7, 9, rfl⟩
theorem bt296 : Cond.fieldLink RX7 128 "TurningVillage$Sheet" "size" "I" ∈ BT := bt_of (in_t1 (List.mem_of_getElem? (i := 229) rfl)) rfl
theorem fl_X7_128 : FLk RX7 128 4 2 := ⟨RX4, TX4, 4, rfl, by decide, bt296, iB_X4⟩
theorem bt297 : Cond.fieldLink RX7 131 "TurningVillage$Sheet" "items" "[I" ∈ BT := bt_of (in_t1 (List.mem_of_getElem? (i := 231) rfl)) rfl
theorem fl_X7_131 : FLk RX7 131 4 3 := ⟨RX4, TX4, 4, rfl, by decide, bt297, iB_X4⟩
theorem bt298 : Cond.methodLink RX7 134 yX7_gale ∈ BT := bt_of (in_t2 (List.mem_of_getElem? (i := 142) rfl)) rfl
theorem bt299 : Cond.instanceMethod yX7_gale ∈ BT := bt_of (in_t2 (List.mem_of_getElem? (i := 111) rfl)) rfl
theorem bt300 : Cond.selects RX7 yX7_gale yX7_gale ∈ BT := bt_of (in_t2 (List.mem_of_getElem? (i := 112) rfl)) rfl
theorem bt301 : Cond.code yX7_gale cX7_gale 4 (some .int) ∈ BT := bt_of (in_t2 (List.mem_of_getElem? (i := 113) rfl)) rfl
theorem vl_X7_134 (M : Mth) (h : mO M = RX7) : VLk M mX7_gale 134 7 3 := ⟨by rw [h]; exact bt298, bt299, bt300, bt187, bt301, ⟨by decide +kernel, by decide +kernel⟩, by decide +kernel, by decide, TX7, 9, rfl⟩
theorem bt302 : Cond.methodLink RX7 138 yX1_isTaken ∈ BT := bt_of (in_t2 (List.mem_of_getElem? (i := 147) rfl)) rfl
theorem bt303 : Cond.instanceMethod yX1_isTaken ∈ BT := bt_of (in_t2 (List.mem_of_getElem? (i := 148) rfl)) rfl
theorem bt304 : Cond.selects RX1 yX1_isTaken yX1_isTaken ∈ BT := bt_of (in_t2 (List.mem_of_getElem? (i := 149) rfl)) rfl
theorem bt305 : Cond.code yX1_isTaken cX1_isTaken 2 (some .boolean) ∈ BT := bt_of (in_t2 (List.mem_of_getElem? (i := 150) rfl)) rfl
theorem vl_X7_138 (M : Mth) (h : mO M = RX7) : VLk M mX1_isTaken 138 1 1 := ⟨by rw [h]; exact bt302, bt303, bt304, bt103, bt305, ⟨by decide +kernel, by decide +kernel⟩, by decide +kernel, by decide, TX1, 12, rfl⟩
theorem bt306 : Cond.methodLink RX7 141 yX1_remove ∈ BT := bt_of (in_t2 (List.mem_of_getElem? (i := 151) rfl)) rfl
theorem bt307 : Cond.instanceMethod yX1_remove ∈ BT := bt_of (in_t2 (List.mem_of_getElem? (i := 152) rfl)) rfl
theorem bt308 : Cond.selects RX1 yX1_remove yX1_remove ∈ BT := bt_of (in_t2 (List.mem_of_getElem? (i := 153) rfl)) rfl
theorem bt309 : Cond.code yX1_remove cX1_remove 3 none ∈ BT := bt_of (in_t2 (List.mem_of_getElem? (i := 154) rfl)) rfl
theorem vl_X7_141 (M : Mth) (h : mO M = RX7) : VLk M mX1_remove 141 1 2 := ⟨by rw [h]; exact bt306, bt307, bt308, bt103, bt309, ⟨by decide +kernel, by decide +kernel⟩, by decide +kernel, by decide, TX1, 12, rfl⟩
theorem bt310 : Cond.methodLink RX7 145 yX1_change ∈ BT := bt_of (in_t2 (List.mem_of_getElem? (i := 159) rfl)) rfl
theorem bt311 : Cond.instanceMethod yX1_change ∈ BT := bt_of (in_t2 (List.mem_of_getElem? (i := 160) rfl)) rfl
theorem bt312 : Cond.selects RX1 yX1_change yX1_change ∈ BT := bt_of (in_t2 (List.mem_of_getElem? (i := 161) rfl)) rfl
theorem bt313 : Cond.code yX1_change cX1_change 4 (some .int) ∈ BT := bt_of (in_t2 (List.mem_of_getElem? (i := 162) rfl)) rfl
theorem vl_X7_145 (M : Mth) (h : mO M = RX7) : VLk M mX1_change 145 1 2 := ⟨by rw [h]; exact bt310, bt311, bt312, bt103, bt313, ⟨by decide +kernel, by decide +kernel⟩, by decide +kernel, by decide, TX1, 12, rfl⟩
theorem bt314 : Cond.methodLink RX7 149 yX7_isThing ∈ BT := bt_of (in_t2 (List.mem_of_getElem? (i := 179) rfl)) rfl
theorem bt315 : Cond.static yX7_isThing ∈ BT := bt_of (in_t2 (List.mem_of_getElem? (i := 180) rfl)) rfl
theorem bt316 : Cond.code yX7_isThing cX7_isThing 1 (some .boolean) ∈ BT := bt_of (in_t2 (List.mem_of_getElem? (i := 181) rfl)) rfl
theorem sl_X7_149 (M : Mth) (h : mO M = RX7) : SLk M mX7_isThing 149 1 := ⟨by rw [h]; exact bt314, bt315, bt187, bt316, ⟨by decide +kernel, by decide +kernel⟩, by decide +kernel, by decide⟩
theorem bt317 : Cond.methodLink RX7 152 yX7_isSpan ∈ BT := bt_of (in_t2 (List.mem_of_getElem? (i := 182) rfl)) rfl
theorem bt318 : Cond.static yX7_isSpan ∈ BT := bt_of (in_t2 (List.mem_of_getElem? (i := 183) rfl)) rfl
theorem bt319 : Cond.code yX7_isSpan cX7_isSpan 2 (some .boolean) ∈ BT := bt_of (in_t2 (List.mem_of_getElem? (i := 184) rfl)) rfl
theorem sl_X7_152 (M : Mth) (h : mO M = RX7) : SLk M mX7_isSpan 152 2 := ⟨by rw [h]; exact bt317, bt318, bt187, bt319, ⟨by decide +kernel, by decide +kernel⟩, by decide +kernel, by decide⟩
theorem bt320 : Cond.constantLong RX7 155 (-9223372036854775806) ∈ BT := bt_of (in_t2 (List.mem_of_getElem? (i := 185) rfl)) rfl
theorem bt321 : Cond.methodLink RX7 157 yX1_tally ∈ BT := bt_of (in_t2 (List.mem_of_getElem? (i := 186) rfl)) rfl
theorem bt322 : Cond.instanceMethod yX1_tally ∈ BT := bt_of (in_t2 (List.mem_of_getElem? (i := 187) rfl)) rfl
theorem bt323 : Cond.selects RX1 yX1_tally yX1_tally ∈ BT := bt_of (in_t2 (List.mem_of_getElem? (i := 188) rfl)) rfl
theorem bt324 : Cond.code yX1_tally cX1_tally 4 none ∈ BT := bt_of (in_t2 (List.mem_of_getElem? (i := 189) rfl)) rfl
theorem vl_X7_157 (M : Mth) (h : mO M = RX7) : VLk M mX1_tally 157 1 2 := ⟨by rw [h]; exact bt321, bt322, bt323, bt103, bt324, ⟨by decide +kernel, by decide +kernel⟩, by decide +kernel, by decide, TX1, 12, rfl⟩
theorem bt325 : Cond.methodLink RX7 160 yX7_daysWith ∈ BT := bt_of (in_t2 (List.mem_of_getElem? (i := 190) rfl)) rfl
theorem bt326 : Cond.instanceMethod yX7_daysWith ∈ BT := bt_of (in_t2 (List.mem_of_getElem? (i := 192) rfl)) rfl
theorem bt327 : Cond.selects RX7 yX7_daysWith yX7_daysWith ∈ BT := bt_of (in_s1 (n := 9) (List.mem_of_getElem? (i := 10) rfl)) rfl
theorem bt328 : Cond.code yX7_daysWith cX7_daysWith 5 (some .int) ∈ BT := bt_of (in_t2 (List.mem_of_getElem? (i := 193) rfl)) rfl
theorem vl_X7_160 (M : Mth) (h : mO M = RX7) : VLk M mX7_daysWith 160 7 2 := ⟨by rw [h]; exact bt325, bt326, bt327, bt187, bt328, ⟨by decide +kernel, by decide +kernel⟩, by decide +kernel, by decide, TX7, 9, rfl⟩
theorem bt329 : Cond.methodLink RX7 163 yX7_lowestTerms ∈ BT := bt_of (in_t2 (List.mem_of_getElem? (i := 194) rfl)) rfl
theorem bt330 : Cond.static yX7_lowestTerms ∈ BT := bt_of (in_t2 (List.mem_of_getElem? (i := 195) rfl)) rfl
theorem bt331 : Cond.code yX7_lowestTerms cX7_lowestTerms 12 (some .long) ∈ BT := bt_of (in_t2 (List.mem_of_getElem? (i := 196) rfl)) rfl
theorem sl_X7_163 (M : Mth) (h : mO M = RX7) : SLk M mX7_lowestTerms 163 3 := ⟨by rw [h]; exact bt329, bt330, bt187, bt331, ⟨by decide +kernel, by decide +kernel⟩, by decide +kernel, by decide⟩
theorem bt332 : Cond.fieldLink RX7 167 "TurningVillage$Gales" "daysOfTurn" "[I" ∈ BT := bt_of (in_t1 (List.mem_of_getElem? (i := 97) rfl)) rfl
theorem fl_X7_167 : FLk RX7 167 1 10 := ⟨RX1, TX1, 12, rfl, by decide, bt332, iB_X1⟩
theorem bt333 : Cond.methodLink RX7 170 yJ9_min_7cf53 ∈ BT := bt_of (in_t2 (List.mem_of_getElem? (i := 205) rfl)) rfl
theorem sl_X7_170 (M : Mth) (h : mO M = RX7) : SLk M mJ9_min_7cf53 170 2 := ⟨by rw [h]; exact bt333, bt140, bt141, bt142, ⟨by decide +kernel, by decide +kernel⟩, by decide +kernel, by decide⟩
theorem bt334 : Cond.methodLink RX7 175 yX1_findFirstDays ∈ BT := bt_of (in_t2 (List.mem_of_getElem? (i := 212) rfl)) rfl
theorem bt335 : Cond.instanceMethod yX1_findFirstDays ∈ BT := bt_of (in_t2 (List.mem_of_getElem? (i := 213) rfl)) rfl
theorem bt336 : Cond.selects RX1 yX1_findFirstDays yX1_findFirstDays ∈ BT := bt_of (in_t2 (List.mem_of_getElem? (i := 214) rfl)) rfl
theorem bt337 : Cond.code yX1_findFirstDays cX1_findFirstDays 3 none ∈ BT := bt_of (in_t2 (List.mem_of_getElem? (i := 215) rfl)) rfl
theorem vl_X7_175 (M : Mth) (h : mO M = RX7) : VLk M mX1_findFirstDays 175 1 1 := ⟨by rw [h]; exact bt334, bt335, bt336, bt103, bt337, ⟨by decide +kernel, by decide +kernel⟩, by decide +kernel, by decide, TX1, 12, rfl⟩
theorem bt338 : Cond.methodLink RX7 179 yX3_canWork ∈ BT := bt_of (in_t2 (List.mem_of_getElem? (i := 216) rfl)) rfl
theorem bt339 : Cond.instanceMethod yX3_canWork ∈ BT := bt_of (in_t2 (List.mem_of_getElem? (i := 217) rfl)) rfl
theorem bt340 : Cond.selects RX3 yX3_canWork yX3_canWork ∈ BT := bt_of (in_t2 (List.mem_of_getElem? (i := 218) rfl)) rfl
theorem bt341 : Cond.code yX3_canWork cX3_canWork 5 (some .boolean) ∈ BT := bt_of (in_t2 (List.mem_of_getElem? (i := 219) rfl)) rfl
theorem vl_X7_179 (M : Mth) (h : mO M = RX7) : VLk M mX3_canWork 179 3 4 := ⟨by rw [h]; exact bt338, bt339, bt340, bt148, bt341, ⟨by decide +kernel, by decide +kernel⟩, by decide +kernel, by decide, TX3, 11, rfl⟩
theorem bt342 : Cond.fieldLink RX7 183 "TurningVillage$Gales" "firstDays" "[I" ∈ BT := bt_of (in_t1 (List.mem_of_getElem? (i := 99) rfl)) rfl
theorem fl_X7_183 : FLk RX7 183 1 11 := ⟨RX1, TX1, 12, rfl, by decide, bt342, iB_X1⟩
theorem bt343 : Cond.fieldLink RX7 28 "TurningVillage" "chance" "LTurningVillage$Chance;" ∈ BT := bt_of (in_t2 (List.mem_of_getElem? (i := 3) rfl)) rfl
theorem fl_X7_28 : FLk RX7 28 7 2 := ⟨RX7, TX7, 9, rfl, by decide, bt343, iB_X7⟩
theorem bt344 : Cond.methodLink RX7 186 yX0_begin ∈ BT := bt_of (in_t2 (List.mem_of_getElem? (i := 224) rfl)) rfl
theorem bt345 : Cond.instanceMethod yX0_begin ∈ BT := bt_of (in_t2 (List.mem_of_getElem? (i := 225) rfl)) rfl
theorem bt346 : Cond.selects RX0 yX0_begin yX0_begin ∈ BT := bt_of (in_t2 (List.mem_of_getElem? (i := 226) rfl)) rfl
theorem bt347 : Cond.initialized RX0 ∈ BT := bt_of (in_t1 (List.mem_of_getElem? (i := 4) rfl)) rfl
theorem bt348 : Cond.code yX0_begin cX0_begin 2 none ∈ BT := bt_of (in_t2 (List.mem_of_getElem? (i := 227) rfl)) rfl
theorem vl_X7_186 (M : Mth) (h : mO M = RX7) : VLk M mX0_begin 186 0 1 := ⟨by rw [h]; exact bt344, bt345, bt346, bt347, bt348, ⟨by decide +kernel, by decide +kernel⟩, by decide +kernel, by decide, TX0, 2, rfl⟩
theorem bt349 : Cond.methodLink RX7 189 yX0_oneDay ∈ BT := bt_of (in_t2 (List.mem_of_getElem? (i := 231) rfl)) rfl
theorem bt350 : Cond.instanceMethod yX0_oneDay ∈ BT := bt_of (in_t2 (List.mem_of_getElem? (i := 232) rfl)) rfl
theorem bt351 : Cond.selects RX0 yX0_oneDay yX0_oneDay ∈ BT := bt_of (in_t2 (List.mem_of_getElem? (i := 233) rfl)) rfl
theorem bt352 : Cond.code yX0_oneDay cX0_oneDay 7 none ∈ BT := bt_of (in_t2 (List.mem_of_getElem? (i := 234) rfl)) rfl
theorem vl_X7_189 (M : Mth) (h : mO M = RX7) : VLk M mX0_oneDay 189 0 1 := ⟨by rw [h]; exact bt349, bt350, bt351, bt347, bt352, ⟨by decide +kernel, by decide +kernel⟩, by decide +kernel, by decide, TX0, 2, rfl⟩
theorem bt353 : Cond.fieldLink RX7 192 "TurningVillage$Chance" "weights" "[J" ∈ BT := bt_of (in_t1 (List.mem_of_getElem? (i := 132) rfl)) rfl
theorem fl_X7_192 : FLk RX7 192 0 0 := ⟨RX0, TX0, 2, rfl, by decide, bt353, iB_X0⟩
theorem bt354 : Cond.fieldLink RX7 196 "TurningVillage$Chance" "all" "J" ∈ BT := bt_of (in_t1 (List.mem_of_getElem? (i := 134) rfl)) rfl
theorem fl_X7_196 : FLk RX7 196 0 1 := ⟨RX0, TX0, 2, rfl, by decide, bt354, iB_X0⟩
theorem bt355 : Cond.methodLink RX7 200 yX0_left ∈ BT := bt_of (in_t2 (List.mem_of_getElem? (i := 236) rfl)) rfl
theorem bt356 : Cond.instanceMethod yX0_left ∈ BT := bt_of (in_t2 (List.mem_of_getElem? (i := 237) rfl)) rfl
theorem bt357 : Cond.selects RX0 yX0_left yX0_left ∈ BT := bt_of (in_t2 (List.mem_of_getElem? (i := 238) rfl)) rfl
theorem bt358 : Cond.code yX0_left cX0_left 4 (some .long) ∈ BT := bt_of (in_t2 (List.mem_of_getElem? (i := 239) rfl)) rfl
theorem vl_X7_200 (M : Mth) (h : mO M = RX7) : VLk M mX0_left 200 0 0 := ⟨by rw [h]; exact bt355, bt356, bt357, bt347, bt358, ⟨by decide +kernel, by decide +kernel⟩, by decide +kernel, by decide, TX0, 2, rfl⟩
theorem bt359 : Cond.methodLink RX7 204 yX7_walkTo ∈ BT := bt_of (in_t3 (List.mem_of_getElem? (i := 4) rfl)) rfl
theorem bt360 : Cond.instanceMethod yX7_walkTo ∈ BT := bt_of (in_t3 (List.mem_of_getElem? (i := 6) rfl)) rfl
theorem bt361 : Cond.selects RX7 yX7_walkTo yX7_walkTo ∈ BT := bt_of (in_s1 (n := 9) (List.mem_of_getElem? (i := 11) rfl)) rfl
theorem bt362 : Cond.code yX7_walkTo cX7_walkTo 5 (some .int) ∈ BT := bt_of (in_t3 (List.mem_of_getElem? (i := 7) rfl)) rfl
theorem vl_X7_204 (M : Mth) (h : mO M = RX7) : VLk M mX7_walkTo 204 7 3 := ⟨by rw [h]; exact bt359, bt360, bt361, bt187, bt362, ⟨by decide +kernel, by decide +kernel⟩, by decide +kernel, by decide, TX7, 9, rfl⟩
theorem bt363 : Cond.fieldLink RX7 35 "TurningVillage" "walker" "LTurningVillage$Walker;" ∈ BT := bt_of (in_t2 (List.mem_of_getElem? (i := 4) rfl)) rfl
theorem fl_X7_35 : FLk RX7 35 7 3 := ⟨RX7, TX7, 9, rfl, by decide, bt363, iB_X7⟩
theorem bt364 : Cond.methodLink RX7 207 yX6_stepsTo ∈ BT := bt_of (in_t3 (List.mem_of_getElem? (i := 34) rfl)) rfl
theorem bt365 : Cond.instanceMethod yX6_stepsTo ∈ BT := bt_of (in_t3 (List.mem_of_getElem? (i := 35) rfl)) rfl
theorem bt366 : Cond.selects RX6 yX6_stepsTo yX6_stepsTo ∈ BT := bt_of (in_t3 (List.mem_of_getElem? (i := 36) rfl)) rfl
theorem bt367 : Cond.code yX6_stepsTo cX6_stepsTo 2 (some .int) ∈ BT := bt_of (in_t3 (List.mem_of_getElem? (i := 37) rfl)) rfl
theorem vl_X7_207 (M : Mth) (h : mO M = RX7) : VLk M mX6_stepsTo 207 6 1 := ⟨by rw [h]; exact bt364, bt365, bt366, bt238, bt367, ⟨by decide +kernel, by decide +kernel⟩, by decide +kernel, by decide, TX6, 2, rfl⟩
theorem bt368 : Cond.methodLink RX7 210 yX6_begin ∈ BT := bt_of (in_t3 (List.mem_of_getElem? (i := 8) rfl)) rfl
theorem bt369 : Cond.instanceMethod yX6_begin ∈ BT := bt_of (in_t3 (List.mem_of_getElem? (i := 9) rfl)) rfl
theorem bt370 : Cond.selects RX6 yX6_begin yX6_begin ∈ BT := bt_of (in_t3 (List.mem_of_getElem? (i := 10) rfl)) rfl
theorem bt371 : Cond.code yX6_begin cX6_begin 2 none ∈ BT := bt_of (in_t3 (List.mem_of_getElem? (i := 11) rfl)) rfl
theorem vl_X7_210 (M : Mth) (h : mO M = RX7) : VLk M mX6_begin 210 6 1 := ⟨by rw [h]; exact bt368, bt369, bt370, bt238, bt371, ⟨by decide +kernel, by decide +kernel⟩, by decide +kernel, by decide, TX6, 2, rfl⟩
theorem bt372 : Cond.fieldLink RX7 39 "TurningVillage" "companion" "LTurningVillage$Walker;" ∈ BT := bt_of (in_t2 (List.mem_of_getElem? (i := 5) rfl)) rfl
theorem fl_X7_39 : FLk RX7 39 7 4 := ⟨RX7, TX7, 9, rfl, by decide, bt372, iB_X7⟩
theorem bt373 : Cond.methodLink RX7 211 yX6_oneDay ∈ BT := bt_of (in_t3 (List.mem_of_getElem? (i := 13) rfl)) rfl
theorem bt374 : Cond.instanceMethod yX6_oneDay ∈ BT := bt_of (in_t3 (List.mem_of_getElem? (i := 14) rfl)) rfl
theorem bt375 : Cond.selects RX6 yX6_oneDay yX6_oneDay ∈ BT := bt_of (in_t3 (List.mem_of_getElem? (i := 15) rfl)) rfl
theorem bt376 : Cond.code yX6_oneDay cX6_oneDay 5 none ∈ BT := bt_of (in_t3 (List.mem_of_getElem? (i := 16) rfl)) rfl
theorem vl_X7_211 (M : Mth) (h : mO M = RX7) : VLk M mX6_oneDay 211 6 2 := ⟨by rw [h]; exact bt373, bt374, bt375, bt238, bt376, ⟨by decide +kernel, by decide +kernel⟩, by decide +kernel, by decide, TX6, 2, rfl⟩
theorem bt377 : Cond.methodLink RX7 214 yX6_isOn ∈ BT := bt_of (in_t3 (List.mem_of_getElem? (i := 26) rfl)) rfl
theorem bt378 : Cond.instanceMethod yX6_isOn ∈ BT := bt_of (in_t3 (List.mem_of_getElem? (i := 27) rfl)) rfl
theorem bt379 : Cond.selects RX6 yX6_isOn yX6_isOn ∈ BT := bt_of (in_t3 (List.mem_of_getElem? (i := 28) rfl)) rfl
theorem bt380 : Cond.code yX6_isOn cX6_isOn 2 (some .boolean) ∈ BT := bt_of (in_t3 (List.mem_of_getElem? (i := 29) rfl)) rfl
theorem vl_X7_214 (M : Mth) (h : mO M = RX7) : VLk M mX6_isOn 214 6 1 := ⟨by rw [h]; exact bt377, bt378, bt379, bt238, bt380, ⟨by decide +kernel, by decide +kernel⟩, by decide +kernel, by decide, TX6, 2, rfl⟩
theorem bt381 : Cond.fieldLink RX7 45 "TurningVillage" "tenants" "LTurningVillage$Tenants;" ∈ BT := bt_of (in_t2 (List.mem_of_getElem? (i := 6) rfl)) rfl
theorem fl_X7_45 : FLk RX7 45 7 5 := ⟨RX7, TX7, 9, rfl, by decide, bt381, iB_X7⟩
theorem bt382 : Cond.methodLink RX7 217 yX5_changeWish ∈ BT := bt_of (in_t3 (List.mem_of_getElem? (i := 46) rfl)) rfl
theorem bt383 : Cond.instanceMethod yX5_changeWish ∈ BT := bt_of (in_t3 (List.mem_of_getElem? (i := 47) rfl)) rfl
theorem bt384 : Cond.selects RX5 yX5_changeWish yX5_changeWish ∈ BT := bt_of (in_t3 (List.mem_of_getElem? (i := 48) rfl)) rfl
theorem bt385 : Cond.code yX5_changeWish cX5_changeWish 6 (some .int) ∈ BT := bt_of (in_t3 (List.mem_of_getElem? (i := 49) rfl)) rfl
theorem vl_X7_217 (M : Mth) (h : mO M = RX7) : VLk M mX5_changeWish 217 5 3 := ⟨by rw [h]; exact bt382, bt383, bt384, bt205, bt385, ⟨by decide +kernel, by decide +kernel⟩, by decide +kernel, by decide, TX5, 5, rfl⟩
theorem bt386 : Cond.fieldLink RX7 220 "TurningVillage$Tenants" "rows" "[I" ∈ BT := bt_of (in_t1 (List.mem_of_getElem? (i := 161) rfl)) rfl
theorem fl_X7_220 : FLk RX7 220 5 0 := ⟨RX5, TX5, 5, rfl, by decide, bt386, iB_X5⟩
theorem bt387 : Cond.methodLink RX7 223 yX5_joyIn ∈ BT := bt_of (in_t3 (List.mem_of_getElem? (i := 58) rfl)) rfl
theorem vl_X7_223 (M : Mth) (h : mO M = RX7) : VLk M mX5_joyIn 223 5 4 := ⟨by rw [h]; exact bt387, bt203, bt204, bt205, bt206, ⟨by decide +kernel, by decide +kernel⟩, by decide +kernel, by decide, TX5, 5, rfl⟩
theorem bt388 : Cond.methodLink RX7 227 yX7_reckonJoys ∈ BT := bt_of (in_t3 (List.mem_of_getElem? (i := 66) rfl)) rfl
theorem bt389 : Cond.instanceMethod yX7_reckonJoys ∈ BT := bt_of (in_t3 (List.mem_of_getElem? (i := 68) rfl)) rfl
theorem bt390 : Cond.selects RX7 yX7_reckonJoys yX7_reckonJoys ∈ BT := bt_of (in_s1 (n := 9) (List.mem_of_getElem? (i := 13) rfl)) rfl
theorem bt391 : Cond.code yX7_reckonJoys cX7_reckonJoys 3 none ∈ BT := bt_of (in_t3 (List.mem_of_getElem? (i := 69) rfl)) rfl
theorem vl_X7_227 (M : Mth) (h : mO M = RX7) : VLk M mX7_reckonJoys 227 7 2 := ⟨by rw [h]; exact bt388, bt389, bt390, bt187, bt391, ⟨by decide +kernel, by decide +kernel⟩, by decide +kernel, by decide, TX7, 9, rfl⟩
theorem bt392 : Cond.methodLink RX7 230 yX5_changeUntilNobodyWould ∈ BT := bt_of (in_t3 (List.mem_of_getElem? (i := 75) rfl)) rfl
theorem bt393 : Cond.instanceMethod yX5_changeUntilNobodyWould ∈ BT := bt_of (in_t3 (List.mem_of_getElem? (i := 76) rfl)) rfl
theorem bt394 : Cond.selects RX5 yX5_changeUntilNobodyWould yX5_changeUntilNobodyWould ∈ BT := bt_of (in_t3 (List.mem_of_getElem? (i := 77) rfl)) rfl
theorem bt395 : Cond.code yX5_changeUntilNobodyWould cX5_changeUntilNobodyWould 2 (some .int) ∈ BT := bt_of (in_t3 (List.mem_of_getElem? (i := 78) rfl)) rfl
theorem vl_X7_230 (M : Mth) (h : mO M = RX7) : VLk M mX5_changeUntilNobodyWould 230 5 0 := ⟨by rw [h]; exact bt392, bt393, bt394, bt205, bt395, ⟨by decide +kernel, by decide +kernel⟩, by decide +kernel, by decide, TX5, 5, rfl⟩
theorem bt396 : Cond.methodLink RX7 233 yX5_findBest ∈ BT := bt_of (in_t3 (List.mem_of_getElem? (i := 91) rfl)) rfl
theorem bt397 : Cond.instanceMethod yX5_findBest ∈ BT := bt_of (in_t3 (List.mem_of_getElem? (i := 92) rfl)) rfl
theorem bt398 : Cond.selects RX5 yX5_findBest yX5_findBest ∈ BT := bt_of (in_t3 (List.mem_of_getElem? (i := 93) rfl)) rfl
theorem bt399 : Cond.code yX5_findBest cX5_findBest 5 none ∈ BT := bt_of (in_t3 (List.mem_of_getElem? (i := 94) rfl)) rfl
theorem vl_X7_233 (M : Mth) (h : mO M = RX7) : VLk M mX5_findBest 233 5 0 := ⟨by rw [h]; exact bt396, bt397, bt398, bt205, bt399, ⟨by decide +kernel, by decide +kernel⟩, by decide +kernel, by decide, TX5, 5, rfl⟩
theorem bt400 : Cond.methodLink RX7 236 yX5_bestJoy ∈ BT := bt_of (in_t3 (List.mem_of_getElem? (i := 112) rfl)) rfl
theorem bt401 : Cond.instanceMethod yX5_bestJoy ∈ BT := bt_of (in_t3 (List.mem_of_getElem? (i := 113) rfl)) rfl
theorem bt402 : Cond.selects RX5 yX5_bestJoy yX5_bestJoy ∈ BT := bt_of (in_t3 (List.mem_of_getElem? (i := 114) rfl)) rfl
theorem bt403 : Cond.code yX5_bestJoy cX5_bestJoy 1 (some .int) ∈ BT := bt_of (in_t3 (List.mem_of_getElem? (i := 115) rfl)) rfl
theorem vl_X7_236 (M : Mth) (h : mO M = RX7) : VLk M mX5_bestJoy 236 5 0 := ⟨by rw [h]; exact bt400, bt401, bt402, bt205, bt403, ⟨by decide +kernel, by decide +kernel⟩, by decide +kernel, by decide, TX5, 5, rfl⟩
theorem bt404 : Cond.fieldLink RX7 239 "TurningVillage$Tenants" "bestRows" "[I" ∈ BT := bt_of (in_t1 (List.mem_of_getElem? (i := 166) rfl)) rfl
theorem fl_X7_239 : FLk RX7 239 5 4 := ⟨RX5, TX5, 5, rfl, by decide, bt404, iB_X5⟩
theorem bt405 : Cond.methodLink RX7 242 yX5_envious ∈ BT := bt_of (in_t3 (List.mem_of_getElem? (i := 120) rfl)) rfl
theorem bt406 : Cond.instanceMethod yX5_envious ∈ BT := bt_of (in_t3 (List.mem_of_getElem? (i := 121) rfl)) rfl
theorem bt407 : Cond.selects RX5 yX5_envious yX5_envious ∈ BT := bt_of (in_t3 (List.mem_of_getElem? (i := 122) rfl)) rfl
theorem bt408 : Cond.code yX5_envious cX5_envious 5 (some .int) ∈ BT := bt_of (in_t3 (List.mem_of_getElem? (i := 123) rfl)) rfl
theorem vl_X7_242 (M : Mth) (h : mO M = RX7) : VLk M mX5_envious 242 5 0 := ⟨by rw [h]; exact bt405, bt406, bt407, bt205, bt408, ⟨by decide +kernel, by decide +kernel⟩, by decide +kernel, by decide, TX5, 5, rfl⟩
theorem bt409 : Cond.fieldLink RX7 52 "TurningVillage" "harvest" "LTurningVillage$Harvest;" ∈ BT := bt_of (in_t2 (List.mem_of_getElem? (i := 7) rfl)) rfl
theorem fl_X7_52 : FLk RX7 52 7 6 := ⟨RX7, TX7, 9, rfl, by decide, bt409, iB_X7⟩
theorem bt410 : Cond.fieldLink RX7 245 "TurningVillage$Harvest" "known" "[I" ∈ BT := bt_of (in_t1 (List.mem_of_getElem? (i := 185) rfl)) rfl
theorem fl_X7_245 : FLk RX7 245 2 0 := ⟨RX2, TX2, 9, rfl, by decide, bt410, iB_X2⟩
theorem bt411 : Cond.fieldLink RX7 248 "TurningVillage$Gales" "begin" "I" ∈ BT := bt_of (in_t1 (List.mem_of_getElem? (i := 93) rfl)) rfl
theorem fl_X7_248 : FLk RX7 248 1 8 := ⟨RX1, TX1, 12, rfl, by decide, bt411, iB_X1⟩
theorem bt412 : Cond.methodLink RX7 250 yX2_search ∈ BT := bt_of (in_t3 (List.mem_of_getElem? (i := 132) rfl)) rfl
theorem bt413 : Cond.instanceMethod yX2_search ∈ BT := bt_of (in_t3 (List.mem_of_getElem? (i := 133) rfl)) rfl
theorem bt414 : Cond.selects RX2 yX2_search yX2_search ∈ BT := bt_of (in_t3 (List.mem_of_getElem? (i := 134) rfl)) rfl
theorem bt415 : Cond.code yX2_search cX2_search 9 none ∈ BT := bt_of (in_t3 (List.mem_of_getElem? (i := 135) rfl)) rfl
theorem vl_X7_250 (M : Mth) (h : mO M = RX7) : VLk M mX2_search 250 2 3 := ⟨by rw [h]; exact bt412, bt413, bt414, bt114, bt415, ⟨by decide +kernel, by decide +kernel⟩, by decide +kernel, by decide, TX2, 9, rfl⟩
theorem bt416 : Cond.fieldLink RX7 254 "TurningVillage$Harvest" "fitting" "I" ∈ BT := bt_of (in_t1 (List.mem_of_getElem? (i := 191) rfl)) rfl
theorem fl_X7_254 : FLk RX7 254 2 5 := ⟨RX2, TX2, 9, rfl, by decide, bt416, iB_X2⟩
theorem bt417 : Cond.fieldLink RX7 257 "TurningVillage$Harvest" "first" "I" ∈ BT := bt_of (in_t1 (List.mem_of_getElem? (i := 193) rfl)) rfl
theorem fl_X7_257 : FLk RX7 257 2 6 := ⟨RX2, TX2, 9, rfl, by decide, bt417, iB_X2⟩
theorem bt418 : Cond.fieldLink RX7 260 "TurningVillage$Harvest" "sureWith" "I" ∈ BT := bt_of (in_t1 (List.mem_of_getElem? (i := 195) rfl)) rfl
theorem fl_X7_260 : FLk RX7 260 2 7 := ⟨RX2, TX2, 9, rfl, by decide, bt418, iB_X2⟩
theorem bt419 : Cond.fieldLink RX7 263 "TurningVillage$Harvest" "sureWithout" "I" ∈ BT := bt_of (in_t1 (List.mem_of_getElem? (i := 197) rfl)) rfl
theorem fl_X7_263 : FLk RX7 263 2 8 := ⟨RX2, TX2, 9, rfl, by decide, bt419, iB_X2⟩
theorem bt420 : Cond.methodLink RX7 266 yX7_longestWait ∈ BT := bt_of (in_t3 (List.mem_of_getElem? (i := 158) rfl)) rfl
theorem bt421 : Cond.instanceMethod yX7_longestWait ∈ BT := bt_of (in_t3 (List.mem_of_getElem? (i := 160) rfl)) rfl
theorem bt422 : Cond.selects RX7 yX7_longestWait yX7_longestWait ∈ BT := bt_of (in_s2 (n := 9) (List.mem_of_getElem? (i := 5) rfl)) rfl
theorem bt423 : Cond.code yX7_longestWait cX7_longestWait 8 (some .int) ∈ BT := bt_of (in_t3 (List.mem_of_getElem? (i := 161) rfl)) rfl
theorem vl_X7_266 (M : Mth) (h : mO M = RX7) : VLk M mX7_longestWait 266 7 2 := ⟨by rw [h]; exact bt420, bt421, bt422, bt187, bt423, ⟨by decide +kernel, by decide +kernel⟩, by decide +kernel, by decide, TX7, 9, rfl⟩
theorem bt424 : Cond.methodLink RX7 269 yX7_isForm ∈ BT := bt_of (in_t3 (List.mem_of_getElem? (i := 171) rfl)) rfl
theorem bt425 : Cond.static yX7_isForm ∈ BT := bt_of (in_t3 (List.mem_of_getElem? (i := 172) rfl)) rfl
theorem bt426 : Cond.code yX7_isForm cX7_isForm 1 (some .boolean) ∈ BT := bt_of (in_t3 (List.mem_of_getElem? (i := 173) rfl)) rfl
theorem sl_X7_269 (M : Mth) (h : mO M = RX7) : SLk M mX7_isForm 269 1 := ⟨by rw [h]; exact bt424, bt425, bt187, bt426, ⟨by decide +kernel, by decide +kernel⟩, by decide +kernel, by decide⟩
theorem bt427 : Cond.methodLink RX7 272 yX4_renew ∈ BT := bt_of (in_t3 (List.mem_of_getElem? (i := 174) rfl)) rfl
theorem bt428 : Cond.instanceMethod yX4_renew ∈ BT := bt_of (in_t3 (List.mem_of_getElem? (i := 175) rfl)) rfl
theorem bt429 : Cond.selects RX4 yX4_renew yX4_renew ∈ BT := bt_of (in_t3 (List.mem_of_getElem? (i := 176) rfl)) rfl
theorem bt430 : Cond.initialized RX4 ∈ BT := bt_of (in_t1 (List.mem_of_getElem? (i := 8) rfl)) rfl
theorem bt431 : Cond.code yX4_renew cX4_renew 3 none ∈ BT := bt_of (in_t3 (List.mem_of_getElem? (i := 177) rfl)) rfl
theorem vl_X7_272 (M : Mth) (h : mO M = RX7) : VLk M mX4_renew 272 4 2 := ⟨by rw [h]; exact bt427, bt428, bt429, bt430, bt431, ⟨by decide +kernel, by decide +kernel⟩, by decide +kernel, by decide, TX4, 4, rfl⟩
theorem fp_X7_121 : FPk RX7 121 4 0 .boolean := ⟨RX4, TX4, 4, tyX4, rfl, by decide, bt291, iB_X4, tyX4_ok, nmX4, rfl, by decide +kernel⟩
theorem bt432 : Cond.methodLink RX7 275 yX4_findingAt ∈ BT := bt_of (in_t3 (List.mem_of_getElem? (i := 187) rfl)) rfl
theorem bt433 : Cond.instanceMethod yX4_findingAt ∈ BT := bt_of (in_t3 (List.mem_of_getElem? (i := 188) rfl)) rfl
theorem bt434 : Cond.selects RX4 yX4_findingAt yX4_findingAt ∈ BT := bt_of (in_t3 (List.mem_of_getElem? (i := 189) rfl)) rfl
theorem bt435 : Cond.code yX4_findingAt cX4_findingAt 3 (some .int) ∈ BT := bt_of (in_t3 (List.mem_of_getElem? (i := 190) rfl)) rfl
theorem vl_X7_275 (M : Mth) (h : mO M = RX7) : VLk M mX4_findingAt 275 4 2 := ⟨by rw [h]; exact bt432, bt433, bt434, bt430, bt435, ⟨by decide +kernel, by decide +kernel⟩, by decide +kernel, by decide, TX4, 4, rfl⟩
theorem bt436 : Cond.methodLink RX7 278 yX4_keep ∈ BT := bt_of (in_t3 (List.mem_of_getElem? (i := 191) rfl)) rfl
theorem bt437 : Cond.instanceMethod yX4_keep ∈ BT := bt_of (in_t3 (List.mem_of_getElem? (i := 192) rfl)) rfl
theorem bt438 : Cond.selects RX4 yX4_keep yX4_keep ∈ BT := bt_of (in_t3 (List.mem_of_getElem? (i := 193) rfl)) rfl
theorem bt439 : Cond.code yX4_keep cX4_keep 3 none ∈ BT := bt_of (in_t3 (List.mem_of_getElem? (i := 194) rfl)) rfl
theorem vl_X7_278 (M : Mth) (h : mO M = RX7) : VLk M mX4_keep 278 4 2 := ⟨by rw [h]; exact bt436, bt437, bt438, bt430, bt439, ⟨by decide +kernel, by decide +kernel⟩, by decide +kernel, by decide, TX4, 4, rfl⟩
theorem bt440 : Cond.constant RX7 283 (-2147483648) ∈ BT := bt_of (in_t3 (List.mem_of_getElem? (i := 199) rfl)) rfl
theorem bt441 : Cond.fieldLink RX7 284 "TurningVillage" "finding" "I" ∈ BT := bt_of (in_t2 (List.mem_of_getElem? (i := 9) rfl)) rfl
theorem fp_X7_284 : FPk RX7 284 7 8 .int := ⟨RX7, TX7, 9, tyX7, rfl, by decide, bt441, iB_X7, tyX7_ok, nmX7, rfl, by decide +kernel⟩
theorem bt442 : Cond.fieldLink RX7 287 "TurningVillage$Sheet" "form" "I" ∈ BT := bt_of (in_t1 (List.mem_of_getElem? (i := 227) rfl)) rfl
theorem fl_X7_287 : FLk RX7 287 4 1 := ⟨RX4, TX4, 4, rfl, by decide, bt442, iB_X4⟩
theorem bt443 : Cond.methodLink RX7 290 yX4_has ∈ BT := bt_of (in_t3 (List.mem_of_getElem? (i := 204) rfl)) rfl
theorem bt444 : Cond.instanceMethod yX4_has ∈ BT := bt_of (in_t3 (List.mem_of_getElem? (i := 205) rfl)) rfl
theorem bt445 : Cond.selects RX4 yX4_has yX4_has ∈ BT := bt_of (in_t3 (List.mem_of_getElem? (i := 206) rfl)) rfl
theorem bt446 : Cond.code yX4_has cX4_has 3 (some .boolean) ∈ BT := bt_of (in_t3 (List.mem_of_getElem? (i := 207) rfl)) rfl
theorem vl_X7_290 (M : Mth) (h : mO M = RX7) : VLk M mX4_has 290 4 2 := ⟨by rw [h]; exact bt443, bt444, bt445, bt430, bt446, ⟨by decide +kernel, by decide +kernel⟩, by decide +kernel, by decide, TX4, 4, rfl⟩
theorem bt447 : Cond.methodLink RX7 293 arraycopyName ∈ BT := bt_of (in_t3 (List.mem_of_getElem? (i := 208) rfl)) rfl
theorem bt448 : Cond.methodLink RX7 299 yX1_counting ∈ BT := bt_of (in_t3 (List.mem_of_getElem? (i := 217) rfl)) rfl
theorem bt449 : Cond.instanceMethod yX1_counting ∈ BT := bt_of (in_t3 (List.mem_of_getElem? (i := 218) rfl)) rfl
theorem bt450 : Cond.selects RX1 yX1_counting yX1_counting ∈ BT := bt_of (in_t3 (List.mem_of_getElem? (i := 219) rfl)) rfl
theorem bt451 : Cond.code yX1_counting cX1_counting 3 (some .int) ∈ BT := bt_of (in_t3 (List.mem_of_getElem? (i := 220) rfl)) rfl
theorem vl_X7_299 (M : Mth) (h : mO M = RX7) : VLk M mX1_counting 299 1 0 := ⟨by rw [h]; exact bt448, bt449, bt450, bt103, bt451, ⟨by decide +kernel, by decide +kernel⟩, by decide +kernel, by decide, TX1, 12, rfl⟩
theorem bt452 : Cond.fieldLink RX7 302 "TurningVillage$Land" "length" "I" ∈ BT := bt_of (in_t1 (List.mem_of_getElem? (i := 30) rfl)) rfl
theorem fl_X7_302 : FLk RX7 302 3 1 := ⟨RX3, TX3, 11, rfl, by decide, bt452, iB_X3⟩
theorem bt453 : Cond.methodLink RX7 305 yX3_closedPaths ∈ BT := bt_of (in_t3 (List.mem_of_getElem? (i := 221) rfl)) rfl
theorem bt454 : Cond.instanceMethod yX3_closedPaths ∈ BT := bt_of (in_t3 (List.mem_of_getElem? (i := 222) rfl)) rfl
theorem bt455 : Cond.selects RX3 yX3_closedPaths yX3_closedPaths ∈ BT := bt_of (in_t3 (List.mem_of_getElem? (i := 223) rfl)) rfl
theorem bt456 : Cond.code yX3_closedPaths cX3_closedPaths 3 (some .int) ∈ BT := bt_of (in_t3 (List.mem_of_getElem? (i := 224) rfl)) rfl
theorem vl_X7_305 (M : Mth) (h : mO M = RX7) : VLk M mX3_closedPaths 305 3 0 := ⟨by rw [h]; exact bt453, bt454, bt455, bt148, bt456, ⟨by decide +kernel, by decide +kernel⟩, by decide +kernel, by decide, TX3, 11, rfl⟩
theorem bt457 : Cond.fieldLink RX7 308 "TurningVillage$Gales" "asOf" "I" ∈ BT := bt_of (in_t1 (List.mem_of_getElem? (i := 89) rfl)) rfl
theorem fl_X7_308 : FLk RX7 308 1 6 := ⟨RX1, TX1, 12, rfl, by decide, bt457, iB_X1⟩
theorem bt458 : Cond.fieldLink RX7 311 "TurningVillage$Gales" "wing" "I" ∈ BT := bt_of (in_t1 (List.mem_of_getElem? (i := 91) rfl)) rfl
theorem fl_X7_311 : FLk RX7 311 1 7 := ⟨RX1, TX1, 12, rfl, by decide, bt458, iB_X1⟩
theorem bt459 : Cond.methodLink RX7 314 yX5_inOwnRow ∈ BT := bt_of (in_t3 (List.mem_of_getElem? (i := 225) rfl)) rfl
theorem bt460 : Cond.instanceMethod yX5_inOwnRow ∈ BT := bt_of (in_t3 (List.mem_of_getElem? (i := 226) rfl)) rfl
theorem bt461 : Cond.selects RX5 yX5_inOwnRow yX5_inOwnRow ∈ BT := bt_of (in_t3 (List.mem_of_getElem? (i := 227) rfl)) rfl
theorem bt462 : Cond.code yX5_inOwnRow cX5_inOwnRow 3 (some .int) ∈ BT := bt_of (in_t3 (List.mem_of_getElem? (i := 228) rfl)) rfl
theorem vl_X7_314 (M : Mth) (h : mO M = RX7) : VLk M mX5_inOwnRow 314 5 0 := ⟨by rw [h]; exact bt459, bt460, bt461, bt205, bt462, ⟨by decide +kernel, by decide +kernel⟩, by decide +kernel, by decide, TX5, 5, rfl⟩
theorem fl_X7_284 : FLk RX7 284 7 8 := ⟨RX7, TX7, 9, rfl, by decide, bt441, iB_X7⟩
theorem bt463 : Cond.constantLong RX7 317 (17) ∈ BT := bt_of (in_t3 (List.mem_of_getElem? (i := 233) rfl)) rfl
theorem bt464 : Cond.constantLong RX7 319 (31) ∈ BT := bt_of (in_t3 (List.mem_of_getElem? (i := 234) rfl)) rfl
theorem bt465 : Cond.methodLink RX7 321 yX7_count ∈ BT := bt_of (in_t3 (List.mem_of_getElem? (i := 235) rfl)) rfl
theorem bt466 : Cond.instanceMethod yX7_count ∈ BT := bt_of (in_t3 (List.mem_of_getElem? (i := 214) rfl)) rfl
theorem bt467 : Cond.selects RX7 yX7_count yX7_count ∈ BT := bt_of (in_t3 (List.mem_of_getElem? (i := 215) rfl)) rfl
theorem bt468 : Cond.code yX7_count cX7_count 2 (some .int) ∈ BT := bt_of (in_t3 (List.mem_of_getElem? (i := 216) rfl)) rfl
theorem vl_X7_321 (M : Mth) (h : mO M = RX7) : VLk M mX7_count 321 7 1 := ⟨by rw [h]; exact bt465, bt466, bt467, bt187, bt468, ⟨by decide +kernel, by decide +kernel⟩, by decide +kernel, by decide, TX7, 9, rfl⟩
theorem bt469 : Cond.methodLink RX7 324 yX7_digestPlaces ∈ BT := bt_of (in_t3 (List.mem_of_getElem? (i := 236) rfl)) rfl
theorem bt470 : Cond.instanceMethod yX7_digestPlaces ∈ BT := bt_of (in_t3 (List.mem_of_getElem? (i := 238) rfl)) rfl
theorem bt471 : Cond.selects RX7 yX7_digestPlaces yX7_digestPlaces ∈ BT := bt_of (in_s2 (n := 9) (List.mem_of_getElem? (i := 6) rfl)) rfl
theorem bt472 : Cond.code yX7_digestPlaces cX7_digestPlaces 6 (some .long) ∈ BT := bt_of (in_t3 (List.mem_of_getElem? (i := 239) rfl)) rfl
theorem vl_X7_324 (M : Mth) (h : mO M = RX7) : VLk M mX7_digestPlaces 324 7 1 := ⟨by rw [h]; exact bt469, bt470, bt471, bt187, bt472, ⟨by decide +kernel, by decide +kernel⟩, by decide +kernel, by decide, TX7, 9, rfl⟩
theorem bt473 : Cond.methodLink RX7 328 yX7_digestRows ∈ BT := bt_of (in_t4 (List.mem_of_getElem? (i := 1) rfl)) rfl
theorem bt474 : Cond.instanceMethod yX7_digestRows ∈ BT := bt_of (in_t4 (List.mem_of_getElem? (i := 3) rfl)) rfl
theorem bt475 : Cond.selects RX7 yX7_digestRows yX7_digestRows ∈ BT := bt_of (in_s2 (n := 9) (List.mem_of_getElem? (i := 7) rfl)) rfl
theorem bt476 : Cond.code yX7_digestRows cX7_digestRows 6 (some .long) ∈ BT := bt_of (in_t4 (List.mem_of_getElem? (i := 4) rfl)) rfl
theorem vl_X7_328 (M : Mth) (h : mO M = RX7) : VLk M mX7_digestRows 328 7 1 := ⟨by rw [h]; exact bt473, bt474, bt475, bt187, bt476, ⟨by decide +kernel, by decide +kernel⟩, by decide +kernel, by decide, TX7, 9, rfl⟩
theorem bt477 : Cond.methodLink RX7 331 yX7_ahead ∈ BT := bt_of (in_t4 (List.mem_of_getElem? (i := 10) rfl)) rfl
theorem bt478 : Cond.instanceMethod yX7_ahead ∈ BT := bt_of (in_t2 (List.mem_of_getElem? (i := 202) rfl)) rfl
theorem bt479 : Cond.selects RX7 yX7_ahead yX7_ahead ∈ BT := bt_of (in_t2 (List.mem_of_getElem? (i := 203) rfl)) rfl
theorem bt480 : Cond.code yX7_ahead cX7_ahead 10 (some .int) ∈ BT := bt_of (in_t2 (List.mem_of_getElem? (i := 204) rfl)) rfl
theorem vl_X7_331 (M : Mth) (h : mO M = RX7) : VLk M mX7_ahead 331 7 4 := ⟨by rw [h]; exact bt477, bt478, bt479, bt187, bt480, ⟨by decide +kernel, by decide +kernel⟩, by decide +kernel, by decide, TX7, 9, rfl⟩
theorem bt481 : Cond.methodLink RX7 335 yX7_digestTenants ∈ BT := bt_of (in_t4 (List.mem_of_getElem? (i := 11) rfl)) rfl
theorem bt482 : Cond.instanceMethod yX7_digestTenants ∈ BT := bt_of (in_t4 (List.mem_of_getElem? (i := 13) rfl)) rfl
theorem bt483 : Cond.selects RX7 yX7_digestTenants yX7_digestTenants ∈ BT := bt_of (in_s2 (n := 9) (List.mem_of_getElem? (i := 8) rfl)) rfl
theorem bt484 : Cond.code yX7_digestTenants cX7_digestTenants 6 (some .long) ∈ BT := bt_of (in_t4 (List.mem_of_getElem? (i := 14) rfl)) rfl
theorem vl_X7_335 (M : Mth) (h : mO M = RX7) : VLk M mX7_digestTenants 335 7 1 := ⟨by rw [h]; exact bt481, bt482, bt483, bt187, bt484, ⟨by decide +kernel, by decide +kernel⟩, by decide +kernel, by decide, TX7, 9, rfl⟩
theorem bt485 : Cond.methodLink RX7 338 yX7_history ∈ BT := bt_of (in_t4 (List.mem_of_getElem? (i := 15) rfl)) rfl
theorem bt486 : Cond.instanceMethod yX7_history ∈ BT := bt_of (in_t3 (List.mem_of_getElem? (i := 129) rfl)) rfl
theorem bt487 : Cond.selects RX7 yX7_history yX7_history ∈ BT := bt_of (in_t3 (List.mem_of_getElem? (i := 130) rfl)) rfl
theorem bt488 : Cond.code yX7_history cX7_history 4 (some .int) ∈ BT := bt_of (in_t3 (List.mem_of_getElem? (i := 131) rfl)) rfl
theorem vl_X7_338 (M : Mth) (h : mO M = RX7) : VLk M mX7_history 338 7 3 := ⟨by rw [h]; exact bt485, bt486, bt487, bt187, bt488, ⟨by decide +kernel, by decide +kernel⟩, by decide +kernel, by decide, TX7, 9, rfl⟩
theorem bt489 : Cond.methodLink RX7 341 yX7_dig ∈ BT := bt_of (in_t4 (List.mem_of_getElem? (i := 16) rfl)) rfl
theorem bt490 : Cond.instanceMethod yX7_dig ∈ BT := bt_of (in_t3 (List.mem_of_getElem? (i := 164) rfl)) rfl
theorem bt491 : Cond.selects RX7 yX7_dig yX7_dig ∈ BT := bt_of (in_t3 (List.mem_of_getElem? (i := 165) rfl)) rfl
theorem bt492 : Cond.code yX7_dig cX7_dig 7 (some .int) ∈ BT := bt_of (in_t3 (List.mem_of_getElem? (i := 166) rfl)) rfl
theorem vl_X7_341 (M : Mth) (h : mO M = RX7) : VLk M mX7_dig 341 7 2 := ⟨by rw [h]; exact bt489, bt490, bt491, bt187, bt492, ⟨by decide +kernel, by decide +kernel⟩, by decide +kernel, by decide, TX7, 9, rfl⟩
theorem bt493 : Cond.methodLink RX7 344 yX7_meet ∈ BT := bt_of (in_t4 (List.mem_of_getElem? (i := 17) rfl)) rfl
theorem bt494 : Cond.instanceMethod yX7_meet ∈ BT := bt_of (in_t3 (List.mem_of_getElem? (i := 39) rfl)) rfl
theorem bt495 : Cond.selects RX7 yX7_meet yX7_meet ∈ BT := bt_of (in_t3 (List.mem_of_getElem? (i := 40) rfl)) rfl
theorem bt496 : Cond.code yX7_meet cX7_meet 7 (some .int) ∈ BT := bt_of (in_t3 (List.mem_of_getElem? (i := 41) rfl)) rfl
theorem vl_X7_344 (M : Mth) (h : mO M = RX7) : VLk M mX7_meet 344 7 4 := ⟨by rw [h]; exact bt493, bt494, bt495, bt187, bt496, ⟨by decide +kernel, by decide +kernel⟩, by decide +kernel, by decide, TX7, 9, rfl⟩
theorem bt497 : Cond.methodLink RX7 347 yX7_place ∈ BT := bt_of (in_t4 (List.mem_of_getElem? (i := 0) rfl)) rfl
theorem bt498 : Cond.instanceMethod yX7_place ∈ BT := bt_of (in_t2 (List.mem_of_getElem? (i := 92) rfl)) rfl
theorem bt499 : Cond.selects RX7 yX7_place yX7_place ∈ BT := bt_of (in_t2 (List.mem_of_getElem? (i := 93) rfl)) rfl
theorem bt500 : Cond.code yX7_place cX7_place 3 (some .int) ∈ BT := bt_of (in_t2 (List.mem_of_getElem? (i := 94) rfl)) rfl
theorem vl_X7_347 (M : Mth) (h : mO M = RX7) : VLk M mX7_place 347 7 2 := ⟨by rw [h]; exact bt497, bt498, bt499, bt187, bt500, ⟨by decide +kernel, by decide +kernel⟩, by decide +kernel, by decide, TX7, 9, rfl⟩
theorem bt501 : Cond.methodLink RX7 350 yX7_door ∈ BT := bt_of (in_t4 (List.mem_of_getElem? (i := 5) rfl)) rfl
theorem bt502 : Cond.instanceMethod yX7_door ∈ BT := bt_of (in_t2 (List.mem_of_getElem? (i := 172) rfl)) rfl
theorem bt503 : Cond.selects RX7 yX7_door yX7_door ∈ BT := bt_of (in_t2 (List.mem_of_getElem? (i := 173) rfl)) rfl
theorem bt504 : Cond.code yX7_door cX7_door 5 (some .int) ∈ BT := bt_of (in_t2 (List.mem_of_getElem? (i := 174) rfl)) rfl
theorem vl_X7_350 (M : Mth) (h : mO M = RX7) : VLk M mX7_door 350 7 3 := ⟨by rw [h]; exact bt501, bt502, bt503, bt187, bt504, ⟨by decide +kernel, by decide +kernel⟩, by decide +kernel, by decide, TX7, 9, rfl⟩
theorem bt505 : Cond.methodLink RX7 353 yX7_shine ∈ BT := bt_of (in_t4 (List.mem_of_getElem? (i := 6) rfl)) rfl
theorem bt506 : Cond.instanceMethod yX7_shine ∈ BT := bt_of (in_t2 (List.mem_of_getElem? (i := 198) rfl)) rfl
theorem bt507 : Cond.selects RX7 yX7_shine yX7_shine ∈ BT := bt_of (in_t2 (List.mem_of_getElem? (i := 199) rfl)) rfl
theorem bt508 : Cond.code yX7_shine cX7_shine 6 (some .int) ∈ BT := bt_of (in_t2 (List.mem_of_getElem? (i := 200) rfl)) rfl
theorem vl_X7_353 (M : Mth) (h : mO M = RX7) : VLk M mX7_shine 353 7 3 := ⟨by rw [h]; exact bt505, bt506, bt507, bt187, bt508, ⟨by decide +kernel, by decide +kernel⟩, by decide +kernel, by decide, TX7, 9, rfl⟩
theorem bt509 : Cond.methodLink RX7 356 yX7_soon ∈ BT := bt_of (in_t4 (List.mem_of_getElem? (i := 7) rfl)) rfl
theorem bt510 : Cond.instanceMethod yX7_soon ∈ BT := bt_of (in_t3 (List.mem_of_getElem? (i := 1) rfl)) rfl
theorem bt511 : Cond.selects RX7 yX7_soon yX7_soon ∈ BT := bt_of (in_t3 (List.mem_of_getElem? (i := 2) rfl)) rfl
theorem bt512 : Cond.code yX7_soon cX7_soon 4 (some .int) ∈ BT := bt_of (in_t3 (List.mem_of_getElem? (i := 3) rfl)) rfl
theorem vl_X7_356 (M : Mth) (h : mO M = RX7) : VLk M mX7_soon 356 7 3 := ⟨by rw [h]; exact bt509, bt510, bt511, bt187, bt512, ⟨by decide +kernel, by decide +kernel⟩, by decide +kernel, by decide, TX7, 9, rfl⟩
theorem bt513 : Cond.methodLink RX7 359 yX7_carried ∈ BT := bt_of (in_t4 (List.mem_of_getElem? (i := 8) rfl)) rfl
theorem bt514 : Cond.instanceMethod yX7_carried ∈ BT := bt_of (in_t3 (List.mem_of_getElem? (i := 31) rfl)) rfl
theorem bt515 : Cond.selects RX7 yX7_carried yX7_carried ∈ BT := bt_of (in_t3 (List.mem_of_getElem? (i := 32) rfl)) rfl
theorem bt516 : Cond.code yX7_carried cX7_carried 4 (some .int) ∈ BT := bt_of (in_t3 (List.mem_of_getElem? (i := 33) rfl)) rfl
theorem vl_X7_359 (M : Mth) (h : mO M = RX7) : VLk M mX7_carried 359 7 3 := ⟨by rw [h]; exact bt513, bt514, bt515, bt187, bt516, ⟨by decide +kernel, by decide +kernel⟩, by decide +kernel, by decide, TX7, 9, rfl⟩
theorem bt517 : Cond.methodLink RX7 362 yX7_waits ∈ BT := bt_of (in_t4 (List.mem_of_getElem? (i := 9) rfl)) rfl
theorem bt518 : Cond.instanceMethod yX7_waits ∈ BT := bt_of (in_t3 (List.mem_of_getElem? (i := 155) rfl)) rfl
theorem bt519 : Cond.selects RX7 yX7_waits yX7_waits ∈ BT := bt_of (in_t3 (List.mem_of_getElem? (i := 156) rfl)) rfl
theorem bt520 : Cond.code yX7_waits cX7_waits 3 (some .int) ∈ BT := bt_of (in_t3 (List.mem_of_getElem? (i := 157) rfl)) rfl
theorem vl_X7_362 (M : Mth) (h : mO M = RX7) : VLk M mX7_waits 362 7 2 := ⟨by rw [h]; exact bt517, bt518, bt519, bt187, bt520, ⟨by decide +kernel, by decide +kernel⟩, by decide +kernel, by decide, TX7, 9, rfl⟩
theorem bt521 : Cond.methodLink RX7 365 yX5_reckonJoys ∈ BT := bt_of (in_t3 (List.mem_of_getElem? (i := 70) rfl)) rfl
theorem bt522 : Cond.instanceMethod yX5_reckonJoys ∈ BT := bt_of (in_t3 (List.mem_of_getElem? (i := 71) rfl)) rfl
theorem bt523 : Cond.selects RX5 yX5_reckonJoys yX5_reckonJoys ∈ BT := bt_of (in_t3 (List.mem_of_getElem? (i := 72) rfl)) rfl
theorem bt524 : Cond.code yX5_reckonJoys cX5_reckonJoys 5 none ∈ BT := bt_of (in_t3 (List.mem_of_getElem? (i := 73) rfl)) rfl
theorem vl_X7_365 (M : Mth) (h : mO M = RX7) : VLk M mX5_reckonJoys 365 5 2 := ⟨by rw [h]; exact bt521, bt522, bt523, bt205, bt524, ⟨by decide +kernel, by decide +kernel⟩, by decide +kernel, by decide, TX5, 5, rfl⟩
theorem bt525 : Cond.methodLink RX7 368 yJ9_max_7cf53 ∈ BT := bt_of (in_t3 (List.mem_of_getElem? (i := 162) rfl)) rfl
theorem sl_X7_368 (M : Mth) (h : mO M = RX7) : SLk M mJ9_max_7cf53 368 2 := ⟨by rw [h]; exact bt525, bt224, bt141, bt225, ⟨by decide +kernel, by decide +kernel⟩, by decide +kernel, by decide⟩
theorem bt526 : Cond.constantLong RX8 87 (-9223372036854775808) ∈ BT := bt_of (in_t5 (List.mem_of_getElem? (i := 4) rfl)) rfl
theorem bt527 : Cond.methodLink RX8 89 yX8_in ∈ BT := bt_of (in_t4 (List.mem_of_getElem? (i := 120) rfl)) rfl
theorem bt528 : Cond.static yX8_in ∈ BT := bt_of (in_t4 (List.mem_of_getElem? (i := 121) rfl)) rfl
theorem bt529 : Cond.initialized RX8 ∈ BT := bt_of (in_t1 (List.mem_of_getElem? (i := 9) rfl)) rfl
theorem bt530 : Cond.code yX8_in cX8_in 3 (some .boolean) ∈ BT := bt_of (in_t4 (List.mem_of_getElem? (i := 122) rfl)) rfl
theorem sl_X8_89 (M : Mth) (h : mO M = RX8) : SLk M mX8_in 89 3 := ⟨by rw [h]; exact bt527, bt528, bt529, bt530, ⟨by decide +kernel, by decide +kernel⟩, by decide +kernel, by decide⟩
theorem bt531 : Cond.fieldLink RX8 93 "TurningVillageModel" "typed" "I" ∈ BT := bt_of (in_t4 (List.mem_of_getElem? (i := 24) rfl)) rfl
theorem fl_X8_93 : FLk RX8 93 8 0 := ⟨RX8, TX8, 30, rfl, by decide, bt531, iB_X8⟩
theorem bt532 : Cond.fieldLink RX8 7 "TurningVillageModel" "text" "[I" ∈ BT := bt_of (in_t4 (List.mem_of_getElem? (i := 25) rfl)) rfl
theorem fl_X8_7 : FLk RX8 7 8 1 := ⟨RX8, TX8, 30, rfl, by decide, bt532, iB_X8⟩
theorem fp_X8_93 : FPk RX8 93 8 0 .int := ⟨RX8, TX8, 30, tyX8, rfl, by decide, bt531, iB_X8, tyX8_ok, nmX8, rfl, by decide +kernel⟩
theorem bt533 : Cond.fieldLink RX8 97 "TurningVillageModel" "bridges" "I" ∈ BT := bt_of (in_t4 (List.mem_of_getElem? (i := 28) rfl)) rfl
theorem fl_X8_97 : FLk RX8 97 8 4 := ⟨RX8, TX8, 30, rfl, by decide, bt533, iB_X8⟩
theorem bt534 : Cond.fieldLink RX8 19 "TurningVillageModel" "bridge" "[I" ∈ BT := bt_of (in_t4 (List.mem_of_getElem? (i := 29) rfl)) rfl
theorem fl_X8_19 : FLk RX8 19 8 5 := ⟨RX8, TX8, 30, rfl, by decide, bt534, iB_X8⟩
theorem fp_X8_97 : FPk RX8 97 8 4 .int := ⟨RX8, TX8, 30, tyX8, rfl, by decide, bt533, iB_X8, tyX8_ok, nmX8, rfl, by decide +kernel⟩
theorem bt535 : Cond.fieldLink RX8 16 "TurningVillageModel" "closed" "[I" ∈ BT := bt_of (in_t4 (List.mem_of_getElem? (i := 27) rfl)) rfl
theorem fl_X8_16 : FLk RX8 16 8 3 := ⟨RX8, TX8, 30, rfl, by decide, bt535, iB_X8⟩
theorem bt536 : Cond.fieldLink RX8 13 "TurningVillageModel" "things" "[I" ∈ BT := bt_of (in_t4 (List.mem_of_getElem? (i := 26) rfl)) rfl
theorem fl_X8_13 : FLk RX8 13 8 2 := ⟨RX8, TX8, 30, rfl, by decide, bt536, iB_X8⟩
theorem bt537 : Cond.methodLink RX8 100 yX8_byteAt ∈ BT := bt_of (in_t4 (List.mem_of_getElem? (i := 139) rfl)) rfl
theorem bt538 : Cond.instanceMethod yX8_byteAt ∈ BT := bt_of (in_t4 (List.mem_of_getElem? (i := 141) rfl)) rfl
theorem bt539 : Cond.selects RX8 yX8_byteAt yX8_byteAt ∈ BT := bt_of (in_s2 (n := 30) (List.mem_of_getElem? (i := 11) rfl)) rfl
theorem bt540 : Cond.code yX8_byteAt cX8_byteAt 2 (some .int) ∈ BT := bt_of (in_t4 (List.mem_of_getElem? (i := 142) rfl)) rfl
theorem vl_X8_100 (M : Mth) (h : mO M = RX8) : VLk M mX8_byteAt 100 8 1 := ⟨by rw [h]; exact bt537, bt538, bt539, bt529, bt540, ⟨by decide +kernel, by decide +kernel⟩, by decide +kernel, by decide, TX8, 30, rfl⟩
theorem bt541 : Cond.methodLink RX8 104 yX8_thingOf ∈ BT := bt_of (in_t4 (List.mem_of_getElem? (i := 143) rfl)) rfl
theorem bt542 : Cond.static yX8_thingOf ∈ BT := bt_of (in_t4 (List.mem_of_getElem? (i := 144) rfl)) rfl
theorem bt543 : Cond.code yX8_thingOf cX8_thingOf 1 (some .int) ∈ BT := bt_of (in_t4 (List.mem_of_getElem? (i := 145) rfl)) rfl
theorem sl_X8_104 (M : Mth) (h : mO M = RX8) : SLk M mX8_thingOf 104 1 := ⟨by rw [h]; exact bt541, bt542, bt529, bt543, ⟨by decide +kernel, by decide +kernel⟩, by decide +kernel, by decide⟩
theorem bt544 : Cond.methodLink RX8 107 yX8_mayBe ∈ BT := bt_of (in_t4 (List.mem_of_getElem? (i := 146) rfl)) rfl
theorem bt545 : Cond.instanceMethod yX8_mayBe ∈ BT := bt_of (in_t4 (List.mem_of_getElem? (i := 148) rfl)) rfl
theorem bt546 : Cond.selects RX8 yX8_mayBe yX8_mayBe ∈ BT := bt_of (in_s2 (n := 30) (List.mem_of_getElem? (i := 12) rfl)) rfl
theorem bt547 : Cond.code yX8_mayBe cX8_mayBe 4 (some .boolean) ∈ BT := bt_of (in_t4 (List.mem_of_getElem? (i := 149) rfl)) rfl
theorem vl_X8_107 (M : Mth) (h : mO M = RX8) : VLk M mX8_mayBe 107 8 2 := ⟨by rw [h]; exact bt544, bt545, bt546, bt529, bt547, ⟨by decide +kernel, by decide +kernel⟩, by decide +kernel, by decide, TX8, 30, rfl⟩
theorem bt548 : Cond.methodLink RX8 111 yX8_reads ∈ BT := bt_of (in_t4 (List.mem_of_getElem? (i := 135) rfl)) rfl
theorem bt549 : Cond.instanceMethod yX8_reads ∈ BT := bt_of (in_t4 (List.mem_of_getElem? (i := 137) rfl)) rfl
theorem bt550 : Cond.selects RX8 yX8_reads yX8_reads ∈ BT := bt_of (in_s2 (n := 30) (List.mem_of_getElem? (i := 10) rfl)) rfl
theorem bt551 : Cond.code yX8_reads cX8_reads 4 (some .int) ∈ BT := bt_of (in_t4 (List.mem_of_getElem? (i := 138) rfl)) rfl
theorem vl_X8_111 (M : Mth) (h : mO M = RX8) : VLk M mX8_reads 111 8 0 := ⟨by rw [h]; exact bt548, bt549, bt550, bt529, bt551, ⟨by decide +kernel, by decide +kernel⟩, by decide +kernel, by decide, TX8, 30, rfl⟩
theorem bt552 : Cond.methodLink RX8 115 yX8_faultNow ∈ BT := bt_of (in_t4 (List.mem_of_getElem? (i := 131) rfl)) rfl
theorem bt553 : Cond.instanceMethod yX8_faultNow ∈ BT := bt_of (in_t4 (List.mem_of_getElem? (i := 133) rfl)) rfl
theorem bt554 : Cond.selects RX8 yX8_faultNow yX8_faultNow ∈ BT := bt_of (in_s2 (n := 30) (List.mem_of_getElem? (i := 9) rfl)) rfl
theorem bt555 : Cond.code yX8_faultNow cX8_faultNow 3 (some .int) ∈ BT := bt_of (in_t4 (List.mem_of_getElem? (i := 134) rfl)) rfl
theorem vl_X8_115 (M : Mth) (h : mO M = RX8) : VLk M mX8_faultNow 115 8 0 := ⟨by rw [h]; exact bt552, bt553, bt554, bt529, bt555, ⟨by decide +kernel, by decide +kernel⟩, by decide +kernel, by decide, TX8, 30, rfl⟩
theorem bt556 : Cond.fieldLink RX8 22 "TurningVillageModel" "suns" "[I" ∈ BT := bt_of (in_t4 (List.mem_of_getElem? (i := 30) rfl)) rfl
theorem fl_X8_22 : FLk RX8 22 8 6 := ⟨RX8, TX8, 30, rfl, by decide, bt556, iB_X8⟩
theorem bt557 : Cond.methodLink RX8 118 yX8_isEighth ∈ BT := bt_of (in_t4 (List.mem_of_getElem? (i := 154) rfl)) rfl
theorem bt558 : Cond.static yX8_isEighth ∈ BT := bt_of (in_t4 (List.mem_of_getElem? (i := 155) rfl)) rfl
theorem bt559 : Cond.code yX8_isEighth cX8_isEighth 1 (some .boolean) ∈ BT := bt_of (in_t4 (List.mem_of_getElem? (i := 156) rfl)) rfl
theorem sl_X8_118 (M : Mth) (h : mO M = RX8) : SLk M mX8_isEighth 118 1 := ⟨by rw [h]; exact bt557, bt558, bt529, bt559, ⟨by decide +kernel, by decide +kernel⟩, by decide +kernel, by decide⟩
theorem bt560 : Cond.methodLink RX8 122 yX8_placeOf ∈ BT := bt_of (in_t4 (List.mem_of_getElem? (i := 157) rfl)) rfl
theorem bt561 : Cond.instanceMethod yX8_placeOf ∈ BT := bt_of (in_t4 (List.mem_of_getElem? (i := 159) rfl)) rfl
theorem bt562 : Cond.selects RX8 yX8_placeOf yX8_placeOf ∈ BT := bt_of (in_s2 (n := 30) (List.mem_of_getElem? (i := 13) rfl)) rfl
theorem bt563 : Cond.code yX8_placeOf cX8_placeOf 4 (some .int) ∈ BT := bt_of (in_t4 (List.mem_of_getElem? (i := 160) rfl)) rfl
theorem vl_X8_122 (M : Mth) (h : mO M = RX8) : VLk M mX8_placeOf 122 8 2 := ⟨by rw [h]; exact bt560, bt561, bt562, bt529, bt563, ⟨by decide +kernel, by decide +kernel⟩, by decide +kernel, by decide, TX8, 30, rfl⟩
theorem bt564 : Cond.fieldLink RX8 126 "TurningVillageModel" "lastTime" "I" ∈ BT := bt_of (in_t4 (List.mem_of_getElem? (i := 36) rfl)) rfl
theorem fl_X8_126 : FLk RX8 126 8 12 := ⟨RX8, TX8, 30, rfl, by decide, bt564, iB_X8⟩
theorem bt565 : Cond.fieldLink RX8 129 "TurningVillageModel" "gales" "I" ∈ BT := bt_of (in_t4 (List.mem_of_getElem? (i := 31) rfl)) rfl
theorem fl_X8_129 : FLk RX8 129 8 7 := ⟨RX8, TX8, 30, rfl, by decide, bt565, iB_X8⟩
theorem bt566 : Cond.fieldLink RX8 25 "TurningVillageModel" "galeDay" "[I" ∈ BT := bt_of (in_t4 (List.mem_of_getElem? (i := 32) rfl)) rfl
theorem fl_X8_25 : FLk RX8 25 8 8 := ⟨RX8, TX8, 30, rfl, by decide, bt566, iB_X8⟩
theorem bt567 : Cond.fieldLink RX8 28 "TurningVillageModel" "galeFrom" "[I" ∈ BT := bt_of (in_t4 (List.mem_of_getElem? (i := 33) rfl)) rfl
theorem fl_X8_28 : FLk RX8 28 8 9 := ⟨RX8, TX8, 30, rfl, by decide, bt567, iB_X8⟩
theorem bt568 : Cond.fieldLink RX8 31 "TurningVillageModel" "galeTime" "[I" ∈ BT := bt_of (in_t4 (List.mem_of_getElem? (i := 34) rfl)) rfl
theorem fl_X8_31 : FLk RX8 31 8 10 := ⟨RX8, TX8, 30, rfl, by decide, bt568, iB_X8⟩
theorem bt569 : Cond.fieldLink RX8 34 "TurningVillageModel" "galeBack" "[I" ∈ BT := bt_of (in_t4 (List.mem_of_getElem? (i := 35) rfl)) rfl
theorem fl_X8_34 : FLk RX8 34 8 11 := ⟨RX8, TX8, 30, rfl, by decide, bt569, iB_X8⟩
theorem fp_X8_126 : FPk RX8 126 8 12 .int := ⟨RX8, TX8, 30, tyX8, rfl, by decide, bt564, iB_X8, tyX8_ok, nmX8, rfl, by decide +kernel⟩
theorem fp_X8_129 : FPk RX8 129 8 7 .int := ⟨RX8, TX8, 30, tyX8, rfl, by decide, bt565, iB_X8, tyX8_ok, nmX8, rfl, by decide +kernel⟩
theorem bt570 : Cond.methodLink RX8 132 yX8_galeMore ∈ BT := bt_of (in_t4 (List.mem_of_getElem? (i := 169) rfl)) rfl
theorem bt571 : Cond.instanceMethod yX8_galeMore ∈ BT := bt_of (in_t4 (List.mem_of_getElem? (i := 171) rfl)) rfl
theorem bt572 : Cond.selects RX8 yX8_galeMore yX8_galeMore ∈ BT := bt_of (in_s2 (n := 30) (List.mem_of_getElem? (i := 14) rfl)) rfl
theorem bt573 : Cond.code yX8_galeMore cX8_galeMore 4 (some .int) ∈ BT := bt_of (in_t4 (List.mem_of_getElem? (i := 172) rfl)) rfl
theorem vl_X8_132 (M : Mth) (h : mO M = RX8) : VLk M mX8_galeMore 132 8 3 := ⟨by rw [h]; exact bt570, bt571, bt572, bt529, bt573, ⟨by decide +kernel, by decide +kernel⟩, by decide +kernel, by decide, TX8, 30, rfl⟩
theorem bt574 : Cond.methodLink RX8 136 yX8_isSheet ∈ BT := bt_of (in_t4 (List.mem_of_getElem? (i := 177) rfl)) rfl
theorem bt575 : Cond.static yX8_isSheet ∈ BT := bt_of (in_t4 (List.mem_of_getElem? (i := 178) rfl)) rfl
theorem bt576 : Cond.code yX8_isSheet cX8_isSheet 1 (some .boolean) ∈ BT := bt_of (in_t4 (List.mem_of_getElem? (i := 179) rfl)) rfl
theorem sl_X8_136 (M : Mth) (h : mO M = RX8) : SLk M mX8_isSheet 136 1 := ⟨by rw [h]; exact bt574, bt575, bt529, bt576, ⟨by decide +kernel, by decide +kernel⟩, by decide +kernel, by decide⟩
theorem bt577 : Cond.fieldLink RX8 71 "TurningVillageModel" "isThere" "[Z" ∈ BT := bt_of (in_t4 (List.mem_of_getElem? (i := 48) rfl)) rfl
theorem fl_X8_71 : FLk RX8 71 8 24 := ⟨RX8, TX8, 30, rfl, by decide, bt577, iB_X8⟩
theorem bt578 : Cond.methodLink RX8 139 yX8_meets ∈ BT := bt_of (in_t4 (List.mem_of_getElem? (i := 180) rfl)) rfl
theorem bt579 : Cond.instanceMethod yX8_meets ∈ BT := bt_of (in_t4 (List.mem_of_getElem? (i := 182) rfl)) rfl
theorem bt580 : Cond.selects RX8 yX8_meets yX8_meets ∈ BT := bt_of (in_s2 (n := 30) (List.mem_of_getElem? (i := 15) rfl)) rfl
theorem bt581 : Cond.code yX8_meets cX8_meets 2 (some .int) ∈ BT := bt_of (in_t4 (List.mem_of_getElem? (i := 183) rfl)) rfl
theorem vl_X8_139 (M : Mth) (h : mO M = RX8) : VLk M mX8_meets 139 8 1 := ⟨by rw [h]; exact bt578, bt579, bt580, bt529, bt581, ⟨by decide +kernel, by decide +kernel⟩, by decide +kernel, by decide, TX8, 30, rfl⟩
theorem bt582 : Cond.fieldLink RX8 78 "TurningVillageModel" "sizes" "[I" ∈ BT := bt_of (in_t4 (List.mem_of_getElem? (i := 50) rfl)) rfl
theorem fl_X8_78 : FLk RX8 78 8 26 := ⟨RX8, TX8, 30, rfl, by decide, bt582, iB_X8⟩
theorem bt583 : Cond.fieldLink RX8 81 "TurningVillageModel" "items" "[I" ∈ BT := bt_of (in_t4 (List.mem_of_getElem? (i := 51) rfl)) rfl
theorem fl_X8_81 : FLk RX8 81 8 27 := ⟨RX8, TX8, 30, rfl, by decide, bt583, iB_X8⟩
theorem bt584 : Cond.fieldLink RX8 37 "TurningVillageModel" "setting" "[I" ∈ BT := bt_of (in_t4 (List.mem_of_getElem? (i := 37) rfl)) rfl
theorem fl_X8_37 : FLk RX8 37 8 13 := ⟨RX8, TX8, 30, rfl, by decide, bt584, iB_X8⟩
theorem bt585 : Cond.fieldLink RX8 40 "TurningVillageModel" "turns" "[I" ∈ BT := bt_of (in_t4 (List.mem_of_getElem? (i := 38) rfl)) rfl
theorem fl_X8_40 : FLk RX8 40 8 14 := ⟨RX8, TX8, 30, rfl, by decide, bt585, iB_X8⟩
theorem bt586 : Cond.methodLink RX8 142 yX8_doesCount ∈ BT := bt_of (in_t4 (List.mem_of_getElem? (i := 207) rfl)) rfl
theorem bt587 : Cond.instanceMethod yX8_doesCount ∈ BT := bt_of (in_t4 (List.mem_of_getElem? (i := 209) rfl)) rfl
theorem bt588 : Cond.selects RX8 yX8_doesCount yX8_doesCount ∈ BT := bt_of (in_s3 (n := 30) (List.mem_of_getElem? (i := 2) rfl)) rfl
theorem bt589 : Cond.code yX8_doesCount cX8_doesCount 2 (some .boolean) ∈ BT := bt_of (in_t4 (List.mem_of_getElem? (i := 210) rfl)) rfl
theorem vl_X8_142 (M : Mth) (h : mO M = RX8) : VLk M mX8_doesCount 142 8 1 := ⟨by rw [h]; exact bt586, bt587, bt588, bt529, bt589, ⟨by decide +kernel, by decide +kernel⟩, by decide +kernel, by decide, TX8, 30, rfl⟩
theorem bt590 : Cond.methodLink RX8 145 yX8_lays ∈ BT := bt_of (in_t4 (List.mem_of_getElem? (i := 203) rfl)) rfl
theorem bt591 : Cond.instanceMethod yX8_lays ∈ BT := bt_of (in_t4 (List.mem_of_getElem? (i := 205) rfl)) rfl
theorem bt592 : Cond.selects RX8 yX8_lays yX8_lays ∈ BT := bt_of (in_s3 (n := 30) (List.mem_of_getElem? (i := 1) rfl)) rfl
theorem bt593 : Cond.code yX8_lays cX8_lays 4 none ∈ BT := bt_of (in_t4 (List.mem_of_getElem? (i := 206) rfl)) rfl
theorem vl_X8_145 (M : Mth) (h : mO M = RX8) : VLk M mX8_lays 145 8 0 := ⟨by rw [h]; exact bt590, bt591, bt592, bt529, bt593, ⟨by decide +kernel, by decide +kernel⟩, by decide +kernel, by decide, TX8, 30, rfl⟩
theorem bt594 : Cond.methodLink RX8 148 yX8_isDay ∈ BT := bt_of (in_t4 (List.mem_of_getElem? (i := 196) rfl)) rfl
theorem bt595 : Cond.static yX8_isDay ∈ BT := bt_of (in_t4 (List.mem_of_getElem? (i := 197) rfl)) rfl
theorem bt596 : Cond.code yX8_isDay cX8_isDay 1 (some .boolean) ∈ BT := bt_of (in_t4 (List.mem_of_getElem? (i := 198) rfl)) rfl
theorem sl_X8_148 (M : Mth) (h : mO M = RX8) : SLk M mX8_isDay 148 1 := ⟨by rw [h]; exact bt594, bt595, bt529, bt596, ⟨by decide +kernel, by decide +kernel⟩, by decide +kernel, by decide⟩
theorem bt597 : Cond.methodLink RX8 151 yX8_turnOf ∈ BT := bt_of (in_t4 (List.mem_of_getElem? (i := 199) rfl)) rfl
theorem bt598 : Cond.instanceMethod yX8_turnOf ∈ BT := bt_of (in_t4 (List.mem_of_getElem? (i := 201) rfl)) rfl
theorem bt599 : Cond.selects RX8 yX8_turnOf yX8_turnOf ∈ BT := bt_of (in_s3 (n := 30) (List.mem_of_getElem? (i := 0) rfl)) rfl
theorem bt600 : Cond.code yX8_turnOf cX8_turnOf 2 (some .int) ∈ BT := bt_of (in_t4 (List.mem_of_getElem? (i := 202) rfl)) rfl
theorem vl_X8_151 (M : Mth) (h : mO M = RX8) : VLk M mX8_turnOf 151 8 1 := ⟨by rw [h]; exact bt597, bt598, bt599, bt529, bt600, ⟨by decide +kernel, by decide +kernel⟩, by decide +kernel, by decide, TX8, 30, rfl⟩
theorem bt601 : Cond.methodLink RX8 154 yX8_isOver ∈ BT := bt_of (in_t4 (List.mem_of_getElem? (i := 215) rfl)) rfl
theorem bt602 : Cond.instanceMethod yX8_isOver ∈ BT := bt_of (in_t4 (List.mem_of_getElem? (i := 217) rfl)) rfl
theorem bt603 : Cond.selects RX8 yX8_isOver yX8_isOver ∈ BT := bt_of (in_s3 (n := 30) (List.mem_of_getElem? (i := 3) rfl)) rfl
theorem bt604 : Cond.code yX8_isOver cX8_isOver 7 (some .boolean) ∈ BT := bt_of (in_t4 (List.mem_of_getElem? (i := 218) rfl)) rfl
theorem vl_X8_154 (M : Mth) (h : mO M = RX8) : VLk M mX8_isOver 154 8 3 := ⟨by rw [h]; exact bt601, bt602, bt603, bt529, bt604, ⟨by decide +kernel, by decide +kernel⟩, by decide +kernel, by decide, TX8, 30, rfl⟩
theorem bt605 : Cond.methodLink RX8 157 yX8_doorAt ∈ BT := bt_of (in_t4 (List.mem_of_getElem? (i := 227) rfl)) rfl
theorem bt606 : Cond.instanceMethod yX8_doorAt ∈ BT := bt_of (in_t4 (List.mem_of_getElem? (i := 229) rfl)) rfl
theorem bt607 : Cond.selects RX8 yX8_doorAt yX8_doorAt ∈ BT := bt_of (in_s3 (n := 30) (List.mem_of_getElem? (i := 5) rfl)) rfl
theorem bt608 : Cond.code yX8_doorAt cX8_doorAt 3 (some .int) ∈ BT := bt_of (in_t4 (List.mem_of_getElem? (i := 230) rfl)) rfl
theorem vl_X8_157 (M : Mth) (h : mO M = RX8) : VLk M mX8_doorAt 157 8 2 := ⟨by rw [h]; exact bt605, bt606, bt607, bt529, bt608, ⟨by decide +kernel, by decide +kernel⟩, by decide +kernel, by decide, TX8, 30, rfl⟩
theorem bt609 : Cond.methodLink RX8 160 yX8_doorOf ∈ BT := bt_of (in_t4 (List.mem_of_getElem? (i := 223) rfl)) rfl
theorem bt610 : Cond.instanceMethod yX8_doorOf ∈ BT := bt_of (in_t4 (List.mem_of_getElem? (i := 225) rfl)) rfl
theorem bt611 : Cond.selects RX8 yX8_doorOf yX8_doorOf ∈ BT := bt_of (in_s3 (n := 30) (List.mem_of_getElem? (i := 4) rfl)) rfl
theorem bt612 : Cond.code yX8_doorOf cX8_doorOf 5 (some .int) ∈ BT := bt_of (in_t4 (List.mem_of_getElem? (i := 226) rfl)) rfl
theorem vl_X8_160 (M : Mth) (h : mO M = RX8) : VLk M mX8_doorOf 160 8 3 := ⟨by rw [h]; exact bt609, bt610, bt611, bt529, bt612, ⟨by decide +kernel, by decide +kernel⟩, by decide +kernel, by decide, TX8, 30, rfl⟩
theorem bt613 : Cond.methodLink RX8 163 yX8_isThing ∈ BT := bt_of (in_t4 (List.mem_of_getElem? (i := 235) rfl)) rfl
theorem bt614 : Cond.static yX8_isThing ∈ BT := bt_of (in_t4 (List.mem_of_getElem? (i := 236) rfl)) rfl
theorem bt615 : Cond.code yX8_isThing cX8_isThing 1 (some .boolean) ∈ BT := bt_of (in_t4 (List.mem_of_getElem? (i := 237) rfl)) rfl
theorem sl_X8_163 (M : Mth) (h : mO M = RX8) : SLk M mX8_isThing 163 1 := ⟨by rw [h]; exact bt613, bt614, bt529, bt615, ⟨by decide +kernel, by decide +kernel⟩, by decide +kernel, by decide⟩
theorem bt616 : Cond.methodLink RX8 166 yX8_isSpan ∈ BT := bt_of (in_t4 (List.mem_of_getElem? (i := 238) rfl)) rfl
theorem bt617 : Cond.static yX8_isSpan ∈ BT := bt_of (in_t4 (List.mem_of_getElem? (i := 239) rfl)) rfl
theorem bt618 : Cond.code yX8_isSpan cX8_isSpan 2 (some .boolean) ∈ BT := bt_of (in_t5 (List.mem_of_getElem? (i := 0) rfl)) rfl
theorem sl_X8_166 (M : Mth) (h : mO M = RX8) : SLk M mX8_isSpan 166 2 := ⟨by rw [h]; exact bt616, bt617, bt529, bt618, ⟨by decide +kernel, by decide +kernel⟩, by decide +kernel, by decide⟩
theorem bt619 : Cond.methodLink RX8 169 yX8_no ∈ BT := bt_of (in_t5 (List.mem_of_getElem? (i := 1) rfl)) rfl
theorem bt620 : Cond.static yX8_no ∈ BT := bt_of (in_t5 (List.mem_of_getElem? (i := 2) rfl)) rfl
theorem bt621 : Cond.code yX8_no cX8_no 1 (some .long) ∈ BT := bt_of (in_t5 (List.mem_of_getElem? (i := 3) rfl)) rfl
theorem sl_X8_169 (M : Mth) (h : mO M = RX8) : SLk M mX8_no 169 1 := ⟨by rw [h]; exact bt619, bt620, bt529, bt621, ⟨by decide +kernel, by decide +kernel⟩, by decide +kernel, by decide⟩
theorem bt622 : Cond.methodLink RX8 173 yX8_daysOf ∈ BT := bt_of (in_t5 (List.mem_of_getElem? (i := 5) rfl)) rfl
theorem bt623 : Cond.instanceMethod yX8_daysOf ∈ BT := bt_of (in_t5 (List.mem_of_getElem? (i := 7) rfl)) rfl
theorem bt624 : Cond.selects RX8 yX8_daysOf yX8_daysOf ∈ BT := bt_of (in_s3 (n := 30) (List.mem_of_getElem? (i := 6) rfl)) rfl
theorem bt625 : Cond.code yX8_daysOf cX8_daysOf 7 (some .int) ∈ BT := bt_of (in_t5 (List.mem_of_getElem? (i := 8) rfl)) rfl
theorem vl_X8_173 (M : Mth) (h : mO M = RX8) : VLk M mX8_daysOf 173 8 4 := ⟨by rw [h]; exact bt622, bt623, bt624, bt529, bt625, ⟨by decide +kernel, by decide +kernel⟩, by decide +kernel, by decide, TX8, 30, rfl⟩
theorem bt626 : Cond.methodLink RX8 177 yX8_lowest ∈ BT := bt_of (in_t5 (List.mem_of_getElem? (i := 9) rfl)) rfl
theorem bt627 : Cond.static yX8_lowest ∈ BT := bt_of (in_t5 (List.mem_of_getElem? (i := 10) rfl)) rfl
theorem bt628 : Cond.code yX8_lowest cX8_lowest 11 (some .long) ∈ BT := bt_of (in_t5 (List.mem_of_getElem? (i := 11) rfl)) rfl
theorem sl_X8_177 (M : Mth) (h : mO M = RX8) : SLk M mX8_lowest 177 3 := ⟨by rw [h]; exact bt626, bt627, bt529, bt628, ⟨by decide +kernel, by decide +kernel⟩, by decide +kernel, by decide⟩
theorem bt629 : Cond.methodLink RX8 181 yX8_shineOf ∈ BT := bt_of (in_t5 (List.mem_of_getElem? (i := 16) rfl)) rfl
theorem bt630 : Cond.instanceMethod yX8_shineOf ∈ BT := bt_of (in_t5 (List.mem_of_getElem? (i := 18) rfl)) rfl
theorem bt631 : Cond.selects RX8 yX8_shineOf yX8_shineOf ∈ BT := bt_of (in_s3 (n := 30) (List.mem_of_getElem? (i := 7) rfl)) rfl
theorem bt632 : Cond.code yX8_shineOf cX8_shineOf 6 (some .int) ∈ BT := bt_of (in_t5 (List.mem_of_getElem? (i := 19) rfl)) rfl
theorem vl_X8_181 (M : Mth) (h : mO M = RX8) : VLk M mX8_shineOf 181 8 3 := ⟨by rw [h]; exact bt629, bt630, bt631, bt529, bt632, ⟨by decide +kernel, by decide +kernel⟩, by decide +kernel, by decide, TX8, 30, rfl⟩
theorem bt633 : Cond.methodLink RX8 184 yX8_aheadOf ∈ BT := bt_of (in_t5 (List.mem_of_getElem? (i := 24) rfl)) rfl
theorem bt634 : Cond.instanceMethod yX8_aheadOf ∈ BT := bt_of (in_t5 (List.mem_of_getElem? (i := 26) rfl)) rfl
theorem bt635 : Cond.selects RX8 yX8_aheadOf yX8_aheadOf ∈ BT := bt_of (in_s3 (n := 30) (List.mem_of_getElem? (i := 8) rfl)) rfl
theorem bt636 : Cond.code yX8_aheadOf cX8_aheadOf 9 (some .int) ∈ BT := bt_of (in_t5 (List.mem_of_getElem? (i := 27) rfl)) rfl
theorem vl_X8_184 (M : Mth) (h : mO M = RX8) : VLk M mX8_aheadOf 184 8 4 := ⟨by rw [h]; exact bt633, bt634, bt635, bt529, bt636, ⟨by decide +kernel, by decide +kernel⟩, by decide +kernel, by decide, TX8, 30, rfl⟩
theorem bt637 : Cond.methodLink RX8 187 yX8_works ∈ BT := bt_of (in_t5 (List.mem_of_getElem? (i := 32) rfl)) rfl
theorem bt638 : Cond.instanceMethod yX8_works ∈ BT := bt_of (in_t5 (List.mem_of_getElem? (i := 34) rfl)) rfl
theorem bt639 : Cond.selects RX8 yX8_works yX8_works ∈ BT := bt_of (in_s3 (n := 30) (List.mem_of_getElem? (i := 9) rfl)) rfl
theorem bt640 : Cond.code yX8_works cX8_works 5 (some .boolean) ∈ BT := bt_of (in_t5 (List.mem_of_getElem? (i := 35) rfl)) rfl
theorem vl_X8_187 (M : Mth) (h : mO M = RX8) : VLk M mX8_works 187 8 4 := ⟨by rw [h]; exact bt637, bt638, bt639, bt529, bt640, ⟨by decide +kernel, by decide +kernel⟩, by decide +kernel, by decide, TX8, 30, rfl⟩
theorem bt641 : Cond.fieldLink RX8 43 "TurningVillageModel" "chance" "[J" ∈ BT := bt_of (in_t4 (List.mem_of_getElem? (i := 39) rfl)) rfl
theorem fl_X8_43 : FLk RX8 43 8 15 := ⟨RX8, TX8, 30, rfl, by decide, bt641, iB_X8⟩
theorem bt642 : Cond.constantLong RX8 191 (16) ∈ BT := bt_of (in_t5 (List.mem_of_getElem? (i := 40) rfl)) rfl
theorem bt643 : Cond.fieldLink RX8 47 "TurningVillageModel" "steps" "[I" ∈ BT := bt_of (in_t4 (List.mem_of_getElem? (i := 40) rfl)) rfl
theorem fl_X8_47 : FLk RX8 47 8 16 := ⟨RX8, TX8, 30, rfl, by decide, bt643, iB_X8⟩
theorem bt644 : Cond.constant RX8 193 (100000) ∈ BT := bt_of (in_t5 (List.mem_of_getElem? (i := 53) rfl)) rfl
theorem bt645 : Cond.methodLink RX8 194 yX8_isStep ∈ BT := bt_of (in_t5 (List.mem_of_getElem? (i := 58) rfl)) rfl
theorem bt646 : Cond.instanceMethod yX8_isStep ∈ BT := bt_of (in_t5 (List.mem_of_getElem? (i := 60) rfl)) rfl
theorem bt647 : Cond.selects RX8 yX8_isStep yX8_isStep ∈ BT := bt_of (in_s3 (n := 30) (List.mem_of_getElem? (i := 13) rfl)) rfl
theorem bt648 : Cond.code yX8_isStep cX8_isStep 6 (some .boolean) ∈ BT := bt_of (in_t5 (List.mem_of_getElem? (i := 61) rfl)) rfl
theorem vl_X8_194 (M : Mth) (h : mO M = RX8) : VLk M mX8_isStep 194 8 3 := ⟨by rw [h]; exact bt645, bt646, bt647, bt529, bt648, ⟨by decide +kernel, by decide +kernel⟩, by decide +kernel, by decide, TX8, 30, rfl⟩
theorem bt649 : Cond.fieldLink RX8 50 "TurningVillageModel" "then" "[I" ∈ BT := bt_of (in_t4 (List.mem_of_getElem? (i := 41) rfl)) rfl
theorem fl_X8_50 : FLk RX8 50 8 17 := ⟨RX8, TX8, 30, rfl, by decide, bt649, iB_X8⟩
theorem bt650 : Cond.methodLink RX8 197 yX8_begins ∈ BT := bt_of (in_t5 (List.mem_of_getElem? (i := 49) rfl)) rfl
theorem bt651 : Cond.instanceMethod yX8_begins ∈ BT := bt_of (in_t5 (List.mem_of_getElem? (i := 51) rfl)) rfl
theorem bt652 : Cond.selects RX8 yX8_begins yX8_begins ∈ BT := bt_of (in_s3 (n := 30) (List.mem_of_getElem? (i := 11) rfl)) rfl
theorem bt653 : Cond.code yX8_begins cX8_begins 4 none ∈ BT := bt_of (in_t5 (List.mem_of_getElem? (i := 52) rfl)) rfl
theorem vl_X8_197 (M : Mth) (h : mO M = RX8) : VLk M mX8_begins 197 8 2 := ⟨by rw [h]; exact bt650, bt651, bt652, bt529, bt653, ⟨by decide +kernel, by decide +kernel⟩, by decide +kernel, by decide, TX8, 30, rfl⟩
theorem bt654 : Cond.methodLink RX8 201 yX8_goes ∈ BT := bt_of (in_t5 (List.mem_of_getElem? (i := 54) rfl)) rfl
theorem bt655 : Cond.instanceMethod yX8_goes ∈ BT := bt_of (in_t5 (List.mem_of_getElem? (i := 56) rfl)) rfl
theorem bt656 : Cond.selects RX8 yX8_goes yX8_goes ∈ BT := bt_of (in_s3 (n := 30) (List.mem_of_getElem? (i := 12) rfl)) rfl
theorem bt657 : Cond.code yX8_goes cX8_goes 7 none ∈ BT := bt_of (in_t5 (List.mem_of_getElem? (i := 57) rfl)) rfl
theorem vl_X8_201 (M : Mth) (h : mO M = RX8) : VLk M mX8_goes 201 8 2 := ⟨by rw [h]; exact bt654, bt655, bt656, bt529, bt657, ⟨by decide +kernel, by decide +kernel⟩, by decide +kernel, by decide, TX8, 30, rfl⟩
theorem bt658 : Cond.methodLink RX8 204 yX8_soonOf ∈ BT := bt_of (in_t5 (List.mem_of_getElem? (i := 45) rfl)) rfl
theorem bt659 : Cond.instanceMethod yX8_soonOf ∈ BT := bt_of (in_t5 (List.mem_of_getElem? (i := 47) rfl)) rfl
theorem bt660 : Cond.selects RX8 yX8_soonOf yX8_soonOf ∈ BT := bt_of (in_s3 (n := 30) (List.mem_of_getElem? (i := 10) rfl)) rfl
theorem bt661 : Cond.code yX8_soonOf cX8_soonOf 6 (some .int) ∈ BT := bt_of (in_t5 (List.mem_of_getElem? (i := 48) rfl)) rfl
theorem vl_X8_204 (M : Mth) (h : mO M = RX8) : VLk M mX8_soonOf 204 8 4 := ⟨by rw [h]; exact bt658, bt659, bt660, bt529, bt661, ⟨by decide +kernel, by decide +kernel⟩, by decide +kernel, by decide, TX8, 30, rfl⟩
theorem bt662 : Cond.methodLink RX8 207 yX8_meetOf ∈ BT := bt_of (in_t5 (List.mem_of_getElem? (i := 70) rfl)) rfl
theorem bt663 : Cond.instanceMethod yX8_meetOf ∈ BT := bt_of (in_t5 (List.mem_of_getElem? (i := 72) rfl)) rfl
theorem bt664 : Cond.selects RX8 yX8_meetOf yX8_meetOf ∈ BT := bt_of (in_s3 (n := 30) (List.mem_of_getElem? (i := 14) rfl)) rfl
theorem bt665 : Cond.code yX8_meetOf cX8_meetOf 7 (some .int) ∈ BT := bt_of (in_t5 (List.mem_of_getElem? (i := 73) rfl)) rfl
theorem vl_X8_207 (M : Mth) (h : mO M = RX8) : VLk M mX8_meetOf 207 8 4 := ⟨by rw [h]; exact bt662, bt663, bt664, bt529, bt665, ⟨by decide +kernel, by decide +kernel⟩, by decide +kernel, by decide, TX8, 30, rfl⟩
theorem bt666 : Cond.fieldLink RX8 53 "TurningVillageModel" "wishes" "[I" ∈ BT := bt_of (in_t4 (List.mem_of_getElem? (i := 42) rfl)) rfl
theorem fl_X8_53 : FLk RX8 53 8 18 := ⟨RX8, TX8, 30, rfl, by decide, bt666, iB_X8⟩
theorem bt667 : Cond.fieldLink RX8 56 "TurningVillageModel" "lives" "[I" ∈ BT := bt_of (in_t4 (List.mem_of_getElem? (i := 43) rfl)) rfl
theorem fl_X8_56 : FLk RX8 56 8 19 := ⟨RX8, TX8, 30, rfl, by decide, bt667, iB_X8⟩
theorem bt668 : Cond.fieldLink RX8 59 "TurningVillageModel" "joys" "[I" ∈ BT := bt_of (in_t4 (List.mem_of_getElem? (i := 44) rfl)) rfl
theorem fl_X8_59 : FLk RX8 59 8 20 := ⟨RX8, TX8, 30, rfl, by decide, bt668, iB_X8⟩
theorem bt669 : Cond.methodLink RX8 210 yX8_laysJoy ∈ BT := bt_of (in_t5 (List.mem_of_getElem? (i := 86) rfl)) rfl
theorem bt670 : Cond.instanceMethod yX8_laysJoy ∈ BT := bt_of (in_t5 (List.mem_of_getElem? (i := 88) rfl)) rfl
theorem bt671 : Cond.selects RX8 yX8_laysJoy yX8_laysJoy ∈ BT := bt_of (in_s3 (n := 30) (List.mem_of_getElem? (i := 15) rfl)) rfl
theorem bt672 : Cond.code yX8_laysJoy cX8_laysJoy 7 none ∈ BT := bt_of (in_t5 (List.mem_of_getElem? (i := 89) rfl)) rfl
theorem vl_X8_210 (M : Mth) (h : mO M = RX8) : VLk M mX8_laysJoy 210 8 2 := ⟨by rw [h]; exact bt669, bt670, bt671, bt529, bt672, ⟨by decide +kernel, by decide +kernel⟩, by decide +kernel, by decide, TX8, 30, rfl⟩
theorem bt673 : Cond.methodLink RX8 213 yX8_ones ∈ BT := bt_of (in_t5 (List.mem_of_getElem? (i := 102) rfl)) rfl
theorem bt674 : Cond.static yX8_ones ∈ BT := bt_of (in_t5 (List.mem_of_getElem? (i := 103) rfl)) rfl
theorem bt675 : Cond.code yX8_ones cX8_ones 3 (some .int) ∈ BT := bt_of (in_t5 (List.mem_of_getElem? (i := 104) rfl)) rfl
theorem sl_X8_213 (M : Mth) (h : mO M = RX8) : SLk M mX8_ones 213 1 := ⟨by rw [h]; exact bt673, bt674, bt529, bt675, ⟨by decide +kernel, by decide +kernel⟩, by decide +kernel, by decide⟩
theorem bt676 : Cond.methodLink RX8 216 yX8_isIn ∈ BT := bt_of (in_t5 (List.mem_of_getElem? (i := 105) rfl)) rfl
theorem bt677 : Cond.static yX8_isIn ∈ BT := bt_of (in_t5 (List.mem_of_getElem? (i := 106) rfl)) rfl
theorem bt678 : Cond.code yX8_isIn cX8_isIn 2 (some .boolean) ∈ BT := bt_of (in_t5 (List.mem_of_getElem? (i := 107) rfl)) rfl
theorem sl_X8_216 (M : Mth) (h : mO M = RX8) : SLk M mX8_isIn 216 2 := ⟨by rw [h]; exact bt676, bt677, bt529, bt678, ⟨by decide +kernel, by decide +kernel⟩, by decide +kernel, by decide⟩
theorem bt679 : Cond.fieldLink RX8 62 "TurningVillageModel" "mostBehind" "[I" ∈ BT := bt_of (in_t4 (List.mem_of_getElem? (i := 45) rfl)) rfl
theorem fl_X8_62 : FLk RX8 62 8 21 := ⟨RX8, TX8, 30, rfl, by decide, bt679, iB_X8⟩
theorem bt680 : Cond.methodLink RX8 219 yX8_bestOf ∈ BT := bt_of (in_t5 (List.mem_of_getElem? (i := 98) rfl)) rfl
theorem bt681 : Cond.instanceMethod yX8_bestOf ∈ BT := bt_of (in_t5 (List.mem_of_getElem? (i := 100) rfl)) rfl
theorem bt682 : Cond.selects RX8 yX8_bestOf yX8_bestOf ∈ BT := bt_of (in_s4 (n := 30) (List.mem_of_getElem? (i := 0) rfl)) rfl
theorem bt683 : Cond.code yX8_bestOf cX8_bestOf 9 (some .int) ∈ BT := bt_of (in_t5 (List.mem_of_getElem? (i := 101) rfl)) rfl
theorem vl_X8_219 (M : Mth) (h : mO M = RX8) : VLk M mX8_bestOf 219 8 3 := ⟨by rw [h]; exact bt680, bt681, bt682, bt529, bt683, ⟨by decide +kernel, by decide +kernel⟩, by decide +kernel, by decide, TX8, 30, rfl⟩
theorem bt684 : Cond.methodLink RX8 222 yX8_envyOf ∈ BT := bt_of (in_t5 (List.mem_of_getElem? (i := 112) rfl)) rfl
theorem bt685 : Cond.instanceMethod yX8_envyOf ∈ BT := bt_of (in_t5 (List.mem_of_getElem? (i := 114) rfl)) rfl
theorem bt686 : Cond.selects RX8 yX8_envyOf yX8_envyOf ∈ BT := bt_of (in_s4 (n := 30) (List.mem_of_getElem? (i := 1) rfl)) rfl
theorem bt687 : Cond.code yX8_envyOf cX8_envyOf 7 (some .int) ∈ BT := bt_of (in_t5 (List.mem_of_getElem? (i := 115) rfl)) rfl
theorem vl_X8_222 (M : Mth) (h : mO M = RX8) : VLk M mX8_envyOf 222 8 2 := ⟨by rw [h]; exact bt684, bt685, bt686, bt529, bt687, ⟨by decide +kernel, by decide +kernel⟩, by decide +kernel, by decide, TX8, 30, rfl⟩
theorem bt688 : Cond.fieldLink RX8 65 "TurningVillageModel" "reaped" "[I" ∈ BT := bt_of (in_t4 (List.mem_of_getElem? (i := 46) rfl)) rfl
theorem fl_X8_65 : FLk RX8 65 8 22 := ⟨RX8, TX8, 30, rfl, by decide, bt688, iB_X8⟩
theorem bt689 : Cond.fieldLink RX8 68 "TurningVillageModel" "fields" "[I" ∈ BT := bt_of (in_t4 (List.mem_of_getElem? (i := 47) rfl)) rfl
theorem fl_X8_68 : FLk RX8 68 8 23 := ⟨RX8, TX8, 30, rfl, by decide, bt689, iB_X8⟩
theorem bt690 : Cond.methodLink RX8 225 yX8_historyOf ∈ BT := bt_of (in_t5 (List.mem_of_getElem? (i := 124) rfl)) rfl
theorem bt691 : Cond.instanceMethod yX8_historyOf ∈ BT := bt_of (in_t5 (List.mem_of_getElem? (i := 126) rfl)) rfl
theorem bt692 : Cond.selects RX8 yX8_historyOf yX8_historyOf ∈ BT := bt_of (in_s4 (n := 30) (List.mem_of_getElem? (i := 2) rfl)) rfl
theorem bt693 : Cond.code yX8_historyOf cX8_historyOf 12 (some .int) ∈ BT := bt_of (in_t5 (List.mem_of_getElem? (i := 127) rfl)) rfl
theorem vl_X8_225 (M : Mth) (h : mO M = RX8) : VLk M mX8_historyOf 225 8 3 := ⟨by rw [h]; exact bt690, bt691, bt692, bt529, bt693, ⟨by decide +kernel, by decide +kernel⟩, by decide +kernel, by decide, TX8, 30, rfl⟩
theorem bt694 : Cond.methodLink RX8 228 yX8_waitsOf ∈ BT := bt_of (in_t5 (List.mem_of_getElem? (i := 132) rfl)) rfl
theorem bt695 : Cond.instanceMethod yX8_waitsOf ∈ BT := bt_of (in_t5 (List.mem_of_getElem? (i := 134) rfl)) rfl
theorem bt696 : Cond.selects RX8 yX8_waitsOf yX8_waitsOf ∈ BT := bt_of (in_s4 (n := 30) (List.mem_of_getElem? (i := 3) rfl)) rfl
theorem bt697 : Cond.code yX8_waitsOf cX8_waitsOf 6 (some .int) ∈ BT := bt_of (in_t5 (List.mem_of_getElem? (i := 135) rfl)) rfl
theorem vl_X8_228 (M : Mth) (h : mO M = RX8) : VLk M mX8_waitsOf 228 8 2 := ⟨by rw [h]; exact bt694, bt695, bt696, bt529, bt697, ⟨by decide +kernel, by decide +kernel⟩, by decide +kernel, by decide, TX8, 30, rfl⟩
theorem bt698 : Cond.methodLink RX8 231 yX8_digOf ∈ BT := bt_of (in_t5 (List.mem_of_getElem? (i := 140) rfl)) rfl
theorem bt699 : Cond.instanceMethod yX8_digOf ∈ BT := bt_of (in_t5 (List.mem_of_getElem? (i := 142) rfl)) rfl
theorem bt700 : Cond.selects RX8 yX8_digOf yX8_digOf ∈ BT := bt_of (in_s4 (n := 30) (List.mem_of_getElem? (i := 4) rfl)) rfl
theorem bt701 : Cond.code yX8_digOf cX8_digOf 8 (some .int) ∈ BT := bt_of (in_t5 (List.mem_of_getElem? (i := 143) rfl)) rfl
theorem vl_X8_231 (M : Mth) (h : mO M = RX8) : VLk M mX8_digOf 231 8 2 := ⟨by rw [h]; exact bt698, bt699, bt700, bt529, bt701, ⟨by decide +kernel, by decide +kernel⟩, by decide +kernel, by decide, TX8, 30, rfl⟩
theorem bt702 : Cond.fieldLink RX8 234 "TurningVillageModel" "finding" "I" ∈ BT := bt_of (in_t4 (List.mem_of_getElem? (i := 53) rfl)) rfl
theorem fp_X8_234 : FPk RX8 234 8 29 .int := ⟨RX8, TX8, 30, tyX8, rfl, by decide, bt702, iB_X8, tyX8_ok, nmX8, rfl, by decide +kernel⟩
theorem bt703 : Cond.fieldLink RX8 75 "TurningVillageModel" "forms" "[I" ∈ BT := bt_of (in_t4 (List.mem_of_getElem? (i := 49) rfl)) rfl
theorem fl_X8_75 : FLk RX8 75 8 25 := ⟨RX8, TX8, 30, rfl, by decide, bt703, iB_X8⟩
theorem bt704 : Cond.methodLink RX8 237 yX8_lacks ∈ BT := bt_of (in_t5 (List.mem_of_getElem? (i := 156) rfl)) rfl
theorem bt705 : Cond.instanceMethod yX8_lacks ∈ BT := bt_of (in_t5 (List.mem_of_getElem? (i := 158) rfl)) rfl
theorem bt706 : Cond.selects RX8 yX8_lacks yX8_lacks ∈ BT := bt_of (in_s4 (n := 30) (List.mem_of_getElem? (i := 5) rfl)) rfl
theorem bt707 : Cond.code yX8_lacks cX8_lacks 4 (some .int) ∈ BT := bt_of (in_t5 (List.mem_of_getElem? (i := 159) rfl)) rfl
theorem vl_X8_237 (M : Mth) (h : mO M = RX8) : VLk M mX8_lacks 237 8 3 := ⟨by rw [h]; exact bt704, bt705, bt706, bt529, bt707, ⟨by decide +kernel, by decide +kernel⟩, by decide +kernel, by decide, TX8, 30, rfl⟩
theorem bt708 : Cond.methodLink RX8 240 yX8_keep ∈ BT := bt_of (in_t5 (List.mem_of_getElem? (i := 160) rfl)) rfl
theorem bt709 : Cond.instanceMethod yX8_keep ∈ BT := bt_of (in_t5 (List.mem_of_getElem? (i := 162) rfl)) rfl
theorem bt710 : Cond.selects RX8 yX8_keep yX8_keep ∈ BT := bt_of (in_s4 (n := 30) (List.mem_of_getElem? (i := 6) rfl)) rfl
theorem bt711 : Cond.code yX8_keep cX8_keep 4 none ∈ BT := bt_of (in_t5 (List.mem_of_getElem? (i := 163) rfl)) rfl
theorem vl_X8_240 (M : Mth) (h : mO M = RX8) : VLk M mX8_keep 240 8 3 := ⟨by rw [h]; exact bt708, bt709, bt710, bt529, bt711, ⟨by decide +kernel, by decide +kernel⟩, by decide +kernel, by decide, TX8, 30, rfl⟩
theorem bt712 : Cond.constant RX8 244 (-2147483648) ∈ BT := bt_of (in_t5 (List.mem_of_getElem? (i := 168) rfl)) rfl
theorem bt713 : Cond.fieldLink RX8 84 "TurningVillageModel" "moved" "[I" ∈ BT := bt_of (in_t4 (List.mem_of_getElem? (i := 52) rfl)) rfl
theorem fl_X8_84 : FLk RX8 84 8 28 := ⟨RX8, TX8, 30, rfl, by decide, bt713, iB_X8⟩
theorem bt714 : Cond.methodLink RX8 245 yX8_sumOf ∈ BT := bt_of (in_t5 (List.mem_of_getElem? (i := 181) rfl)) rfl
theorem bt715 : Cond.instanceMethod yX8_sumOf ∈ BT := bt_of (in_t5 (List.mem_of_getElem? (i := 183) rfl)) rfl
theorem bt716 : Cond.selects RX8 yX8_sumOf yX8_sumOf ∈ BT := bt_of (in_s4 (n := 30) (List.mem_of_getElem? (i := 7) rfl)) rfl
theorem bt717 : Cond.code yX8_sumOf cX8_sumOf 5 (some .int) ∈ BT := bt_of (in_t5 (List.mem_of_getElem? (i := 184) rfl)) rfl
theorem vl_X8_245 (M : Mth) (h : mO M = RX8) : VLk M mX8_sumOf 245 8 1 := ⟨by rw [h]; exact bt714, bt715, bt716, bt529, bt717, ⟨by decide +kernel, by decide +kernel⟩, by decide +kernel, by decide, TX8, 30, rfl⟩
theorem fl_X8_234 : FLk RX8 234 8 29 := ⟨RX8, TX8, 30, rfl, by decide, bt702, iB_X8⟩
theorem bt718 : Cond.constantLong RX8 248 (17) ∈ BT := bt_of (in_t5 (List.mem_of_getElem? (i := 189) rfl)) rfl
theorem bt719 : Cond.constantLong RX8 250 (31) ∈ BT := bt_of (in_t5 (List.mem_of_getElem? (i := 190) rfl)) rfl
theorem bt720 : Cond.methodLink RX8 252 yX8_count ∈ BT := bt_of (in_t5 (List.mem_of_getElem? (i := 191) rfl)) rfl
theorem bt721 : Cond.instanceMethod yX8_count ∈ BT := bt_of (in_t5 (List.mem_of_getElem? (i := 178) rfl)) rfl
theorem bt722 : Cond.selects RX8 yX8_count yX8_count ∈ BT := bt_of (in_t5 (List.mem_of_getElem? (i := 179) rfl)) rfl
theorem bt723 : Cond.code yX8_count cX8_count 2 (some .int) ∈ BT := bt_of (in_t5 (List.mem_of_getElem? (i := 180) rfl)) rfl
theorem vl_X8_252 (M : Mth) (h : mO M = RX8) : VLk M mX8_count 252 8 1 := ⟨by rw [h]; exact bt720, bt721, bt722, bt529, bt723, ⟨by decide +kernel, by decide +kernel⟩, by decide +kernel, by decide, TX8, 30, rfl⟩
theorem bt724 : Cond.constant RJ6 264 (65536) ∈ BT := bt_of (in_t3 (List.mem_of_getElem? (i := 144) rfl)) rfl
theorem bt725 : Cond.constant RJ6 265 (1431655765) ∈ BT := bt_of (in_t3 (List.mem_of_getElem? (i := 98) rfl)) rfl
theorem bt726 : Cond.constant RJ6 266 (858993459) ∈ BT := bt_of (in_t3 (List.mem_of_getElem? (i := 99) rfl)) rfl
theorem bt727 : Cond.constant RJ6 267 (252645135) ∈ BT := bt_of (in_t3 (List.mem_of_getElem? (i := 100) rfl)) rfl
theorem bt728 : Cond.static arraycopyName ∈ BT := bt_of (in_t3 (List.mem_of_getElem? (i := 18) rfl)) rfl
theorem bt729 : Cond.native arraycopyName ∈ BT := bt_of (in_t3 (List.mem_of_getElem? (i := 19) rfl)) rfl
theorem bt730 : Cond.initialized RJ10 ∈ BT := bt_of (in_t1 (List.mem_of_getElem? (i := 12) rfl)) rfl
theorem acpy : Cond.static arraycopyName ∈ BT ∧ Cond.native arraycopyName ∈ BT ∧ Cond.initialized RJ10 ∈ BT := ⟨bt728, bt729, bt730⟩
theorem sh0 : Sh 0 (.inr (7, [3, 12, 20, 22, 25, 28, 34, 40, 0])) := ⟨by decide, rfl⟩
theorem sh1 : Sh 1 (.inr (3, [4, 0, 0, 5, 6, 7, 0, 8, 9, 10, 11])) := ⟨by decide, rfl⟩
theorem sh2 : Sh 2 (.inl (0, 60)) := ⟨by decide, rfl⟩
theorem sh3 : Sh 3 (.inl (0, 8)) := ⟨by decide, rfl⟩
theorem sh4 : Sh 4 (.inl (0, 8)) := ⟨by decide, rfl⟩
theorem sh5 : Sh 5 (.inl (0, 8)) := ⟨by decide, rfl⟩
theorem sh6 : Sh 6 (.inl (0, 4)) := ⟨by decide, rfl⟩
theorem sh7 : Sh 7 (.inl (0, 4)) := ⟨by decide, rfl⟩
theorem sh8 : Sh 8 (.inl (0, 4)) := ⟨by decide, rfl⟩
theorem sh9 : Sh 9 (.inl (0, 4)) := ⟨by decide, rfl⟩
theorem sh10 : Sh 10 (.inr (1, [0, 13, 14, 15, 16, 0, 0, 0, 0, 17, 18, 19])) := ⟨by decide, rfl⟩
theorem sh11 : Sh 11 (.inl (0, 60)) := ⟨by decide, rfl⟩
theorem sh12 : Sh 12 (.inl (0, 60)) := ⟨by decide, rfl⟩
theorem sh13 : Sh 13 (.inl (0, 60)) := ⟨by decide, rfl⟩
theorem sh14 : Sh 14 (.inl (0, 60)) := ⟨by decide, rfl⟩
theorem sh15 : Sh 15 (.inl (0, 100)) := ⟨by decide, rfl⟩
theorem sh16 : Sh 16 (.inl (0, 8)) := ⟨by decide, rfl⟩
theorem sh17 : Sh 17 (.inl (0, 8)) := ⟨by decide, rfl⟩
theorem sh18 : Sh 18 (.inr (0, [21, 1])) := ⟨by decide, rfl⟩
theorem sh19 : Sh 19 (.inl (1, 8)) := ⟨by decide, rfl⟩
theorem sh20 : Sh 20 (.inr (6, [23, 24])) := ⟨by decide, rfl⟩
theorem sh21 : Sh 21 (.inl (0, 16)) := ⟨by decide, rfl⟩
theorem sh22 : Sh 22 (.inl (0, 16)) := ⟨by decide, rfl⟩
theorem sh23 : Sh 23 (.inr (6, [26, 27])) := ⟨by decide, rfl⟩
theorem sh24 : Sh 24 (.inl (0, 16)) := ⟨by decide, rfl⟩
theorem sh25 : Sh 25 (.inl (0, 16)) := ⟨by decide, rfl⟩
theorem sh26 : Sh 26 (.inr (5, [29, 30, 31, 32, 33])) := ⟨by decide, rfl⟩
theorem sh27 : Sh 27 (.inl (0, 8)) := ⟨by decide, rfl⟩
theorem sh28 : Sh 28 (.inl (0, 40)) := ⟨by decide, rfl⟩
theorem sh29 : Sh 29 (.inl (0, 64)) := ⟨by decide, rfl⟩
theorem sh30 : Sh 30 (.inl (0, 256)) := ⟨by decide, rfl⟩
theorem sh31 : Sh 31 (.inl (0, 8)) := ⟨by decide, rfl⟩
theorem sh32 : Sh 32 (.inr (2, [35, 36, 37, 38, 39, 0, 0, 0, 0])) := ⟨by decide, rfl⟩
theorem sh33 : Sh 33 (.inl (0, 8)) := ⟨by decide, rfl⟩
theorem sh34 : Sh 34 (.inl (1, 8)) := ⟨by decide, rfl⟩
theorem sh35 : Sh 35 (.inl (0, 13)) := ⟨by decide, rfl⟩
theorem sh36 : Sh 36 (.inl (0, 13)) := ⟨by decide, rfl⟩
theorem sh37 : Sh 37 (.inl (1, 13)) := ⟨by decide, rfl⟩
theorem sh38 : Sh 38 (.inl (42, 4)) := ⟨by decide, rfl⟩
theorem sh39 : Sh 39 (.inr (4, [0, 0, 0, 45])) := ⟨by decide, rfl⟩
theorem sh40 : Sh 40 (.inr (4, [0, 0, 0, 46])) := ⟨by decide, rfl⟩
theorem sh41 : Sh 41 (.inr (4, [0, 0, 0, 47])) := ⟨by decide, rfl⟩
theorem sh42 : Sh 42 (.inr (4, [0, 0, 0, 48])) := ⟨by decide, rfl⟩
theorem sh43 : Sh 43 (.inl (0, 60)) := ⟨by decide, rfl⟩
theorem sh44 : Sh 44 (.inl (0, 60)) := ⟨by decide, rfl⟩
theorem sh45 : Sh 45 (.inl (0, 60)) := ⟨by decide, rfl⟩
theorem sh46 : Sh 46 (.inl (0, 60)) := ⟨by decide, rfl⟩
theorem sh47 : Sh 47 (.inr (8, [0, 50, 51, 52, 0, 53, 54, 0, 55, 56, 57, 58, 0, 59, 60, 61, 62, 63, 64, 65, 66, 67, 68, 69, 70, 71, 72, 73, 74, 0])) := ⟨by decide, rfl⟩
theorem sh48 : Sh 48 (.inl (0, 60)) := ⟨by decide, rfl⟩
theorem sh49 : Sh 49 (.inl (0, 8)) := ⟨by decide, rfl⟩
theorem sh50 : Sh 50 (.inl (0, 8)) := ⟨by decide, rfl⟩
theorem sh51 : Sh 51 (.inl (0, 16)) := ⟨by decide, rfl⟩
theorem sh52 : Sh 52 (.inl (0, 8)) := ⟨by decide, rfl⟩
theorem sh53 : Sh 53 (.inl (0, 60)) := ⟨by decide, rfl⟩
theorem sh54 : Sh 54 (.inl (0, 60)) := ⟨by decide, rfl⟩
theorem sh55 : Sh 55 (.inl (0, 60)) := ⟨by decide, rfl⟩
theorem sh56 : Sh 56 (.inl (0, 60)) := ⟨by decide, rfl⟩
theorem sh57 : Sh 57 (.inl (0, 3)) := ⟨by decide, rfl⟩
theorem sh58 : Sh 58 (.inl (0, 100)) := ⟨by decide, rfl⟩
theorem sh59 : Sh 59 (.inl (1, 16)) := ⟨by decide, rfl⟩
theorem sh60 : Sh 60 (.inl (0, 32)) := ⟨by decide, rfl⟩
theorem sh61 : Sh 61 (.inl (0, 16)) := ⟨by decide, rfl⟩
theorem sh62 : Sh 62 (.inl (0, 40)) := ⟨by decide, rfl⟩
theorem sh63 : Sh 63 (.inl (0, 8)) := ⟨by decide, rfl⟩
theorem sh64 : Sh 64 (.inl (0, 64)) := ⟨by decide, rfl⟩
theorem sh65 : Sh 65 (.inl (0, 256)) := ⟨by decide, rfl⟩
theorem sh66 : Sh 66 (.inl (0, 8)) := ⟨by decide, rfl⟩
theorem sh67 : Sh 67 (.inl (0, 8)) := ⟨by decide, rfl⟩
theorem sh68 : Sh 68 (.inl (2, 4)) := ⟨by decide, rfl⟩
theorem sh69 : Sh 69 (.inl (0, 4)) := ⟨by decide, rfl⟩
theorem sh70 : Sh 70 (.inl (0, 4)) := ⟨by decide, rfl⟩
theorem sh71 : Sh 71 (.inl (0, 240)) := ⟨by decide, rfl⟩
theorem sh72 : Sh 72 (.inl (0, 60)) := ⟨by decide, rfl⟩
theorem sh_sheet {t : Nat} (h : t < 4) : Sh (39 + t) (.inr (4, [0, 0, 0, 43 + t + 2])) := by
  match t, h with
  | 0, _ => exact ⟨by decide, rfl⟩
  | 1, _ => exact ⟨by decide, rfl⟩
  | 2, _ => exact ⟨by decide, rfl⟩
  | 3, _ => exact ⟨by decide, rfl⟩
  | n + 4, h => exact absurd h (by omega)
theorem sh_items {t : Nat} (h : t < 4) : Sh (43 + t) (.inl (0, 60)) := by
  match t, h with
  | 0, _ => exact ⟨by decide, rfl⟩
  | 1, _ => exact ⟨by decide, rfl⟩
  | 2, _ => exact ⟨by decide, rfl⟩
  | 3, _ => exact ⟨by decide, rfl⟩
  | n + 4, h => exact absurd h (by omega)
end
section
theorem dX0_begin_0 : DLa mX0_begin 0 0 1 := Or.inl ⟨0, by decide +kernel, rfl, rfl⟩
theorem dX0_begin_1 : D0 mX0_begin 1 (.getfield 9) 3 4 := ⟨by decide +kernel, rfl⟩
theorem dX0_begin_4 : DKl mX0_begin 4 (lN 0) 5 := Or.inl ⟨0, by decide +kernel, rfl, rfl⟩
theorem dX0_begin_5 : D0 mX0_begin 5 (.invokestatic 19) 3 8 := ⟨by decide +kernel, rfl⟩
theorem dX0_begin_8 : DLa mX0_begin 8 0 9 := Or.inl ⟨0, by decide +kernel, rfl, rfl⟩
theorem dX0_begin_9 : D0 mX0_begin 9 (.getfield 9) 3 12 := ⟨by decide +kernel, rfl⟩
theorem dX0_begin_12 : DLi mX0_begin 12 1 13 := Or.inl ⟨1, by decide +kernel, rfl, rfl⟩
theorem dX0_begin_13 : DKl mX0_begin 13 (lN 1) 14 := Or.inl ⟨1, by decide +kernel, rfl, rfl⟩
theorem dX0_begin_14 : D0 mX0_begin 14 (.lastore) 1 15 := ⟨by decide +kernel, rfl⟩
theorem dX0_begin_15 : DLa mX0_begin 15 0 16 := Or.inl ⟨0, by decide +kernel, rfl, rfl⟩
theorem dX0_begin_16 : DKl mX0_begin 16 (lN 1) 17 := Or.inl ⟨1, by decide +kernel, rfl, rfl⟩
theorem dX0_begin_17 : D0 mX0_begin 17 (.putfield 15) 3 20 := ⟨by decide +kernel, rfl⟩
theorem dX0_begin_20 : D0 mX0_begin 20 (.return_) 1 21 := ⟨by decide +kernel, rfl⟩
theorem dX0_oneDay_0 : DLa mX0_oneDay 0 0 1 := Or.inl ⟨0, by decide +kernel, rfl, rfl⟩
theorem dX0_oneDay_1 : D0 mX0_oneDay 1 (.getfield 9) 3 4 := ⟨by decide +kernel, rfl⟩
theorem dX0_oneDay_4 : DKi mX0_oneDay 4 (nI 7) 6 := Or.inr (Or.inl ⟨7, by decide +kernel, by decide, rfl⟩)
theorem dX0_oneDay_6 : D0 mX0_oneDay 6 (.laload) 1 7 := ⟨by decide +kernel, rfl⟩
theorem dX0_oneDay_7 : DSl mX0_oneDay 7 2 8 := ⟨by decide, Or.inl ⟨2, by decide +kernel, rfl, rfl⟩⟩
theorem dX0_oneDay_8 : DKi mX0_oneDay 8 (nI 0) 9 := Or.inl ⟨0, by decide +kernel, by decide, rfl⟩
theorem dX0_oneDay_9 : DSi mX0_oneDay 9 4 11 := ⟨by decide, Or.inr ⟨by decide +kernel, rfl⟩⟩
theorem dX0_oneDay_11 : DLi mX0_oneDay 11 4 13 := Or.inr ⟨by decide +kernel, rfl⟩
theorem dX0_oneDay_13 : DKi mX0_oneDay 13 (nI 8) 15 := Or.inr (Or.inl ⟨8, by decide +kernel, by decide, rfl⟩)
theorem dX0_oneDay_15 : DCge mX0_oneDay 15 56 18 := ⟨41, by decide +kernel, by decide, rfl⟩
theorem dX0_oneDay_18 : DLa mX0_oneDay 18 0 19 := Or.inl ⟨0, by decide +kernel, rfl, rfl⟩
theorem dX0_oneDay_19 : D0 mX0_oneDay 19 (.getfield 9) 3 22 := ⟨by decide +kernel, rfl⟩
theorem dX0_oneDay_22 : DLi mX0_oneDay 22 4 24 := Or.inr ⟨by decide +kernel, rfl⟩
theorem dX0_oneDay_24 : D0 mX0_oneDay 24 (.laload) 1 25 := ⟨by decide +kernel, rfl⟩
theorem dX0_oneDay_25 : DSl mX0_oneDay 25 5 27 := ⟨by decide, Or.inr ⟨by decide +kernel, rfl⟩⟩
theorem dX0_oneDay_27 : DLa mX0_oneDay 27 0 28 := Or.inl ⟨0, by decide +kernel, rfl, rfl⟩
theorem dX0_oneDay_28 : D0 mX0_oneDay 28 (.getfield 9) 3 31 := ⟨by decide +kernel, rfl⟩
theorem dX0_oneDay_31 : DLi mX0_oneDay 31 4 33 := Or.inr ⟨by decide +kernel, rfl⟩
theorem dX0_oneDay_33 : DLl mX0_oneDay 33 5 35 := Or.inr ⟨by decide +kernel, rfl⟩
theorem dX0_oneDay_35 : DKi mX0_oneDay 35 (nI 16) 37 := Or.inr (Or.inl ⟨16, by decide +kernel, by decide, rfl⟩)
theorem dX0_oneDay_37 : DLi mX0_oneDay 37 1 38 := Or.inl ⟨1, by decide +kernel, rfl, rfl⟩
theorem dX0_oneDay_38 : D0 mX0_oneDay 38 (.isub) 1 39 := ⟨by decide +kernel, rfl⟩
theorem dX0_oneDay_39 : D0 mX0_oneDay 39 (.i2l) 1 40 := ⟨by decide +kernel, rfl⟩
theorem dX0_oneDay_40 : D0 mX0_oneDay 40 (.lmul) 1 41 := ⟨by decide +kernel, rfl⟩
theorem dX0_oneDay_41 : DLl mX0_oneDay 41 2 42 := Or.inl ⟨2, by decide +kernel, rfl, rfl⟩
theorem dX0_oneDay_42 : DLi mX0_oneDay 42 1 43 := Or.inl ⟨1, by decide +kernel, rfl, rfl⟩
theorem dX0_oneDay_43 : D0 mX0_oneDay 43 (.i2l) 1 44 := ⟨by decide +kernel, rfl⟩
theorem dX0_oneDay_44 : D0 mX0_oneDay 44 (.lmul) 1 45 := ⟨by decide +kernel, rfl⟩
theorem dX0_oneDay_45 : D0 mX0_oneDay 45 (.ladd) 1 46 := ⟨by decide +kernel, rfl⟩
theorem dX0_oneDay_46 : D0 mX0_oneDay 46 (.lastore) 1 47 := ⟨by decide +kernel, rfl⟩
theorem dX0_oneDay_47 : DLl mX0_oneDay 47 5 49 := Or.inr ⟨by decide +kernel, rfl⟩
theorem dX0_oneDay_49 : DSl mX0_oneDay 49 2 50 := ⟨by decide, Or.inl ⟨2, by decide +kernel, rfl, rfl⟩⟩
theorem dX0_oneDay_50 : DIn mX0_oneDay 50 4 (nI 1) 53 := ⟨by decide, 1, by decide +kernel, by decide, rfl⟩
theorem dX0_oneDay_53 : DG mX0_oneDay 53 11 := ⟨(-42), by decide +kernel, by decide⟩
theorem dX0_oneDay_56 : DLa mX0_oneDay 56 0 57 := Or.inl ⟨0, by decide +kernel, rfl, rfl⟩
theorem dX0_oneDay_57 : D0 mX0_oneDay 57 (.dup) 1 58 := ⟨by decide +kernel, rfl⟩
theorem dX0_oneDay_58 : D0 mX0_oneDay 58 (.getfield 15) 3 61 := ⟨by decide +kernel, rfl⟩
theorem dX0_oneDay_61 : DKl mX0_oneDay 61 (lN 16) 64 := Or.inr ⟨25, by decide +kernel, bt90, rfl⟩
theorem dX0_oneDay_64 : D0 mX0_oneDay 64 (.lmul) 1 65 := ⟨by decide +kernel, rfl⟩
theorem dX0_oneDay_65 : D0 mX0_oneDay 65 (.putfield 15) 3 68 := ⟨by decide +kernel, rfl⟩
theorem dX0_oneDay_68 : D0 mX0_oneDay 68 (.return_) 1 69 := ⟨by decide +kernel, rfl⟩
theorem dX0_left_0 : DKl mX0_left 0 (lN 0) 1 := Or.inl ⟨0, by decide +kernel, rfl, rfl⟩
theorem dX0_left_1 : DSl mX0_left 1 1 2 := ⟨by decide, Or.inl ⟨1, by decide +kernel, rfl, rfl⟩⟩
theorem dX0_left_2 : DKi mX0_left 2 (nI 0) 3 := Or.inl ⟨0, by decide +kernel, by decide, rfl⟩
theorem dX0_left_3 : DSi mX0_left 3 3 4 := ⟨by decide, Or.inl ⟨3, by decide +kernel, rfl, rfl⟩⟩
theorem dX0_left_4 : DLi mX0_left 4 3 5 := Or.inl ⟨3, by decide +kernel, rfl, rfl⟩
theorem dX0_left_5 : DKi mX0_left 5 (nI 8) 7 := Or.inr (Or.inl ⟨8, by decide +kernel, by decide, rfl⟩)
theorem dX0_left_7 : DCge mX0_left 7 25 10 := ⟨18, by decide +kernel, by decide, rfl⟩
theorem dX0_left_10 : DLl mX0_left 10 1 11 := Or.inl ⟨1, by decide +kernel, rfl, rfl⟩
theorem dX0_left_11 : DLa mX0_left 11 0 12 := Or.inl ⟨0, by decide +kernel, rfl, rfl⟩
theorem dX0_left_12 : D0 mX0_left 12 (.getfield 9) 3 15 := ⟨by decide +kernel, rfl⟩
theorem dX0_left_15 : DLi mX0_left 15 3 16 := Or.inl ⟨3, by decide +kernel, rfl, rfl⟩
theorem dX0_left_16 : D0 mX0_left 16 (.laload) 1 17 := ⟨by decide +kernel, rfl⟩
theorem dX0_left_17 : D0 mX0_left 17 (.ladd) 1 18 := ⟨by decide +kernel, rfl⟩
theorem dX0_left_18 : DSl mX0_left 18 1 19 := ⟨by decide, Or.inl ⟨1, by decide +kernel, rfl, rfl⟩⟩
theorem dX0_left_19 : DIn mX0_left 19 3 (nI 1) 22 := ⟨by decide, 1, by decide +kernel, by decide, rfl⟩
theorem dX0_left_22 : DG mX0_left 22 4 := ⟨(-18), by decide +kernel, by decide⟩
theorem dX0_left_25 : DLl mX0_left 25 1 26 := Or.inl ⟨1, by decide +kernel, rfl, rfl⟩
theorem dX0_left_26 : D0 mX0_left 26 (.lreturn) 1 27 := ⟨by decide +kernel, rfl⟩
theorem dX1_mayBeTold_0 : DLi mX1_mayBeTold 0 1 1 := Or.inl ⟨1, by decide +kernel, rfl, rfl⟩
theorem dX1_mayBeTold_1 : DLa mX1_mayBeTold 1 0 2 := Or.inl ⟨0, by decide +kernel, rfl, rfl⟩
theorem dX1_mayBeTold_2 : D0 mX1_mayBeTold 2 (.getfield 28) 3 5 := ⟨by decide +kernel, rfl⟩
theorem dX1_mayBeTold_5 : DClt mX1_mayBeTold 5 19 8 := ⟨14, by decide +kernel, by decide, rfl⟩
theorem dX1_mayBeTold_8 : DLi mX1_mayBeTold 8 1 9 := Or.inl ⟨1, by decide +kernel, rfl, rfl⟩
theorem dX1_mayBeTold_9 : DKi mX1_mayBeTold 9 (nI 999) 12 := Or.inr (Or.inr (Or.inl ⟨999, by decide +kernel, by decide, rfl⟩))
theorem dX1_mayBeTold_12 : DCgt mX1_mayBeTold 12 19 15 := ⟨7, by decide +kernel, by decide, rfl⟩
theorem dX1_mayBeTold_15 : DKi mX1_mayBeTold 15 (nI 1) 16 := Or.inl ⟨1, by decide +kernel, by decide, rfl⟩
theorem dX1_mayBeTold_16 : DG mX1_mayBeTold 16 20 := ⟨4, by decide +kernel, by decide⟩
theorem dX1_mayBeTold_19 : DKi mX1_mayBeTold 19 (nI 0) 20 := Or.inl ⟨0, by decide +kernel, by decide, rfl⟩
theorem dX1_mayBeTold_20 : D0 mX1_mayBeTold 20 (.ireturn) 1 21 := ⟨by decide +kernel, rfl⟩
theorem dX1_add_0 : DLa mX1_add 0 0 1 := Or.inl ⟨0, by decide +kernel, rfl, rfl⟩
theorem dX1_add_1 : D0 mX1_add 1 (.getfield 9) 3 4 := ⟨by decide +kernel, rfl⟩
theorem dX1_add_4 : DKi mX1_add 4 (nI 60) 6 := Or.inr (Or.inl ⟨60, by decide +kernel, by decide, rfl⟩)
theorem dX1_add_6 : DClt mX1_add 6 11 9 := ⟨5, by decide +kernel, by decide, rfl⟩
theorem dX1_add_9 : DKi mX1_add 9 (nI 0) 10 := Or.inl ⟨0, by decide +kernel, by decide, rfl⟩
theorem dX1_add_10 : D0 mX1_add 10 (.ireturn) 1 11 := ⟨by decide +kernel, rfl⟩
theorem dX1_add_11 : DLa mX1_add 11 0 12 := Or.inl ⟨0, by decide +kernel, rfl, rfl⟩
theorem dX1_add_12 : D0 mX1_add 12 (.getfield 15) 3 15 := ⟨by decide +kernel, rfl⟩
theorem dX1_add_15 : DLa mX1_add 15 0 16 := Or.inl ⟨0, by decide +kernel, rfl, rfl⟩
theorem dX1_add_16 : D0 mX1_add 16 (.getfield 9) 3 19 := ⟨by decide +kernel, rfl⟩
theorem dX1_add_19 : DLi mX1_add 19 1 20 := Or.inl ⟨1, by decide +kernel, rfl, rfl⟩
theorem dX1_add_20 : D0 mX1_add 20 (.iastore) 1 21 := ⟨by decide +kernel, rfl⟩
theorem dX1_add_21 : DLa mX1_add 21 0 22 := Or.inl ⟨0, by decide +kernel, rfl, rfl⟩
theorem dX1_add_22 : D0 mX1_add 22 (.getfield 19) 3 25 := ⟨by decide +kernel, rfl⟩
theorem dX1_add_25 : DLa mX1_add 25 0 26 := Or.inl ⟨0, by decide +kernel, rfl, rfl⟩
theorem dX1_add_26 : D0 mX1_add 26 (.getfield 9) 3 29 := ⟨by decide +kernel, rfl⟩
theorem dX1_add_29 : DLi mX1_add 29 2 30 := Or.inl ⟨2, by decide +kernel, rfl, rfl⟩
theorem dX1_add_30 : D0 mX1_add 30 (.iastore) 1 31 := ⟨by decide +kernel, rfl⟩
theorem dX1_add_31 : DLa mX1_add 31 0 32 := Or.inl ⟨0, by decide +kernel, rfl, rfl⟩
theorem dX1_add_32 : D0 mX1_add 32 (.getfield 22) 3 35 := ⟨by decide +kernel, rfl⟩
theorem dX1_add_35 : DLa mX1_add 35 0 36 := Or.inl ⟨0, by decide +kernel, rfl, rfl⟩
theorem dX1_add_36 : D0 mX1_add 36 (.getfield 9) 3 39 := ⟨by decide +kernel, rfl⟩
theorem dX1_add_39 : DLi mX1_add 39 3 40 := Or.inl ⟨3, by decide +kernel, rfl, rfl⟩
theorem dX1_add_40 : D0 mX1_add 40 (.iastore) 1 41 := ⟨by decide +kernel, rfl⟩
theorem dX1_add_41 : DLa mX1_add 41 0 42 := Or.inl ⟨0, by decide +kernel, rfl, rfl⟩
theorem dX1_add_42 : D0 mX1_add 42 (.getfield 25) 3 45 := ⟨by decide +kernel, rfl⟩
theorem dX1_add_45 : DLa mX1_add 45 0 46 := Or.inl ⟨0, by decide +kernel, rfl, rfl⟩
theorem dX1_add_46 : D0 mX1_add 46 (.getfield 9) 3 49 := ⟨by decide +kernel, rfl⟩
theorem dX1_add_49 : DKi mX1_add 49 ((-1)) 50 := Or.inl ⟨(-1), by decide +kernel, by decide, rfl⟩
theorem dX1_add_50 : D0 mX1_add 50 (.iastore) 1 51 := ⟨by decide +kernel, rfl⟩
theorem dX1_add_51 : DLa mX1_add 51 0 52 := Or.inl ⟨0, by decide +kernel, rfl, rfl⟩
theorem dX1_add_52 : DLi mX1_add 52 3 53 := Or.inl ⟨3, by decide +kernel, rfl, rfl⟩
theorem dX1_add_53 : D0 mX1_add 53 (.putfield 28) 3 56 := ⟨by decide +kernel, rfl⟩
theorem dX1_add_56 : DLa mX1_add 56 0 57 := Or.inl ⟨0, by decide +kernel, rfl, rfl⟩
theorem dX1_add_57 : D0 mX1_add 57 (.dup) 1 58 := ⟨by decide +kernel, rfl⟩
theorem dX1_add_58 : D0 mX1_add 58 (.getfield 9) 3 61 := ⟨by decide +kernel, rfl⟩
theorem dX1_add_61 : DKi mX1_add 61 (nI 1) 62 := Or.inl ⟨1, by decide +kernel, by decide, rfl⟩
theorem dX1_add_62 : D0 mX1_add 62 (.iadd) 1 63 := ⟨by decide +kernel, rfl⟩
theorem dX1_add_63 : D0 mX1_add 63 (.putfield 9) 3 66 := ⟨by decide +kernel, rfl⟩
theorem dX1_add_66 : DKi mX1_add 66 (nI 1) 67 := Or.inl ⟨1, by decide +kernel, by decide, rfl⟩
theorem dX1_add_67 : D0 mX1_add 67 (.ireturn) 1 68 := ⟨by decide +kernel, rfl⟩
theorem dX1_isTaken_0 : DLa mX1_isTaken 0 0 1 := Or.inl ⟨0, by decide +kernel, rfl, rfl⟩
theorem dX1_isTaken_1 : D0 mX1_isTaken 1 (.getfield 25) 3 4 := ⟨by decide +kernel, rfl⟩
theorem dX1_isTaken_4 : DLi mX1_isTaken 4 1 5 := Or.inl ⟨1, by decide +kernel, rfl, rfl⟩
theorem dX1_isTaken_5 : D0 mX1_isTaken 5 (.iaload) 1 6 := ⟨by decide +kernel, rfl⟩
theorem dX1_isTaken_6 : DKi mX1_isTaken 6 ((-1)) 7 := Or.inl ⟨(-1), by decide +kernel, by decide, rfl⟩
theorem dX1_isTaken_7 : DCeq mX1_isTaken 7 14 10 := ⟨7, by decide +kernel, by decide, rfl⟩
theorem dX1_isTaken_10 : DKi mX1_isTaken 10 (nI 1) 11 := Or.inl ⟨1, by decide +kernel, by decide, rfl⟩
theorem dX1_isTaken_11 : DG mX1_isTaken 11 15 := ⟨4, by decide +kernel, by decide⟩
theorem dX1_isTaken_14 : DKi mX1_isTaken 14 (nI 0) 15 := Or.inl ⟨0, by decide +kernel, by decide, rfl⟩
theorem dX1_isTaken_15 : D0 mX1_isTaken 15 (.ireturn) 1 16 := ⟨by decide +kernel, rfl⟩
theorem dX1_remove_0 : DLa mX1_remove 0 0 1 := Or.inl ⟨0, by decide +kernel, rfl, rfl⟩
theorem dX1_remove_1 : D0 mX1_remove 1 (.getfield 25) 3 4 := ⟨by decide +kernel, rfl⟩
theorem dX1_remove_4 : DLi mX1_remove 4 1 5 := Or.inl ⟨1, by decide +kernel, rfl, rfl⟩
theorem dX1_remove_5 : DLi mX1_remove 5 2 6 := Or.inl ⟨2, by decide +kernel, rfl, rfl⟩
theorem dX1_remove_6 : D0 mX1_remove 6 (.iastore) 1 7 := ⟨by decide +kernel, rfl⟩
theorem dX1_remove_7 : DLa mX1_remove 7 0 8 := Or.inl ⟨0, by decide +kernel, rfl, rfl⟩
theorem dX1_remove_8 : DLi mX1_remove 8 2 9 := Or.inl ⟨2, by decide +kernel, rfl, rfl⟩
theorem dX1_remove_9 : D0 mX1_remove 9 (.putfield 28) 3 12 := ⟨by decide +kernel, rfl⟩
theorem dX1_remove_12 : D0 mX1_remove 12 (.return_) 1 13 := ⟨by decide +kernel, rfl⟩
theorem dX1_change_0 : DLi mX1_change 0 1 1 := Or.inl ⟨1, by decide +kernel, rfl, rfl⟩
theorem dX1_change_1 : DFne mX1_change 1 17 4 := ⟨16, by decide +kernel, by decide, rfl⟩
theorem dX1_change_4 : DLa mX1_change 4 0 5 := Or.inl ⟨0, by decide +kernel, rfl, rfl⟩
theorem dX1_change_5 : D0 mX1_change 5 (.getfield 31) 3 8 := ⟨by decide +kernel, rfl⟩
theorem dX1_change_8 : DSi mX1_change 8 3 9 := ⟨by decide, Or.inl ⟨3, by decide +kernel, rfl, rfl⟩⟩
theorem dX1_change_9 : DLa mX1_change 9 0 10 := Or.inl ⟨0, by decide +kernel, rfl, rfl⟩
theorem dX1_change_10 : DLi mX1_change 10 2 11 := Or.inl ⟨2, by decide +kernel, rfl, rfl⟩
theorem dX1_change_11 : D0 mX1_change 11 (.putfield 31) 3 14 := ⟨by decide +kernel, rfl⟩
theorem dX1_change_14 : DG mX1_change 14 45 := ⟨31, by decide +kernel, by decide⟩
theorem dX1_change_17 : DLi mX1_change 17 1 18 := Or.inl ⟨1, by decide +kernel, rfl, rfl⟩
theorem dX1_change_18 : DKi mX1_change 18 (nI 1) 19 := Or.inl ⟨1, by decide +kernel, by decide, rfl⟩
theorem dX1_change_19 : DCne mX1_change 19 35 22 := ⟨16, by decide +kernel, by decide, rfl⟩
theorem dX1_change_22 : DLa mX1_change 22 0 23 := Or.inl ⟨0, by decide +kernel, rfl, rfl⟩
theorem dX1_change_23 : D0 mX1_change 23 (.getfield 34) 3 26 := ⟨by decide +kernel, rfl⟩
theorem dX1_change_26 : DSi mX1_change 26 3 27 := ⟨by decide, Or.inl ⟨3, by decide +kernel, rfl, rfl⟩⟩
theorem dX1_change_27 : DLa mX1_change 27 0 28 := Or.inl ⟨0, by decide +kernel, rfl, rfl⟩
theorem dX1_change_28 : DLi mX1_change 28 2 29 := Or.inl ⟨2, by decide +kernel, rfl, rfl⟩
theorem dX1_change_29 : D0 mX1_change 29 (.putfield 34) 3 32 := ⟨by decide +kernel, rfl⟩
theorem dX1_change_32 : DG mX1_change 32 45 := ⟨13, by decide +kernel, by decide⟩
theorem dX1_change_35 : DLa mX1_change 35 0 36 := Or.inl ⟨0, by decide +kernel, rfl, rfl⟩
theorem dX1_change_36 : D0 mX1_change 36 (.getfield 37) 3 39 := ⟨by decide +kernel, rfl⟩
theorem dX1_change_39 : DSi mX1_change 39 3 40 := ⟨by decide, Or.inl ⟨3, by decide +kernel, rfl, rfl⟩⟩
theorem dX1_change_40 : DLa mX1_change 40 0 41 := Or.inl ⟨0, by decide +kernel, rfl, rfl⟩
theorem dX1_change_41 : DLi mX1_change 41 2 42 := Or.inl ⟨2, by decide +kernel, rfl, rfl⟩
theorem dX1_change_42 : D0 mX1_change 42 (.putfield 37) 3 45 := ⟨by decide +kernel, rfl⟩
theorem dX1_change_45 : DLi mX1_change 45 3 46 := Or.inl ⟨3, by decide +kernel, rfl, rfl⟩
theorem dX1_change_46 : D0 mX1_change 46 (.ireturn) 1 47 := ⟨by decide +kernel, rfl⟩
theorem dX1_counts_0 : DLa mX1_counts 0 0 1 := Or.inl ⟨0, by decide +kernel, rfl, rfl⟩
theorem dX1_counts_1 : D0 mX1_counts 1 (.getfield 22) 3 4 := ⟨by decide +kernel, rfl⟩
theorem dX1_counts_4 : DLi mX1_counts 4 1 5 := Or.inl ⟨1, by decide +kernel, rfl, rfl⟩
theorem dX1_counts_5 : D0 mX1_counts 5 (.iaload) 1 6 := ⟨by decide +kernel, rfl⟩
theorem dX1_counts_6 : DLa mX1_counts 6 0 7 := Or.inl ⟨0, by decide +kernel, rfl, rfl⟩
theorem dX1_counts_7 : D0 mX1_counts 7 (.getfield 31) 3 10 := ⟨by decide +kernel, rfl⟩
theorem dX1_counts_10 : DCgt mX1_counts 10 40 13 := ⟨30, by decide +kernel, by decide, rfl⟩
theorem dX1_counts_13 : DLa mX1_counts 13 0 14 := Or.inl ⟨0, by decide +kernel, rfl, rfl⟩
theorem dX1_counts_14 : D0 mX1_counts 14 (.getfield 25) 3 17 := ⟨by decide +kernel, rfl⟩
theorem dX1_counts_17 : DLi mX1_counts 17 1 18 := Or.inl ⟨1, by decide +kernel, rfl, rfl⟩
theorem dX1_counts_18 : D0 mX1_counts 18 (.iaload) 1 19 := ⟨by decide +kernel, rfl⟩
theorem dX1_counts_19 : DKi mX1_counts 19 ((-1)) 20 := Or.inl ⟨(-1), by decide +kernel, by decide, rfl⟩
theorem dX1_counts_20 : DCeq mX1_counts 20 36 23 := ⟨16, by decide +kernel, by decide, rfl⟩
theorem dX1_counts_23 : DLa mX1_counts 23 0 24 := Or.inl ⟨0, by decide +kernel, rfl, rfl⟩
theorem dX1_counts_24 : D0 mX1_counts 24 (.getfield 25) 3 27 := ⟨by decide +kernel, rfl⟩
theorem dX1_counts_27 : DLi mX1_counts 27 1 28 := Or.inl ⟨1, by decide +kernel, rfl, rfl⟩
theorem dX1_counts_28 : D0 mX1_counts 28 (.iaload) 1 29 := ⟨by decide +kernel, rfl⟩
theorem dX1_counts_29 : DLa mX1_counts 29 0 30 := Or.inl ⟨0, by decide +kernel, rfl, rfl⟩
theorem dX1_counts_30 : D0 mX1_counts 30 (.getfield 31) 3 33 := ⟨by decide +kernel, rfl⟩
theorem dX1_counts_33 : DCle mX1_counts 33 40 36 := ⟨7, by decide +kernel, by decide, rfl⟩
theorem dX1_counts_36 : DKi mX1_counts 36 (nI 1) 37 := Or.inl ⟨1, by decide +kernel, by decide, rfl⟩
theorem dX1_counts_37 : DG mX1_counts 37 41 := ⟨4, by decide +kernel, by decide⟩
theorem dX1_counts_40 : DKi mX1_counts 40 (nI 0) 41 := Or.inl ⟨0, by decide +kernel, by decide, rfl⟩
theorem dX1_counts_41 : D0 mX1_counts 41 (.ireturn) 1 42 := ⟨by decide +kernel, rfl⟩
theorem dX1_counting_0 : DKi mX1_counting 0 (nI 0) 1 := Or.inl ⟨0, by decide +kernel, by decide, rfl⟩
theorem dX1_counting_1 : DSi mX1_counting 1 1 2 := ⟨by decide, Or.inl ⟨1, by decide +kernel, rfl, rfl⟩⟩
theorem dX1_counting_2 : DKi mX1_counting 2 (nI 0) 3 := Or.inl ⟨0, by decide +kernel, by decide, rfl⟩
theorem dX1_counting_3 : DSi mX1_counting 3 2 4 := ⟨by decide, Or.inl ⟨2, by decide +kernel, rfl, rfl⟩⟩
theorem dX1_counting_4 : DLi mX1_counting 4 2 5 := Or.inl ⟨2, by decide +kernel, rfl, rfl⟩
theorem dX1_counting_5 : DLa mX1_counting 5 0 6 := Or.inl ⟨0, by decide +kernel, rfl, rfl⟩
theorem dX1_counting_6 : D0 mX1_counting 6 (.getfield 9) 3 9 := ⟨by decide +kernel, rfl⟩
theorem dX1_counting_9 : DCge mX1_counting 9 35 12 := ⟨26, by decide +kernel, by decide, rfl⟩
theorem dX1_counting_12 : DLi mX1_counting 12 2 13 := Or.inl ⟨2, by decide +kernel, rfl, rfl⟩
theorem dX1_counting_13 : DKi mX1_counting 13 (nI 60) 15 := Or.inr (Or.inl ⟨60, by decide +kernel, by decide, rfl⟩)
theorem dX1_counting_15 : DCge mX1_counting 15 35 18 := ⟨20, by decide +kernel, by decide, rfl⟩
theorem dX1_counting_18 : DLa mX1_counting 18 0 19 := Or.inl ⟨0, by decide +kernel, rfl, rfl⟩
theorem dX1_counting_19 : DLi mX1_counting 19 2 20 := Or.inl ⟨2, by decide +kernel, rfl, rfl⟩
theorem dX1_counting_20 : D0 mX1_counting 20 (.invokevirtual 49) 3 23 := ⟨by decide +kernel, rfl⟩
theorem dX1_counting_23 : DFeq mX1_counting 23 29 26 := ⟨6, by decide +kernel, by decide, rfl⟩
theorem dX1_counting_26 : DIn mX1_counting 26 1 (nI 1) 29 := ⟨by decide, 1, by decide +kernel, by decide, rfl⟩
theorem dX1_counting_29 : DIn mX1_counting 29 2 (nI 1) 32 := ⟨by decide, 1, by decide +kernel, by decide, rfl⟩
theorem dX1_counting_32 : DG mX1_counting 32 4 := ⟨(-28), by decide +kernel, by decide⟩
theorem dX1_counting_35 : DLi mX1_counting 35 1 36 := Or.inl ⟨1, by decide +kernel, rfl, rfl⟩
theorem dX1_counting_36 : D0 mX1_counting 36 (.ireturn) 1 37 := ⟨by decide +kernel, rfl⟩
theorem dX1_reckonTurns_0 : DLa mX1_reckonTurns 0 0 1 := Or.inl ⟨0, by decide +kernel, rfl, rfl⟩
theorem dX1_reckonTurns_1 : D0 mX1_reckonTurns 1 (.getfield 40) 3 4 := ⟨by decide +kernel, rfl⟩
theorem dX1_reckonTurns_4 : DKi mX1_reckonTurns 4 (nI 0) 5 := Or.inl ⟨0, by decide +kernel, by decide, rfl⟩
theorem dX1_reckonTurns_5 : D0 mX1_reckonTurns 5 (.invokestatic 53) 3 8 := ⟨by decide +kernel, rfl⟩
theorem dX1_reckonTurns_8 : DKi mX1_reckonTurns 8 (nI 0) 9 := Or.inl ⟨0, by decide +kernel, by decide, rfl⟩
theorem dX1_reckonTurns_9 : DSi mX1_reckonTurns 9 1 10 := ⟨by decide, Or.inl ⟨1, by decide +kernel, rfl, rfl⟩⟩
theorem dX1_reckonTurns_10 : DLi mX1_reckonTurns 10 1 11 := Or.inl ⟨1, by decide +kernel, rfl, rfl⟩
theorem dX1_reckonTurns_11 : DLa mX1_reckonTurns 11 0 12 := Or.inl ⟨0, by decide +kernel, rfl, rfl⟩
theorem dX1_reckonTurns_12 : D0 mX1_reckonTurns 12 (.getfield 9) 3 15 := ⟨by decide +kernel, rfl⟩
theorem dX1_reckonTurns_15 : DCge mX1_reckonTurns 15 69 18 := ⟨54, by decide +kernel, by decide, rfl⟩
theorem dX1_reckonTurns_18 : DLi mX1_reckonTurns 18 1 19 := Or.inl ⟨1, by decide +kernel, rfl, rfl⟩
theorem dX1_reckonTurns_19 : DKi mX1_reckonTurns 19 (nI 60) 21 := Or.inr (Or.inl ⟨60, by decide +kernel, by decide, rfl⟩)
theorem dX1_reckonTurns_21 : DCge mX1_reckonTurns 21 69 24 := ⟨48, by decide +kernel, by decide, rfl⟩
theorem dX1_reckonTurns_24 : DLa mX1_reckonTurns 24 0 25 := Or.inl ⟨0, by decide +kernel, rfl, rfl⟩
theorem dX1_reckonTurns_25 : DLi mX1_reckonTurns 25 1 26 := Or.inl ⟨1, by decide +kernel, rfl, rfl⟩
theorem dX1_reckonTurns_26 : D0 mX1_reckonTurns 26 (.invokevirtual 49) 3 29 := ⟨by decide +kernel, rfl⟩
theorem dX1_reckonTurns_29 : DFeq mX1_reckonTurns 29 63 32 := ⟨34, by decide +kernel, by decide, rfl⟩
theorem dX1_reckonTurns_32 : DLa mX1_reckonTurns 32 0 33 := Or.inl ⟨0, by decide +kernel, rfl, rfl⟩
theorem dX1_reckonTurns_33 : D0 mX1_reckonTurns 33 (.getfield 40) 3 36 := ⟨by decide +kernel, rfl⟩
theorem dX1_reckonTurns_36 : DLa mX1_reckonTurns 36 0 37 := Or.inl ⟨0, by decide +kernel, rfl, rfl⟩
theorem dX1_reckonTurns_37 : D0 mX1_reckonTurns 37 (.getfield 15) 3 40 := ⟨by decide +kernel, rfl⟩
theorem dX1_reckonTurns_40 : DLi mX1_reckonTurns 40 1 41 := Or.inl ⟨1, by decide +kernel, rfl, rfl⟩
theorem dX1_reckonTurns_41 : D0 mX1_reckonTurns 41 (.iaload) 1 42 := ⟨by decide +kernel, rfl⟩
theorem dX1_reckonTurns_42 : D0 mX1_reckonTurns 42 (.dup2) 1 43 := ⟨by decide +kernel, rfl⟩
theorem dX1_reckonTurns_43 : D0 mX1_reckonTurns 43 (.iaload) 1 44 := ⟨by decide +kernel, rfl⟩
theorem dX1_reckonTurns_44 : DLa mX1_reckonTurns 44 0 45 := Or.inl ⟨0, by decide +kernel, rfl, rfl⟩
theorem dX1_reckonTurns_45 : D0 mX1_reckonTurns 45 (.getfield 19) 3 48 := ⟨by decide +kernel, rfl⟩
theorem dX1_reckonTurns_48 : DLi mX1_reckonTurns 48 1 49 := Or.inl ⟨1, by decide +kernel, rfl, rfl⟩
theorem dX1_reckonTurns_49 : D0 mX1_reckonTurns 49 (.iaload) 1 50 := ⟨by decide +kernel, rfl⟩
theorem dX1_reckonTurns_50 : DFne mX1_reckonTurns 50 57 53 := ⟨7, by decide +kernel, by decide, rfl⟩
theorem dX1_reckonTurns_53 : DKi mX1_reckonTurns 53 (nI 1) 54 := Or.inl ⟨1, by decide +kernel, by decide, rfl⟩
theorem dX1_reckonTurns_54 : DG mX1_reckonTurns 54 61 := ⟨7, by decide +kernel, by decide⟩
theorem dX1_reckonTurns_57 : DLa mX1_reckonTurns 57 0 58 := Or.inl ⟨0, by decide +kernel, rfl, rfl⟩
theorem dX1_reckonTurns_58 : D0 mX1_reckonTurns 58 (.getfield 34) 3 61 := ⟨by decide +kernel, rfl⟩
theorem dX1_reckonTurns_61 : D0 mX1_reckonTurns 61 (.iadd) 1 62 := ⟨by decide +kernel, rfl⟩
theorem dX1_reckonTurns_62 : D0 mX1_reckonTurns 62 (.iastore) 1 63 := ⟨by decide +kernel, rfl⟩
theorem dX1_reckonTurns_63 : DIn mX1_reckonTurns 63 1 (nI 1) 66 := ⟨by decide, 1, by decide +kernel, by decide, rfl⟩
theorem dX1_reckonTurns_66 : DG mX1_reckonTurns 66 10 := ⟨(-56), by decide +kernel, by decide⟩
theorem dX1_reckonTurns_69 : DLa mX1_reckonTurns 69 0 70 := Or.inl ⟨0, by decide +kernel, rfl, rfl⟩
theorem dX1_reckonTurns_70 : D0 mX1_reckonTurns 70 (.getfield 37) 3 73 := ⟨by decide +kernel, rfl⟩
theorem dX1_reckonTurns_73 : DSi mX1_reckonTurns 73 1 74 := ⟨by decide, Or.inl ⟨1, by decide +kernel, rfl, rfl⟩⟩
theorem dX1_reckonTurns_74 : DKi mX1_reckonTurns 74 (nI 0) 75 := Or.inl ⟨0, by decide +kernel, by decide, rfl⟩
theorem dX1_reckonTurns_75 : DSi mX1_reckonTurns 75 2 76 := ⟨by decide, Or.inl ⟨2, by decide +kernel, rfl, rfl⟩⟩
theorem dX1_reckonTurns_76 : DLi mX1_reckonTurns 76 2 77 := Or.inl ⟨2, by decide +kernel, rfl, rfl⟩
theorem dX1_reckonTurns_77 : DKi mX1_reckonTurns 77 (nI 100) 79 := Or.inr (Or.inl ⟨100, by decide +kernel, by decide, rfl⟩)
theorem dX1_reckonTurns_79 : DCge mX1_reckonTurns 79 107 82 := ⟨28, by decide +kernel, by decide, rfl⟩
theorem dX1_reckonTurns_82 : DLi mX1_reckonTurns 82 1 83 := Or.inl ⟨1, by decide +kernel, rfl, rfl⟩
theorem dX1_reckonTurns_83 : DLa mX1_reckonTurns 83 0 84 := Or.inl ⟨0, by decide +kernel, rfl, rfl⟩
theorem dX1_reckonTurns_84 : D0 mX1_reckonTurns 84 (.getfield 40) 3 87 := ⟨by decide +kernel, rfl⟩
theorem dX1_reckonTurns_87 : DLi mX1_reckonTurns 87 2 88 := Or.inl ⟨2, by decide +kernel, rfl, rfl⟩
theorem dX1_reckonTurns_88 : D0 mX1_reckonTurns 88 (.iaload) 1 89 := ⟨by decide +kernel, rfl⟩
theorem dX1_reckonTurns_89 : D0 mX1_reckonTurns 89 (.iadd) 1 90 := ⟨by decide +kernel, rfl⟩
theorem dX1_reckonTurns_90 : DKi mX1_reckonTurns 90 (nI 7) 92 := Or.inr (Or.inl ⟨7, by decide +kernel, by decide, rfl⟩)
theorem dX1_reckonTurns_92 : D0 mX1_reckonTurns 92 (.iand) 1 93 := ⟨by decide +kernel, rfl⟩
theorem dX1_reckonTurns_93 : DSi mX1_reckonTurns 93 1 94 := ⟨by decide, Or.inl ⟨1, by decide +kernel, rfl, rfl⟩⟩
theorem dX1_reckonTurns_94 : DLa mX1_reckonTurns 94 0 95 := Or.inl ⟨0, by decide +kernel, rfl, rfl⟩
theorem dX1_reckonTurns_95 : D0 mX1_reckonTurns 95 (.getfield 40) 3 98 := ⟨by decide +kernel, rfl⟩
theorem dX1_reckonTurns_98 : DLi mX1_reckonTurns 98 2 99 := Or.inl ⟨2, by decide +kernel, rfl, rfl⟩
theorem dX1_reckonTurns_99 : DLi mX1_reckonTurns 99 1 100 := Or.inl ⟨1, by decide +kernel, rfl, rfl⟩
theorem dX1_reckonTurns_100 : D0 mX1_reckonTurns 100 (.iastore) 1 101 := ⟨by decide +kernel, rfl⟩
theorem dX1_reckonTurns_101 : DIn mX1_reckonTurns 101 2 (nI 1) 104 := ⟨by decide, 1, by decide +kernel, by decide, rfl⟩
theorem dX1_reckonTurns_104 : DG mX1_reckonTurns 104 76 := ⟨(-28), by decide +kernel, by decide⟩
theorem dX1_reckonTurns_107 : D0 mX1_reckonTurns 107 (.return_) 1 108 := ⟨by decide +kernel, rfl⟩
theorem dX1_tally_0 : DLa mX1_tally 0 0 1 := Or.inl ⟨0, by decide +kernel, rfl, rfl⟩
theorem dX1_tally_1 : D0 mX1_tally 1 (.getfield 43) 3 4 := ⟨by decide +kernel, rfl⟩
theorem dX1_tally_4 : DKi mX1_tally 4 (nI 0) 5 := Or.inl ⟨0, by decide +kernel, by decide, rfl⟩
theorem dX1_tally_5 : D0 mX1_tally 5 (.invokestatic 53) 3 8 := ⟨by decide +kernel, rfl⟩
theorem dX1_tally_8 : DLi mX1_tally 8 1 9 := Or.inl ⟨1, by decide +kernel, rfl, rfl⟩
theorem dX1_tally_9 : DSi mX1_tally 9 3 10 := ⟨by decide, Or.inl ⟨3, by decide +kernel, rfl, rfl⟩⟩
theorem dX1_tally_10 : DLi mX1_tally 10 3 11 := Or.inl ⟨3, by decide +kernel, rfl, rfl⟩
theorem dX1_tally_11 : DLi mX1_tally 11 2 12 := Or.inl ⟨2, by decide +kernel, rfl, rfl⟩
theorem dX1_tally_12 : DCgt mX1_tally 12 36 15 := ⟨24, by decide +kernel, by decide, rfl⟩
theorem dX1_tally_15 : DLa mX1_tally 15 0 16 := Or.inl ⟨0, by decide +kernel, rfl, rfl⟩
theorem dX1_tally_16 : D0 mX1_tally 16 (.getfield 43) 3 19 := ⟨by decide +kernel, rfl⟩
theorem dX1_tally_19 : DLa mX1_tally 19 0 20 := Or.inl ⟨0, by decide +kernel, rfl, rfl⟩
theorem dX1_tally_20 : D0 mX1_tally 20 (.getfield 40) 3 23 := ⟨by decide +kernel, rfl⟩
theorem dX1_tally_23 : DLi mX1_tally 23 3 24 := Or.inl ⟨3, by decide +kernel, rfl, rfl⟩
theorem dX1_tally_24 : D0 mX1_tally 24 (.iaload) 1 25 := ⟨by decide +kernel, rfl⟩
theorem dX1_tally_25 : D0 mX1_tally 25 (.dup2) 1 26 := ⟨by decide +kernel, rfl⟩
theorem dX1_tally_26 : D0 mX1_tally 26 (.iaload) 1 27 := ⟨by decide +kernel, rfl⟩
theorem dX1_tally_27 : DKi mX1_tally 27 (nI 1) 28 := Or.inl ⟨1, by decide +kernel, by decide, rfl⟩
theorem dX1_tally_28 : D0 mX1_tally 28 (.iadd) 1 29 := ⟨by decide +kernel, rfl⟩
theorem dX1_tally_29 : D0 mX1_tally 29 (.iastore) 1 30 := ⟨by decide +kernel, rfl⟩
theorem dX1_tally_30 : DIn mX1_tally 30 3 (nI 1) 33 := ⟨by decide, 1, by decide +kernel, by decide, rfl⟩
theorem dX1_tally_33 : DG mX1_tally 33 10 := ⟨(-23), by decide +kernel, by decide⟩
theorem dX1_tally_36 : D0 mX1_tally 36 (.return_) 1 37 := ⟨by decide +kernel, rfl⟩
theorem dX1_findFirstDays_0 : DLa mX1_findFirstDays 0 0 1 := Or.inl ⟨0, by decide +kernel, rfl, rfl⟩
theorem dX1_findFirstDays_1 : D0 mX1_findFirstDays 1 (.getfield 46) 3 4 := ⟨by decide +kernel, rfl⟩
theorem dX1_findFirstDays_4 : DKi mX1_findFirstDays 4 (nI 100) 6 := Or.inr (Or.inl ⟨100, by decide +kernel, by decide, rfl⟩)
theorem dX1_findFirstDays_6 : D0 mX1_findFirstDays 6 (.invokestatic 53) 3 9 := ⟨by decide +kernel, rfl⟩
theorem dX1_findFirstDays_9 : DKi mX1_findFirstDays 9 (nI 99) 11 := Or.inr (Or.inl ⟨99, by decide +kernel, by decide, rfl⟩)
theorem dX1_findFirstDays_11 : DSi mX1_findFirstDays 11 2 12 := ⟨by decide, Or.inl ⟨2, by decide +kernel, rfl, rfl⟩⟩
theorem dX1_findFirstDays_12 : DLi mX1_findFirstDays 12 2 13 := Or.inl ⟨2, by decide +kernel, rfl, rfl⟩
theorem dX1_findFirstDays_13 : DLi mX1_findFirstDays 13 1 14 := Or.inl ⟨1, by decide +kernel, rfl, rfl⟩
theorem dX1_findFirstDays_14 : DClt mX1_findFirstDays 14 35 17 := ⟨21, by decide +kernel, by decide, rfl⟩
theorem dX1_findFirstDays_17 : DLa mX1_findFirstDays 17 0 18 := Or.inl ⟨0, by decide +kernel, rfl, rfl⟩
theorem dX1_findFirstDays_18 : D0 mX1_findFirstDays 18 (.getfield 46) 3 21 := ⟨by decide +kernel, rfl⟩
theorem dX1_findFirstDays_21 : DLa mX1_findFirstDays 21 0 22 := Or.inl ⟨0, by decide +kernel, rfl, rfl⟩
theorem dX1_findFirstDays_22 : D0 mX1_findFirstDays 22 (.getfield 40) 3 25 := ⟨by decide +kernel, rfl⟩
theorem dX1_findFirstDays_25 : DLi mX1_findFirstDays 25 2 26 := Or.inl ⟨2, by decide +kernel, rfl, rfl⟩
theorem dX1_findFirstDays_26 : D0 mX1_findFirstDays 26 (.iaload) 1 27 := ⟨by decide +kernel, rfl⟩
theorem dX1_findFirstDays_27 : DLi mX1_findFirstDays 27 2 28 := Or.inl ⟨2, by decide +kernel, rfl, rfl⟩
theorem dX1_findFirstDays_28 : D0 mX1_findFirstDays 28 (.iastore) 1 29 := ⟨by decide +kernel, rfl⟩
theorem dX1_findFirstDays_29 : DIn mX1_findFirstDays 29 2 ((-1)) 32 := ⟨by decide, (-1), by decide +kernel, by decide, rfl⟩
theorem dX1_findFirstDays_32 : DG mX1_findFirstDays 32 12 := ⟨(-20), by decide +kernel, by decide⟩
theorem dX1_findFirstDays_35 : D0 mX1_findFirstDays 35 (.return_) 1 36 := ⟨by decide +kernel, rfl⟩
theorem dX2_search_0 : DLa mX2_search 0 0 1 := Or.inl ⟨0, by decide +kernel, rfl, rfl⟩
theorem dX2_search_1 : DLa mX2_search 1 1 2 := Or.inl ⟨1, by decide +kernel, rfl, rfl⟩
theorem dX2_search_2 : D0 mX2_search 2 (.invokevirtual 41) 3 5 := ⟨by decide +kernel, rfl⟩
theorem dX2_search_5 : DSl mX2_search 5 4 7 := ⟨by decide, Or.inr ⟨by decide +kernel, rfl⟩⟩
theorem dX2_search_7 : DLa mX2_search 7 0 8 := Or.inl ⟨0, by decide +kernel, rfl, rfl⟩
theorem dX2_search_8 : DKi mX2_search 8 (nI 0) 9 := Or.inl ⟨0, by decide +kernel, by decide, rfl⟩
theorem dX2_search_9 : D0 mX2_search 9 (.putfield 28) 3 12 := ⟨by decide +kernel, rfl⟩
theorem dX2_search_12 : DLa mX2_search 12 0 13 := Or.inl ⟨0, by decide +kernel, rfl, rfl⟩
theorem dX2_search_13 : DKi mX2_search 13 ((-1)) 14 := Or.inl ⟨(-1), by decide +kernel, by decide, rfl⟩
theorem dX2_search_14 : D0 mX2_search 14 (.putfield 32) 3 17 := ⟨by decide +kernel, rfl⟩
theorem dX2_search_17 : DLa mX2_search 17 0 18 := Or.inl ⟨0, by decide +kernel, rfl, rfl⟩
theorem dX2_search_18 : DKi mX2_search 18 (nI 1) 19 := Or.inl ⟨1, by decide +kernel, by decide, rfl⟩
theorem dX2_search_19 : DLi mX2_search 19 3 20 := Or.inl ⟨3, by decide +kernel, rfl, rfl⟩
theorem dX2_search_20 : D0 mX2_search 20 (.ishl) 1 21 := ⟨by decide +kernel, rfl⟩
theorem dX2_search_21 : DKi mX2_search 21 (nI 1) 22 := Or.inl ⟨1, by decide +kernel, by decide, rfl⟩
theorem dX2_search_22 : D0 mX2_search 22 (.isub) 1 23 := ⟨by decide +kernel, rfl⟩
theorem dX2_search_23 : D0 mX2_search 23 (.putfield 35) 3 26 := ⟨by decide +kernel, rfl⟩
theorem dX2_search_26 : DLa mX2_search 26 0 27 := Or.inl ⟨0, by decide +kernel, rfl, rfl⟩
theorem dX2_search_27 : DLa mX2_search 27 0 28 := Or.inl ⟨0, by decide +kernel, rfl, rfl⟩
theorem dX2_search_28 : D0 mX2_search 28 (.getfield 35) 3 31 := ⟨by decide +kernel, rfl⟩
theorem dX2_search_31 : D0 mX2_search 31 (.putfield 38) 3 34 := ⟨by decide +kernel, rfl⟩
theorem dX2_search_34 : DLa mX2_search 34 0 35 := Or.inl ⟨0, by decide +kernel, rfl, rfl⟩
theorem dX2_search_35 : D0 mX2_search 35 (.getfield 22) 3 38 := ⟨by decide +kernel, rfl⟩
theorem dX2_search_38 : DKi mX2_search 38 (nI 0) 39 := Or.inl ⟨0, by decide +kernel, by decide, rfl⟩
theorem dX2_search_39 : DLi mX2_search 39 2 40 := Or.inl ⟨2, by decide +kernel, rfl, rfl⟩
theorem dX2_search_40 : D0 mX2_search 40 (.iastore) 1 41 := ⟨by decide +kernel, rfl⟩
theorem dX2_search_41 : DKi mX2_search 41 (nI 0) 42 := Or.inl ⟨0, by decide +kernel, by decide, rfl⟩
theorem dX2_search_42 : DSi mX2_search 42 6 44 := ⟨by decide, Or.inr ⟨by decide +kernel, rfl⟩⟩
theorem dX2_search_44 : DLi mX2_search 44 6 46 := Or.inr ⟨by decide +kernel, rfl⟩
theorem dX2_search_46 : DKi mX2_search 46 (nI 1) 47 := Or.inl ⟨1, by decide +kernel, by decide, rfl⟩
theorem dX2_search_47 : DLi mX2_search 47 3 48 := Or.inl ⟨3, by decide +kernel, rfl, rfl⟩
theorem dX2_search_48 : D0 mX2_search 48 (.ishl) 1 49 := ⟨by decide +kernel, rfl⟩
theorem dX2_search_49 : DCge mX2_search 49 138 52 := ⟨89, by decide +kernel, by decide, rfl⟩
theorem dX2_search_52 : DLi mX2_search 52 6 54 := Or.inr ⟨by decide +kernel, rfl⟩
theorem dX2_search_54 : DFne mX2_search 54 61 57 := ⟨7, by decide +kernel, by decide, rfl⟩
theorem dX2_search_57 : DLi mX2_search 57 3 58 := Or.inl ⟨3, by decide +kernel, rfl, rfl⟩
theorem dX2_search_58 : DG mX2_search 58 68 := ⟨10, by decide +kernel, by decide⟩
theorem dX2_search_61 : DLi mX2_search 61 6 63 := Or.inr ⟨by decide +kernel, rfl⟩
theorem dX2_search_63 : D0 mX2_search 63 (.invokestatic 45) 3 66 := ⟨by decide +kernel, rfl⟩
theorem dX2_search_66 : DKi mX2_search 66 (nI 1) 67 := Or.inl ⟨1, by decide +kernel, by decide, rfl⟩
theorem dX2_search_67 : D0 mX2_search 67 (.iadd) 1 68 := ⟨by decide +kernel, rfl⟩
theorem dX2_search_68 : DSi mX2_search 68 7 70 := ⟨by decide, Or.inr ⟨by decide +kernel, rfl⟩⟩
theorem dX2_search_70 : DLi mX2_search 70 3 71 := Or.inl ⟨3, by decide +kernel, rfl, rfl⟩
theorem dX2_search_71 : DLi mX2_search 71 7 73 := Or.inr ⟨by decide +kernel, rfl⟩
theorem dX2_search_73 : D0 mX2_search 73 (.isub) 1 74 := ⟨by decide +kernel, rfl⟩
theorem dX2_search_74 : DSi mX2_search 74 8 76 := ⟨by decide, Or.inr ⟨by decide +kernel, rfl⟩⟩
theorem dX2_search_76 : DLi mX2_search 76 8 78 := Or.inr ⟨by decide +kernel, rfl⟩
theorem dX2_search_78 : DLi mX2_search 78 3 79 := Or.inl ⟨3, by decide +kernel, rfl, rfl⟩
theorem dX2_search_79 : DCge mX2_search 79 105 82 := ⟨26, by decide +kernel, by decide, rfl⟩
theorem dX2_search_82 : DLa mX2_search 82 0 83 := Or.inl ⟨0, by decide +kernel, rfl, rfl⟩
theorem dX2_search_83 : DLi mX2_search 83 8 85 := Or.inr ⟨by decide +kernel, rfl⟩
theorem dX2_search_85 : DLi mX2_search 85 6 87 := Or.inr ⟨by decide +kernel, rfl⟩
theorem dX2_search_87 : DLi mX2_search 87 3 88 := Or.inl ⟨3, by decide +kernel, rfl, rfl⟩
theorem dX2_search_88 : DKi mX2_search 88 (nI 1) 89 := Or.inl ⟨1, by decide +kernel, by decide, rfl⟩
theorem dX2_search_89 : D0 mX2_search 89 (.isub) 1 90 := ⟨by decide +kernel, rfl⟩
theorem dX2_search_90 : DLi mX2_search 90 8 92 := Or.inr ⟨by decide +kernel, rfl⟩
theorem dX2_search_92 : D0 mX2_search 92 (.isub) 1 93 := ⟨by decide +kernel, rfl⟩
theorem dX2_search_93 : D0 mX2_search 93 (.ishr) 1 94 := ⟨by decide +kernel, rfl⟩
theorem dX2_search_94 : DKi mX2_search 94 (nI 1) 95 := Or.inl ⟨1, by decide +kernel, by decide, rfl⟩
theorem dX2_search_95 : D0 mX2_search 95 (.iand) 1 96 := ⟨by decide +kernel, rfl⟩
theorem dX2_search_96 : D0 mX2_search 96 (.invokevirtual 51) 3 99 := ⟨by decide +kernel, rfl⟩
theorem dX2_search_99 : DIn mX2_search 99 8 (nI 1) 102 := ⟨by decide, 1, by decide +kernel, by decide, rfl⟩
theorem dX2_search_102 : DG mX2_search 102 76 := ⟨(-26), by decide +kernel, by decide⟩
theorem dX2_search_105 : DLa mX2_search 105 0 106 := Or.inl ⟨0, by decide +kernel, rfl, rfl⟩
theorem dX2_search_106 : D0 mX2_search 106 (.getfield 25) 3 109 := ⟨by decide +kernel, rfl⟩
theorem dX2_search_109 : DLi mX2_search 109 3 110 := Or.inl ⟨3, by decide +kernel, rfl, rfl⟩
theorem dX2_search_110 : D0 mX2_search 110 (.laload) 1 111 := ⟨by decide +kernel, rfl⟩
theorem dX2_search_111 : DLl mX2_search 111 4 113 := Or.inr ⟨by decide +kernel, rfl⟩
theorem dX2_search_113 : D0 mX2_search 113 (.lcmp) 1 114 := ⟨by decide +kernel, rfl⟩
theorem dX2_search_114 : DFne mX2_search 114 132 117 := ⟨18, by decide +kernel, by decide, rfl⟩
theorem dX2_search_117 : DLa mX2_search 117 0 118 := Or.inl ⟨0, by decide +kernel, rfl, rfl⟩
theorem dX2_search_118 : DLa mX2_search 118 0 119 := Or.inl ⟨0, by decide +kernel, rfl, rfl⟩
theorem dX2_search_119 : D0 mX2_search 119 (.getfield 19) 3 122 := ⟨by decide +kernel, rfl⟩
theorem dX2_search_122 : DLi mX2_search 122 3 123 := Or.inl ⟨3, by decide +kernel, rfl, rfl⟩
theorem dX2_search_123 : D0 mX2_search 123 (.iaload) 1 124 := ⟨by decide +kernel, rfl⟩
theorem dX2_search_124 : DKi mX2_search 124 (nI 1) 125 := Or.inl ⟨1, by decide +kernel, by decide, rfl⟩
theorem dX2_search_125 : DLi mX2_search 125 3 126 := Or.inl ⟨3, by decide +kernel, rfl, rfl⟩
theorem dX2_search_126 : D0 mX2_search 126 (.ishl) 1 127 := ⟨by decide +kernel, rfl⟩
theorem dX2_search_127 : DKi mX2_search 127 (nI 1) 128 := Or.inl ⟨1, by decide +kernel, by decide, rfl⟩
theorem dX2_search_128 : D0 mX2_search 128 (.isub) 1 129 := ⟨by decide +kernel, rfl⟩
theorem dX2_search_129 : D0 mX2_search 129 (.invokevirtual 55) 3 132 := ⟨by decide +kernel, rfl⟩
theorem dX2_search_132 : DIn mX2_search 132 6 (nI 1) 135 := ⟨by decide, 1, by decide +kernel, by decide, rfl⟩
theorem dX2_search_135 : DG mX2_search 135 44 := ⟨(-91), by decide +kernel, by decide⟩
theorem dX2_search_138 : D0 mX2_search 138 (.return_) 1 139 := ⟨by decide +kernel, rfl⟩
theorem dX2_reckonCrops_0 : DLa mX2_reckonCrops 0 0 1 := Or.inl ⟨0, by decide +kernel, rfl, rfl⟩
theorem dX2_reckonCrops_1 : D0 mX2_reckonCrops 1 (.getfield 15) 3 4 := ⟨by decide +kernel, rfl⟩
theorem dX2_reckonCrops_4 : DKl mX2_reckonCrops 4 (lN 0) 5 := Or.inl ⟨0, by decide +kernel, rfl, rfl⟩
theorem dX2_reckonCrops_5 : D0 mX2_reckonCrops 5 (.invokestatic 58) 3 8 := ⟨by decide +kernel, rfl⟩
theorem dX2_reckonCrops_8 : DKl mX2_reckonCrops 8 (lN 0) 9 := Or.inl ⟨0, by decide +kernel, rfl, rfl⟩
theorem dX2_reckonCrops_9 : DSl mX2_reckonCrops 9 2 10 := ⟨by decide, Or.inl ⟨2, by decide +kernel, rfl, rfl⟩⟩
theorem dX2_reckonCrops_10 : DKi mX2_reckonCrops 10 (nI 0) 11 := Or.inl ⟨0, by decide +kernel, by decide, rfl⟩
theorem dX2_reckonCrops_11 : DSi mX2_reckonCrops 11 4 13 := ⟨by decide, Or.inr ⟨by decide +kernel, rfl⟩⟩
theorem dX2_reckonCrops_13 : DLi mX2_reckonCrops 13 4 15 := Or.inr ⟨by decide +kernel, rfl⟩
theorem dX2_reckonCrops_15 : DKi mX2_reckonCrops 15 (nI 8) 17 := Or.inr (Or.inl ⟨8, by decide +kernel, by decide, rfl⟩)
theorem dX2_reckonCrops_17 : DCge mX2_reckonCrops 17 102 20 := ⟨85, by decide +kernel, by decide, rfl⟩
theorem dX2_reckonCrops_20 : DLa mX2_reckonCrops 20 0 21 := Or.inl ⟨0, by decide +kernel, rfl, rfl⟩
theorem dX2_reckonCrops_21 : D0 mX2_reckonCrops 21 (.getfield 9) 3 24 := ⟨by decide +kernel, rfl⟩
theorem dX2_reckonCrops_24 : DLi mX2_reckonCrops 24 4 26 := Or.inr ⟨by decide +kernel, rfl⟩
theorem dX2_reckonCrops_26 : D0 mX2_reckonCrops 26 (.iaload) 1 27 := ⟨by decide +kernel, rfl⟩
theorem dX2_reckonCrops_27 : DKi mX2_reckonCrops 27 ((-1)) 28 := Or.inl ⟨(-1), by decide +kernel, by decide, rfl⟩
theorem dX2_reckonCrops_28 : DCeq mX2_reckonCrops 28 96 31 := ⟨68, by decide +kernel, by decide, rfl⟩
theorem dX2_reckonCrops_31 : DLl mX2_reckonCrops 31 2 32 := Or.inl ⟨2, by decide +kernel, rfl, rfl⟩
theorem dX2_reckonCrops_32 : DLa mX2_reckonCrops 32 0 33 := Or.inl ⟨0, by decide +kernel, rfl, rfl⟩
theorem dX2_reckonCrops_33 : D0 mX2_reckonCrops 33 (.getfield 9) 3 36 := ⟨by decide +kernel, rfl⟩
theorem dX2_reckonCrops_36 : DLi mX2_reckonCrops 36 4 38 := Or.inr ⟨by decide +kernel, rfl⟩
theorem dX2_reckonCrops_38 : D0 mX2_reckonCrops 38 (.iaload) 1 39 := ⟨by decide +kernel, rfl⟩
theorem dX2_reckonCrops_39 : D0 mX2_reckonCrops 39 (.i2l) 1 40 := ⟨by decide +kernel, rfl⟩
theorem dX2_reckonCrops_40 : DKi mX2_reckonCrops 40 (nI 4) 41 := Or.inl ⟨4, by decide +kernel, by decide, rfl⟩
theorem dX2_reckonCrops_41 : DLi mX2_reckonCrops 41 4 43 := Or.inr ⟨by decide +kernel, rfl⟩
theorem dX2_reckonCrops_43 : D0 mX2_reckonCrops 43 (.imul) 1 44 := ⟨by decide +kernel, rfl⟩
theorem dX2_reckonCrops_44 : D0 mX2_reckonCrops 44 (.lshl) 1 45 := ⟨by decide +kernel, rfl⟩
theorem dX2_reckonCrops_45 : D0 mX2_reckonCrops 45 (.lor) 1 46 := ⟨by decide +kernel, rfl⟩
theorem dX2_reckonCrops_46 : DSl mX2_reckonCrops 46 2 47 := ⟨by decide, Or.inl ⟨2, by decide +kernel, rfl, rfl⟩⟩
theorem dX2_reckonCrops_47 : DKi mX2_reckonCrops 47 (nI 0) 48 := Or.inl ⟨0, by decide +kernel, by decide, rfl⟩
theorem dX2_reckonCrops_48 : DSi mX2_reckonCrops 48 5 50 := ⟨by decide, Or.inr ⟨by decide +kernel, rfl⟩⟩
theorem dX2_reckonCrops_50 : DLi mX2_reckonCrops 50 5 52 := Or.inr ⟨by decide +kernel, rfl⟩
theorem dX2_reckonCrops_52 : DKi mX2_reckonCrops 52 (nI 8) 54 := Or.inr (Or.inl ⟨8, by decide +kernel, by decide, rfl⟩)
theorem dX2_reckonCrops_54 : DCge mX2_reckonCrops 54 96 57 := ⟨42, by decide +kernel, by decide, rfl⟩
theorem dX2_reckonCrops_57 : DLa mX2_reckonCrops 57 1 58 := Or.inl ⟨1, by decide +kernel, rfl, rfl⟩
theorem dX2_reckonCrops_58 : D0 mX2_reckonCrops 58 (.getfield 64) 3 61 := ⟨by decide +kernel, rfl⟩
theorem dX2_reckonCrops_61 : DLi mX2_reckonCrops 61 4 63 := Or.inr ⟨by decide +kernel, rfl⟩
theorem dX2_reckonCrops_63 : DLi mX2_reckonCrops 63 5 65 := Or.inr ⟨by decide +kernel, rfl⟩
theorem dX2_reckonCrops_65 : D0 mX2_reckonCrops 65 (.iadd) 1 66 := ⟨by decide +kernel, rfl⟩
theorem dX2_reckonCrops_66 : DKi mX2_reckonCrops 66 (nI 7) 68 := Or.inr (Or.inl ⟨7, by decide +kernel, by decide, rfl⟩)
theorem dX2_reckonCrops_68 : D0 mX2_reckonCrops 68 (.iand) 1 69 := ⟨by decide +kernel, rfl⟩
theorem dX2_reckonCrops_69 : D0 mX2_reckonCrops 69 (.iaload) 1 70 := ⟨by decide +kernel, rfl⟩
theorem dX2_reckonCrops_70 : DKi mX2_reckonCrops 70 (nI 4) 71 := Or.inl ⟨4, by decide +kernel, by decide, rfl⟩
theorem dX2_reckonCrops_71 : DCne mX2_reckonCrops 71 90 74 := ⟨19, by decide +kernel, by decide, rfl⟩
theorem dX2_reckonCrops_74 : DLa mX2_reckonCrops 74 0 75 := Or.inl ⟨0, by decide +kernel, rfl, rfl⟩
theorem dX2_reckonCrops_75 : D0 mX2_reckonCrops 75 (.getfield 15) 3 78 := ⟨by decide +kernel, rfl⟩
theorem dX2_reckonCrops_78 : DLi mX2_reckonCrops 78 5 80 := Or.inr ⟨by decide +kernel, rfl⟩
theorem dX2_reckonCrops_80 : D0 mX2_reckonCrops 80 (.dup2) 1 81 := ⟨by decide +kernel, rfl⟩
theorem dX2_reckonCrops_81 : D0 mX2_reckonCrops 81 (.laload) 1 82 := ⟨by decide +kernel, rfl⟩
theorem dX2_reckonCrops_82 : DKl mX2_reckonCrops 82 (lN 1) 83 := Or.inl ⟨1, by decide +kernel, rfl, rfl⟩
theorem dX2_reckonCrops_83 : DKi mX2_reckonCrops 83 (nI 4) 84 := Or.inl ⟨4, by decide +kernel, by decide, rfl⟩
theorem dX2_reckonCrops_84 : DLi mX2_reckonCrops 84 4 86 := Or.inr ⟨by decide +kernel, rfl⟩
theorem dX2_reckonCrops_86 : D0 mX2_reckonCrops 86 (.imul) 1 87 := ⟨by decide +kernel, rfl⟩
theorem dX2_reckonCrops_87 : D0 mX2_reckonCrops 87 (.lshl) 1 88 := ⟨by decide +kernel, rfl⟩
theorem dX2_reckonCrops_88 : D0 mX2_reckonCrops 88 (.lor) 1 89 := ⟨by decide +kernel, rfl⟩
theorem dX2_reckonCrops_89 : D0 mX2_reckonCrops 89 (.lastore) 1 90 := ⟨by decide +kernel, rfl⟩
theorem dX2_reckonCrops_90 : DIn mX2_reckonCrops 90 5 (nI 1) 93 := ⟨by decide, 1, by decide +kernel, by decide, rfl⟩
theorem dX2_reckonCrops_93 : DG mX2_reckonCrops 93 50 := ⟨(-43), by decide +kernel, by decide⟩
theorem dX2_reckonCrops_96 : DIn mX2_reckonCrops 96 4 (nI 1) 99 := ⟨by decide, 1, by decide +kernel, by decide, rfl⟩
theorem dX2_reckonCrops_99 : DG mX2_reckonCrops 99 13 := ⟨(-86), by decide +kernel, by decide⟩
theorem dX2_reckonCrops_102 : DLl mX2_reckonCrops 102 2 103 := Or.inl ⟨2, by decide +kernel, rfl, rfl⟩
theorem dX2_reckonCrops_103 : D0 mX2_reckonCrops 103 (.lreturn) 1 104 := ⟨by decide +kernel, rfl⟩
theorem dX2_extend_0 : DLa mX2_extend 0 0 1 := Or.inl ⟨0, by decide +kernel, rfl, rfl⟩
theorem dX2_extend_1 : D0 mX2_extend 1 (.getfield 22) 3 4 := ⟨by decide +kernel, rfl⟩
theorem dX2_extend_4 : DLi mX2_extend 4 1 5 := Or.inl ⟨1, by decide +kernel, rfl, rfl⟩
theorem dX2_extend_5 : D0 mX2_extend 5 (.iaload) 1 6 := ⟨by decide +kernel, rfl⟩
theorem dX2_extend_6 : DLi mX2_extend 6 2 7 := Or.inl ⟨2, by decide +kernel, rfl, rfl⟩
theorem dX2_extend_7 : D0 mX2_extend 7 (.iadd) 1 8 := ⟨by decide +kernel, rfl⟩
theorem dX2_extend_8 : DKi mX2_extend 8 (nI 7) 10 := Or.inr (Or.inl ⟨7, by decide +kernel, by decide, rfl⟩)
theorem dX2_extend_10 : D0 mX2_extend 10 (.iand) 1 11 := ⟨by decide +kernel, rfl⟩
theorem dX2_extend_11 : DSi mX2_extend 11 3 12 := ⟨by decide, Or.inl ⟨3, by decide +kernel, rfl, rfl⟩⟩
theorem dX2_extend_12 : DLa mX2_extend 12 0 13 := Or.inl ⟨0, by decide +kernel, rfl, rfl⟩
theorem dX2_extend_13 : D0 mX2_extend 13 (.getfield 19) 3 16 := ⟨by decide +kernel, rfl⟩
theorem dX2_extend_16 : DLi mX2_extend 16 1 17 := Or.inl ⟨1, by decide +kernel, rfl, rfl⟩
theorem dX2_extend_17 : DKi mX2_extend 17 (nI 1) 18 := Or.inl ⟨1, by decide +kernel, by decide, rfl⟩
theorem dX2_extend_18 : D0 mX2_extend 18 (.iadd) 1 19 := ⟨by decide +kernel, rfl⟩
theorem dX2_extend_19 : DLa mX2_extend 19 0 20 := Or.inl ⟨0, by decide +kernel, rfl, rfl⟩
theorem dX2_extend_20 : D0 mX2_extend 20 (.getfield 19) 3 23 := ⟨by decide +kernel, rfl⟩
theorem dX2_extend_23 : DLi mX2_extend 23 1 24 := Or.inl ⟨1, by decide +kernel, rfl, rfl⟩
theorem dX2_extend_24 : D0 mX2_extend 24 (.iaload) 1 25 := ⟨by decide +kernel, rfl⟩
theorem dX2_extend_25 : DLi mX2_extend 25 2 26 := Or.inl ⟨2, by decide +kernel, rfl, rfl⟩
theorem dX2_extend_26 : DLi mX2_extend 26 1 27 := Or.inl ⟨1, by decide +kernel, rfl, rfl⟩
theorem dX2_extend_27 : D0 mX2_extend 27 (.ishl) 1 28 := ⟨by decide +kernel, rfl⟩
theorem dX2_extend_28 : D0 mX2_extend 28 (.ior) 1 29 := ⟨by decide +kernel, rfl⟩
theorem dX2_extend_29 : D0 mX2_extend 29 (.iastore) 1 30 := ⟨by decide +kernel, rfl⟩
theorem dX2_extend_30 : DLa mX2_extend 30 0 31 := Or.inl ⟨0, by decide +kernel, rfl, rfl⟩
theorem dX2_extend_31 : D0 mX2_extend 31 (.getfield 22) 3 34 := ⟨by decide +kernel, rfl⟩
theorem dX2_extend_34 : DLi mX2_extend 34 1 35 := Or.inl ⟨1, by decide +kernel, rfl, rfl⟩
theorem dX2_extend_35 : DKi mX2_extend 35 (nI 1) 36 := Or.inl ⟨1, by decide +kernel, by decide, rfl⟩
theorem dX2_extend_36 : D0 mX2_extend 36 (.iadd) 1 37 := ⟨by decide +kernel, rfl⟩
theorem dX2_extend_37 : DLi mX2_extend 37 3 38 := Or.inl ⟨3, by decide +kernel, rfl, rfl⟩
theorem dX2_extend_38 : D0 mX2_extend 38 (.iastore) 1 39 := ⟨by decide +kernel, rfl⟩
theorem dX2_extend_39 : DLa mX2_extend 39 0 40 := Or.inl ⟨0, by decide +kernel, rfl, rfl⟩
theorem dX2_extend_40 : D0 mX2_extend 40 (.getfield 25) 3 43 := ⟨by decide +kernel, rfl⟩
theorem dX2_extend_43 : DLi mX2_extend 43 1 44 := Or.inl ⟨1, by decide +kernel, rfl, rfl⟩
theorem dX2_extend_44 : DKi mX2_extend 44 (nI 1) 45 := Or.inl ⟨1, by decide +kernel, by decide, rfl⟩
theorem dX2_extend_45 : D0 mX2_extend 45 (.iadd) 1 46 := ⟨by decide +kernel, rfl⟩
theorem dX2_extend_46 : DLa mX2_extend 46 0 47 := Or.inl ⟨0, by decide +kernel, rfl, rfl⟩
theorem dX2_extend_47 : D0 mX2_extend 47 (.getfield 25) 3 50 := ⟨by decide +kernel, rfl⟩
theorem dX2_extend_50 : DLi mX2_extend 50 1 51 := Or.inl ⟨1, by decide +kernel, rfl, rfl⟩
theorem dX2_extend_51 : D0 mX2_extend 51 (.laload) 1 52 := ⟨by decide +kernel, rfl⟩
theorem dX2_extend_52 : DLa mX2_extend 52 0 53 := Or.inl ⟨0, by decide +kernel, rfl, rfl⟩
theorem dX2_extend_53 : D0 mX2_extend 53 (.getfield 15) 3 56 := ⟨by decide +kernel, rfl⟩
theorem dX2_extend_56 : DLi mX2_extend 56 3 57 := Or.inl ⟨3, by decide +kernel, rfl, rfl⟩
theorem dX2_extend_57 : D0 mX2_extend 57 (.laload) 1 58 := ⟨by decide +kernel, rfl⟩
theorem dX2_extend_58 : D0 mX2_extend 58 (.ladd) 1 59 := ⟨by decide +kernel, rfl⟩
theorem dX2_extend_59 : D0 mX2_extend 59 (.lastore) 1 60 := ⟨by decide +kernel, rfl⟩
theorem dX2_extend_60 : D0 mX2_extend 60 (.return_) 1 61 := ⟨by decide +kernel, rfl⟩
theorem dX2_note_0 : DLa mX2_note 0 0 1 := Or.inl ⟨0, by decide +kernel, rfl, rfl⟩
theorem dX2_note_1 : D0 mX2_note 1 (.dup) 1 2 := ⟨by decide +kernel, rfl⟩
theorem dX2_note_2 : D0 mX2_note 2 (.getfield 28) 3 5 := ⟨by decide +kernel, rfl⟩
theorem dX2_note_5 : DKi mX2_note 5 (nI 1) 6 := Or.inl ⟨1, by decide +kernel, by decide, rfl⟩
theorem dX2_note_6 : D0 mX2_note 6 (.iadd) 1 7 := ⟨by decide +kernel, rfl⟩
theorem dX2_note_7 : D0 mX2_note 7 (.putfield 28) 3 10 := ⟨by decide +kernel, rfl⟩
theorem dX2_note_10 : DLa mX2_note 10 0 11 := Or.inl ⟨0, by decide +kernel, rfl, rfl⟩
theorem dX2_note_11 : DLa mX2_note 11 0 12 := Or.inl ⟨0, by decide +kernel, rfl, rfl⟩
theorem dX2_note_12 : D0 mX2_note 12 (.getfield 32) 3 15 := ⟨by decide +kernel, rfl⟩
theorem dX2_note_15 : DKi mX2_note 15 ((-1)) 16 := Or.inl ⟨(-1), by decide +kernel, by decide, rfl⟩
theorem dX2_note_16 : DCne mX2_note 16 23 19 := ⟨7, by decide +kernel, by decide, rfl⟩
theorem dX2_note_19 : DLi mX2_note 19 1 20 := Or.inl ⟨1, by decide +kernel, rfl, rfl⟩
theorem dX2_note_20 : DG mX2_note 20 31 := ⟨11, by decide +kernel, by decide⟩
theorem dX2_note_23 : DLa mX2_note 23 0 24 := Or.inl ⟨0, by decide +kernel, rfl, rfl⟩
theorem dX2_note_24 : D0 mX2_note 24 (.getfield 32) 3 27 := ⟨by decide +kernel, rfl⟩
theorem dX2_note_27 : DLi mX2_note 27 1 28 := Or.inl ⟨1, by decide +kernel, rfl, rfl⟩
theorem dX2_note_28 : D0 mX2_note 28 (.invokestatic 69) 3 31 := ⟨by decide +kernel, rfl⟩
theorem dX2_note_31 : D0 mX2_note 31 (.putfield 32) 3 34 := ⟨by decide +kernel, rfl⟩
theorem dX2_note_34 : DLa mX2_note 34 0 35 := Or.inl ⟨0, by decide +kernel, rfl, rfl⟩
theorem dX2_note_35 : D0 mX2_note 35 (.dup) 1 36 := ⟨by decide +kernel, rfl⟩
theorem dX2_note_36 : D0 mX2_note 36 (.getfield 35) 3 39 := ⟨by decide +kernel, rfl⟩
theorem dX2_note_39 : DLi mX2_note 39 1 40 := Or.inl ⟨1, by decide +kernel, rfl, rfl⟩
theorem dX2_note_40 : D0 mX2_note 40 (.iand) 1 41 := ⟨by decide +kernel, rfl⟩
theorem dX2_note_41 : D0 mX2_note 41 (.putfield 35) 3 44 := ⟨by decide +kernel, rfl⟩
theorem dX2_note_44 : DLa mX2_note 44 0 45 := Or.inl ⟨0, by decide +kernel, rfl, rfl⟩
theorem dX2_note_45 : D0 mX2_note 45 (.dup) 1 46 := ⟨by decide +kernel, rfl⟩
theorem dX2_note_46 : D0 mX2_note 46 (.getfield 38) 3 49 := ⟨by decide +kernel, rfl⟩
theorem dX2_note_49 : DLi mX2_note 49 2 50 := Or.inl ⟨2, by decide +kernel, rfl, rfl⟩
theorem dX2_note_50 : DLi mX2_note 50 1 51 := Or.inl ⟨1, by decide +kernel, rfl, rfl⟩
theorem dX2_note_51 : D0 mX2_note 51 (.ixor) 1 52 := ⟨by decide +kernel, rfl⟩
theorem dX2_note_52 : D0 mX2_note 52 (.iand) 1 53 := ⟨by decide +kernel, rfl⟩
theorem dX2_note_53 : D0 mX2_note 53 (.putfield 38) 3 56 := ⟨by decide +kernel, rfl⟩
theorem dX2_note_56 : D0 mX2_note 56 (.return_) 1 57 := ⟨by decide +kernel, rfl⟩
theorem dX3_append_0 : DLa mX3_append 0 0 1 := Or.inl ⟨0, by decide +kernel, rfl, rfl⟩
theorem dX3_append_1 : D0 mX3_append 1 (.getfield 15) 3 4 := ⟨by decide +kernel, rfl⟩
theorem dX3_append_4 : DKi mX3_append 4 (nI 60) 6 := Or.inr (Or.inl ⟨60, by decide +kernel, by decide, rfl⟩)
theorem dX3_append_6 : DClt mX3_append 6 12 9 := ⟨6, by decide +kernel, by decide, rfl⟩
theorem dX3_append_9 : DKi mX3_append 9 ((-4)) 11 := Or.inr (Or.inl ⟨(-4), by decide +kernel, by decide, rfl⟩)
theorem dX3_append_11 : D0 mX3_append 11 (.ireturn) 1 12 := ⟨by decide +kernel, rfl⟩
theorem dX3_append_12 : DLa mX3_append 12 0 13 := Or.inl ⟨0, by decide +kernel, rfl, rfl⟩
theorem dX3_append_13 : D0 mX3_append 13 (.getfield 9) 3 16 := ⟨by decide +kernel, rfl⟩
theorem dX3_append_16 : DLa mX3_append 16 0 17 := Or.inl ⟨0, by decide +kernel, rfl, rfl⟩
theorem dX3_append_17 : D0 mX3_append 17 (.getfield 15) 3 20 := ⟨by decide +kernel, rfl⟩
theorem dX3_append_20 : DLi mX3_append 20 1 21 := Or.inl ⟨1, by decide +kernel, rfl, rfl⟩
theorem dX3_append_21 : D0 mX3_append 21 (.iastore) 1 22 := ⟨by decide +kernel, rfl⟩
theorem dX3_append_22 : DLa mX3_append 22 0 23 := Or.inl ⟨0, by decide +kernel, rfl, rfl⟩
theorem dX3_append_23 : D0 mX3_append 23 (.dup) 1 24 := ⟨by decide +kernel, rfl⟩
theorem dX3_append_24 : D0 mX3_append 24 (.getfield 15) 3 27 := ⟨by decide +kernel, rfl⟩
theorem dX3_append_27 : DKi mX3_append 27 (nI 1) 28 := Or.inl ⟨1, by decide +kernel, by decide, rfl⟩
theorem dX3_append_28 : D0 mX3_append 28 (.iadd) 1 29 := ⟨by decide +kernel, rfl⟩
theorem dX3_append_29 : D0 mX3_append 29 (.putfield 15) 3 32 := ⟨by decide +kernel, rfl⟩
theorem dX3_append_32 : DLa mX3_append 32 0 33 := Or.inl ⟨0, by decide +kernel, rfl, rfl⟩
theorem dX3_append_33 : D0 mX3_append 33 (.invokevirtual 46) 3 36 := ⟨by decide +kernel, rfl⟩
theorem dX3_append_36 : DLa mX3_append 36 0 37 := Or.inl ⟨0, by decide +kernel, rfl, rfl⟩
theorem dX3_append_37 : D0 mX3_append 37 (.getfield 15) 3 40 := ⟨by decide +kernel, rfl⟩
theorem dX3_append_40 : D0 mX3_append 40 (.ireturn) 1 41 := ⟨by decide +kernel, rfl⟩
theorem dX3_empty_0 : DLa mX3_empty 0 0 1 := Or.inl ⟨0, by decide +kernel, rfl, rfl⟩
theorem dX3_empty_1 : D0 mX3_empty 1 (.getfield 15) 3 4 := ⟨by decide +kernel, rfl⟩
theorem dX3_empty_4 : DSi mX3_empty 4 1 5 := ⟨by decide, Or.inl ⟨1, by decide +kernel, rfl, rfl⟩⟩
theorem dX3_empty_5 : DLa mX3_empty 5 0 6 := Or.inl ⟨0, by decide +kernel, rfl, rfl⟩
theorem dX3_empty_6 : DKi mX3_empty 6 (nI 0) 7 := Or.inl ⟨0, by decide +kernel, by decide, rfl⟩
theorem dX3_empty_7 : D0 mX3_empty 7 (.putfield 15) 3 10 := ⟨by decide +kernel, rfl⟩
theorem dX3_empty_10 : DLa mX3_empty 10 0 11 := Or.inl ⟨0, by decide +kernel, rfl, rfl⟩
theorem dX3_empty_11 : D0 mX3_empty 11 (.invokevirtual 46) 3 14 := ⟨by decide +kernel, rfl⟩
theorem dX3_empty_14 : DLi mX3_empty 14 1 15 := Or.inl ⟨1, by decide +kernel, rfl, rfl⟩
theorem dX3_empty_15 : D0 mX3_empty 15 (.ireturn) 1 16 := ⟨by decide +kernel, rfl⟩
theorem dX3_interpret_0 : DLa mX3_interpret 0 0 1 := Or.inl ⟨0, by decide +kernel, rfl, rfl⟩
theorem dX3_interpret_1 : D0 mX3_interpret 1 (.invokevirtual 49) 3 4 := ⟨by decide +kernel, rfl⟩
theorem dX3_interpret_4 : DLa mX3_interpret 4 0 5 := Or.inl ⟨0, by decide +kernel, rfl, rfl⟩
theorem dX3_interpret_5 : DLa mX3_interpret 5 0 6 := Or.inl ⟨0, by decide +kernel, rfl, rfl⟩
theorem dX3_interpret_6 : D0 mX3_interpret 6 (.invokevirtual 52) 3 9 := ⟨by decide +kernel, rfl⟩
theorem dX3_interpret_9 : D0 mX3_interpret 9 (.putfield 19) 3 12 := ⟨by decide +kernel, rfl⟩
theorem dX3_interpret_12 : DLa mX3_interpret 12 0 13 := Or.inl ⟨0, by decide +kernel, rfl, rfl⟩
theorem dX3_interpret_13 : D0 mX3_interpret 13 (.getfield 19) 3 16 := ⟨by decide +kernel, rfl⟩
theorem dX3_interpret_16 : DKi mX3_interpret 16 ((-1)) 17 := Or.inl ⟨(-1), by decide +kernel, by decide, rfl⟩
theorem dX3_interpret_17 : DCne mX3_interpret 17 28 20 := ⟨11, by decide +kernel, by decide, rfl⟩
theorem dX3_interpret_20 : DLa mX3_interpret 20 0 21 := Or.inl ⟨0, by decide +kernel, rfl, rfl⟩
theorem dX3_interpret_21 : DLa mX3_interpret 21 0 22 := Or.inl ⟨0, by decide +kernel, rfl, rfl⟩
theorem dX3_interpret_22 : D0 mX3_interpret 22 (.invokevirtual 56) 3 25 := ⟨by decide +kernel, rfl⟩
theorem dX3_interpret_25 : D0 mX3_interpret 25 (.putfield 19) 3 28 := ⟨by decide +kernel, rfl⟩
theorem dX3_interpret_28 : DLa mX3_interpret 28 0 29 := Or.inl ⟨0, by decide +kernel, rfl, rfl⟩
theorem dX3_interpret_29 : D0 mX3_interpret 29 (.getfield 19) 3 32 := ⟨by decide +kernel, rfl⟩
theorem dX3_interpret_32 : DKi mX3_interpret 32 ((-1)) 33 := Or.inl ⟨(-1), by decide +kernel, by decide, rfl⟩
theorem dX3_interpret_33 : DCeq mX3_interpret 33 40 36 := ⟨7, by decide +kernel, by decide, rfl⟩
theorem dX3_interpret_36 : DLa mX3_interpret 36 0 37 := Or.inl ⟨0, by decide +kernel, rfl, rfl⟩
theorem dX3_interpret_37 : D0 mX3_interpret 37 (.invokevirtual 49) 3 40 := ⟨by decide +kernel, rfl⟩
theorem dX3_interpret_40 : D0 mX3_interpret 40 (.return_) 1 41 := ⟨by decide +kernel, rfl⟩
theorem dX3_forget_0 : DLa mX3_forget 0 0 1 := Or.inl ⟨0, by decide +kernel, rfl, rfl⟩
theorem dX3_forget_1 : D0 mX3_forget 1 (.getfield 22) 3 4 := ⟨by decide +kernel, rfl⟩
theorem dX3_forget_4 : DKi mX3_forget 4 (nI 0) 5 := Or.inl ⟨0, by decide +kernel, by decide, rfl⟩
theorem dX3_forget_5 : D0 mX3_forget 5 (.invokestatic 59) 3 8 := ⟨by decide +kernel, rfl⟩
theorem dX3_forget_8 : DLa mX3_forget 8 0 9 := Or.inl ⟨0, by decide +kernel, rfl, rfl⟩
theorem dX3_forget_9 : D0 mX3_forget 9 (.getfield 25) 3 12 := ⟨by decide +kernel, rfl⟩
theorem dX3_forget_12 : DKi mX3_forget 12 (nI 0) 13 := Or.inl ⟨0, by decide +kernel, by decide, rfl⟩
theorem dX3_forget_13 : D0 mX3_forget 13 (.invokestatic 59) 3 16 := ⟨by decide +kernel, rfl⟩
theorem dX3_forget_16 : DLa mX3_forget 16 0 17 := Or.inl ⟨0, by decide +kernel, rfl, rfl⟩
theorem dX3_forget_17 : DKi mX3_forget 17 (nI 0) 18 := Or.inl ⟨0, by decide +kernel, by decide, rfl⟩
theorem dX3_forget_18 : D0 mX3_forget 18 (.putfield 31) 3 21 := ⟨by decide +kernel, rfl⟩
theorem dX3_forget_21 : D0 mX3_forget 21 (.return_) 1 22 := ⟨by decide +kernel, rfl⟩
theorem dX3_takeSigns_0 : DKi mX3_takeSigns 0 (nI 0) 1 := Or.inl ⟨0, by decide +kernel, by decide, rfl⟩
theorem dX3_takeSigns_1 : DSi mX3_takeSigns 1 1 2 := ⟨by decide, Or.inl ⟨1, by decide +kernel, rfl, rfl⟩⟩
theorem dX3_takeSigns_2 : DLi mX3_takeSigns 2 1 3 := Or.inl ⟨1, by decide +kernel, rfl, rfl⟩
theorem dX3_takeSigns_3 : DKi mX3_takeSigns 3 (nI 8) 5 := Or.inr (Or.inl ⟨8, by decide +kernel, by decide, rfl⟩)
theorem dX3_takeSigns_5 : DCge mX3_takeSigns 5 37 8 := ⟨32, by decide +kernel, by decide, rfl⟩
theorem dX3_takeSigns_8 : DLa mX3_takeSigns 8 0 9 := Or.inl ⟨0, by decide +kernel, rfl, rfl⟩
theorem dX3_takeSigns_9 : DLi mX3_takeSigns 9 1 10 := Or.inl ⟨1, by decide +kernel, rfl, rfl⟩
theorem dX3_takeSigns_10 : D0 mX3_takeSigns 10 (.invokevirtual 65) 3 13 := ⟨by decide +kernel, rfl⟩
theorem dX3_takeSigns_13 : D0 mX3_takeSigns 13 (.invokestatic 69) 3 16 := ⟨by decide +kernel, rfl⟩
theorem dX3_takeSigns_16 : DSi mX3_takeSigns 16 2 17 := ⟨by decide, Or.inl ⟨2, by decide +kernel, rfl, rfl⟩⟩
theorem dX3_takeSigns_17 : DLi mX3_takeSigns 17 2 18 := Or.inl ⟨2, by decide +kernel, rfl, rfl⟩
theorem dX3_takeSigns_18 : DKi mX3_takeSigns 18 ((-1)) 19 := Or.inl ⟨(-1), by decide +kernel, by decide, rfl⟩
theorem dX3_takeSigns_19 : DCne mX3_takeSigns 19 24 22 := ⟨5, by decide +kernel, by decide, rfl⟩
theorem dX3_takeSigns_22 : DLi mX3_takeSigns 22 1 23 := Or.inl ⟨1, by decide +kernel, rfl, rfl⟩
theorem dX3_takeSigns_23 : D0 mX3_takeSigns 23 (.ireturn) 1 24 := ⟨by decide +kernel, rfl⟩
theorem dX3_takeSigns_24 : DLa mX3_takeSigns 24 0 25 := Or.inl ⟨0, by decide +kernel, rfl, rfl⟩
theorem dX3_takeSigns_25 : D0 mX3_takeSigns 25 (.getfield 22) 3 28 := ⟨by decide +kernel, rfl⟩
theorem dX3_takeSigns_28 : DLi mX3_takeSigns 28 1 29 := Or.inl ⟨1, by decide +kernel, rfl, rfl⟩
theorem dX3_takeSigns_29 : DLi mX3_takeSigns 29 2 30 := Or.inl ⟨2, by decide +kernel, rfl, rfl⟩
theorem dX3_takeSigns_30 : D0 mX3_takeSigns 30 (.iastore) 1 31 := ⟨by decide +kernel, rfl⟩
theorem dX3_takeSigns_31 : DIn mX3_takeSigns 31 1 (nI 1) 34 := ⟨by decide, 1, by decide +kernel, by decide, rfl⟩
theorem dX3_takeSigns_34 : DG mX3_takeSigns 34 2 := ⟨(-32), by decide +kernel, by decide⟩
theorem dX3_takeSigns_37 : DKi mX3_takeSigns 37 ((-1)) 38 := Or.inl ⟨(-1), by decide +kernel, by decide, rfl⟩
theorem dX3_takeSigns_38 : D0 mX3_takeSigns 38 (.ireturn) 1 39 := ⟨by decide +kernel, rfl⟩
theorem dX3_takeParts_0 : DKi mX3_takeParts 0 (nI 8) 2 := Or.inr (Or.inl ⟨8, by decide +kernel, by decide, rfl⟩)
theorem dX3_takeParts_2 : DSi mX3_takeParts 2 1 3 := ⟨by decide, Or.inl ⟨1, by decide +kernel, rfl, rfl⟩⟩
theorem dX3_takeParts_3 : DKi mX3_takeParts 3 (nI 0) 4 := Or.inl ⟨0, by decide +kernel, by decide, rfl⟩
theorem dX3_takeParts_4 : DSi mX3_takeParts 4 2 5 := ⟨by decide, Or.inl ⟨2, by decide +kernel, rfl, rfl⟩⟩
theorem dX3_takeParts_5 : DLi mX3_takeParts 5 2 6 := Or.inl ⟨2, by decide +kernel, rfl, rfl⟩
theorem dX3_takeParts_6 : DKi mX3_takeParts 6 (nI 60) 8 := Or.inr (Or.inl ⟨60, by decide +kernel, by decide, rfl⟩)
theorem dX3_takeParts_8 : DCge mX3_takeParts 8 110 11 := ⟨102, by decide +kernel, by decide, rfl⟩
theorem dX3_takeParts_11 : DLi mX3_takeParts 11 1 12 := Or.inl ⟨1, by decide +kernel, rfl, rfl⟩
theorem dX3_takeParts_12 : DLa mX3_takeParts 12 0 13 := Or.inl ⟨0, by decide +kernel, rfl, rfl⟩
theorem dX3_takeParts_13 : D0 mX3_takeParts 13 (.getfield 15) 3 16 := ⟨by decide +kernel, rfl⟩
theorem dX3_takeParts_16 : DCge mX3_takeParts 16 110 19 := ⟨94, by decide +kernel, by decide, rfl⟩
theorem dX3_takeParts_19 : DLa mX3_takeParts 19 0 20 := Or.inl ⟨0, by decide +kernel, rfl, rfl⟩
theorem dX3_takeParts_20 : DLi mX3_takeParts 20 1 21 := Or.inl ⟨1, by decide +kernel, rfl, rfl⟩
theorem dX3_takeParts_21 : D0 mX3_takeParts 21 (.invokevirtual 65) 3 24 := ⟨by decide +kernel, rfl⟩
theorem dX3_takeParts_24 : DKi mX3_takeParts 24 (nI 59) 26 := Or.inr (Or.inl ⟨59, by decide +kernel, by decide, rfl⟩)
theorem dX3_takeParts_26 : DCeq mX3_takeParts 26 31 29 := ⟨5, by decide +kernel, by decide, rfl⟩
theorem dX3_takeParts_29 : DLi mX3_takeParts 29 1 30 := Or.inl ⟨1, by decide +kernel, rfl, rfl⟩
theorem dX3_takeParts_30 : D0 mX3_takeParts 30 (.ireturn) 1 31 := ⟨by decide +kernel, rfl⟩
theorem dX3_takeParts_31 : DLa mX3_takeParts 31 0 32 := Or.inl ⟨0, by decide +kernel, rfl, rfl⟩
theorem dX3_takeParts_32 : DLi mX3_takeParts 32 1 33 := Or.inl ⟨1, by decide +kernel, rfl, rfl⟩
theorem dX3_takeParts_33 : DKi mX3_takeParts 33 (nI 1) 34 := Or.inl ⟨1, by decide +kernel, by decide, rfl⟩
theorem dX3_takeParts_34 : D0 mX3_takeParts 34 (.iadd) 1 35 := ⟨by decide +kernel, rfl⟩
theorem dX3_takeParts_35 : D0 mX3_takeParts 35 (.invokevirtual 65) 3 38 := ⟨by decide +kernel, rfl⟩
theorem dX3_takeParts_38 : DSi mX3_takeParts 38 3 39 := ⟨by decide, Or.inl ⟨3, by decide +kernel, rfl, rfl⟩⟩
theorem dX3_takeParts_39 : DLi mX3_takeParts 39 3 40 := Or.inl ⟨3, by decide +kernel, rfl, rfl⟩
theorem dX3_takeParts_40 : DKi mX3_takeParts 40 (nI 120) 42 := Or.inr (Or.inl ⟨120, by decide +kernel, by decide, rfl⟩)
theorem dX3_takeParts_42 : DCeq mX3_takeParts 42 55 45 := ⟨13, by decide +kernel, by decide, rfl⟩
theorem dX3_takeParts_45 : DLi mX3_takeParts 45 3 46 := Or.inl ⟨3, by decide +kernel, rfl, rfl⟩
theorem dX3_takeParts_46 : DKi mX3_takeParts 46 (nI 98) 48 := Or.inr (Or.inl ⟨98, by decide +kernel, by decide, rfl⟩)
theorem dX3_takeParts_48 : DCeq mX3_takeParts 48 55 51 := ⟨7, by decide +kernel, by decide, rfl⟩
theorem dX3_takeParts_51 : DLi mX3_takeParts 51 1 52 := Or.inl ⟨1, by decide +kernel, rfl, rfl⟩
theorem dX3_takeParts_52 : DKi mX3_takeParts 52 (nI 1) 53 := Or.inl ⟨1, by decide +kernel, by decide, rfl⟩
theorem dX3_takeParts_53 : D0 mX3_takeParts 53 (.iadd) 1 54 := ⟨by decide +kernel, rfl⟩
theorem dX3_takeParts_54 : D0 mX3_takeParts 54 (.ireturn) 1 55 := ⟨by decide +kernel, rfl⟩
theorem dX3_takeParts_55 : DLi mX3_takeParts 55 3 56 := Or.inl ⟨3, by decide +kernel, rfl, rfl⟩
theorem dX3_takeParts_56 : DKi mX3_takeParts 56 (nI 120) 58 := Or.inr (Or.inl ⟨120, by decide +kernel, by decide, rfl⟩)
theorem dX3_takeParts_58 : DCne mX3_takeParts 58 71 61 := ⟨13, by decide +kernel, by decide, rfl⟩
theorem dX3_takeParts_61 : DLa mX3_takeParts 61 0 62 := Or.inl ⟨0, by decide +kernel, rfl, rfl⟩
theorem dX3_takeParts_62 : DLi mX3_takeParts 62 1 63 := Or.inl ⟨1, by decide +kernel, rfl, rfl⟩
theorem dX3_takeParts_63 : DKi mX3_takeParts 63 (nI 2) 64 := Or.inl ⟨2, by decide +kernel, by decide, rfl⟩
theorem dX3_takeParts_64 : D0 mX3_takeParts 64 (.iadd) 1 65 := ⟨by decide +kernel, rfl⟩
theorem dX3_takeParts_65 : D0 mX3_takeParts 65 (.invokevirtual 72) 3 68 := ⟨by decide +kernel, rfl⟩
theorem dX3_takeParts_68 : DG mX3_takeParts 68 78 := ⟨10, by decide +kernel, by decide⟩
theorem dX3_takeParts_71 : DLa mX3_takeParts 71 0 72 := Or.inl ⟨0, by decide +kernel, rfl, rfl⟩
theorem dX3_takeParts_72 : DLi mX3_takeParts 72 1 73 := Or.inl ⟨1, by decide +kernel, rfl, rfl⟩
theorem dX3_takeParts_73 : DKi mX3_takeParts 73 (nI 1) 74 := Or.inl ⟨1, by decide +kernel, by decide, rfl⟩
theorem dX3_takeParts_74 : D0 mX3_takeParts 74 (.iadd) 1 75 := ⟨by decide +kernel, rfl⟩
theorem dX3_takeParts_75 : D0 mX3_takeParts 75 (.invokevirtual 75) 3 78 := ⟨by decide +kernel, rfl⟩
theorem dX3_takeParts_78 : DSi mX3_takeParts 78 4 80 := ⟨by decide, Or.inr ⟨by decide +kernel, rfl⟩⟩
theorem dX3_takeParts_80 : DLi mX3_takeParts 80 4 82 := Or.inr ⟨by decide +kernel, rfl⟩
theorem dX3_takeParts_82 : DKi mX3_takeParts 82 ((-1)) 83 := Or.inl ⟨(-1), by decide +kernel, by decide, rfl⟩
theorem dX3_takeParts_83 : DCeq mX3_takeParts 83 89 86 := ⟨6, by decide +kernel, by decide, rfl⟩
theorem dX3_takeParts_86 : DLi mX3_takeParts 86 4 88 := Or.inr ⟨by decide +kernel, rfl⟩
theorem dX3_takeParts_88 : D0 mX3_takeParts 88 (.ireturn) 1 89 := ⟨by decide +kernel, rfl⟩
theorem dX3_takeParts_89 : DLi mX3_takeParts 89 1 90 := Or.inl ⟨1, by decide +kernel, rfl, rfl⟩
theorem dX3_takeParts_90 : DLi mX3_takeParts 90 3 91 := Or.inl ⟨3, by decide +kernel, rfl, rfl⟩
theorem dX3_takeParts_91 : DKi mX3_takeParts 91 (nI 120) 93 := Or.inr (Or.inl ⟨120, by decide +kernel, by decide, rfl⟩)
theorem dX3_takeParts_93 : DCne mX3_takeParts 93 100 96 := ⟨7, by decide +kernel, by decide, rfl⟩
theorem dX3_takeParts_96 : DKi mX3_takeParts 96 (nI 3) 97 := Or.inl ⟨3, by decide +kernel, by decide, rfl⟩
theorem dX3_takeParts_97 : DG mX3_takeParts 97 102 := ⟨5, by decide +kernel, by decide⟩
theorem dX3_takeParts_100 : DKi mX3_takeParts 100 (nI 6) 102 := Or.inr (Or.inl ⟨6, by decide +kernel, by decide, rfl⟩)
theorem dX3_takeParts_102 : D0 mX3_takeParts 102 (.iadd) 1 103 := ⟨by decide +kernel, rfl⟩
theorem dX3_takeParts_103 : DSi mX3_takeParts 103 1 104 := ⟨by decide, Or.inl ⟨1, by decide +kernel, rfl, rfl⟩⟩
theorem dX3_takeParts_104 : DIn mX3_takeParts 104 2 (nI 1) 107 := ⟨by decide, 1, by decide +kernel, by decide, rfl⟩
theorem dX3_takeParts_107 : DG mX3_takeParts 107 5 := ⟨(-102), by decide +kernel, by decide⟩
theorem dX3_takeParts_110 : DKi mX3_takeParts 110 ((-1)) 111 := Or.inl ⟨(-1), by decide +kernel, by decide, rfl⟩
theorem dX3_takeParts_111 : D0 mX3_takeParts 111 (.ireturn) 1 112 := ⟨by decide +kernel, rfl⟩
theorem dX3_takePath_0 : DLa mX3_takePath 0 0 1 := Or.inl ⟨0, by decide +kernel, rfl, rfl⟩
theorem dX3_takePath_1 : DLi mX3_takePath 1 1 2 := Or.inl ⟨1, by decide +kernel, rfl, rfl⟩
theorem dX3_takePath_2 : D0 mX3_takePath 2 (.invokevirtual 78) 3 5 := ⟨by decide +kernel, rfl⟩
theorem dX3_takePath_5 : DSi mX3_takePath 5 2 6 := ⟨by decide, Or.inl ⟨2, by decide +kernel, rfl, rfl⟩⟩
theorem dX3_takePath_6 : DLi mX3_takePath 6 2 7 := Or.inl ⟨2, by decide +kernel, rfl, rfl⟩
theorem dX3_takePath_7 : DKi mX3_takePath 7 (nI 7) 9 := Or.inr (Or.inl ⟨7, by decide +kernel, by decide, rfl⟩)
theorem dX3_takePath_9 : D0 mX3_takePath 9 (.invokestatic 81) 3 12 := ⟨by decide +kernel, rfl⟩
theorem dX3_takePath_12 : DFne mX3_takePath 12 17 15 := ⟨5, by decide +kernel, by decide, rfl⟩
theorem dX3_takePath_15 : DLi mX3_takePath 15 1 16 := Or.inl ⟨1, by decide +kernel, rfl, rfl⟩
theorem dX3_takePath_16 : D0 mX3_takePath 16 (.ireturn) 1 17 := ⟨by decide +kernel, rfl⟩
theorem dX3_takePath_17 : DLa mX3_takePath 17 0 18 := Or.inl ⟨0, by decide +kernel, rfl, rfl⟩
theorem dX3_takePath_18 : D0 mX3_takePath 18 (.getfield 25) 3 21 := ⟨by decide +kernel, rfl⟩
theorem dX3_takePath_21 : DLi mX3_takePath 21 2 22 := Or.inl ⟨2, by decide +kernel, rfl, rfl⟩
theorem dX3_takePath_22 : DKi mX3_takePath 22 (nI 1) 23 := Or.inl ⟨1, by decide +kernel, by decide, rfl⟩
theorem dX3_takePath_23 : D0 mX3_takePath 23 (.iastore) 1 24 := ⟨by decide +kernel, rfl⟩
theorem dX3_takePath_24 : DKi mX3_takePath 24 ((-1)) 25 := Or.inl ⟨(-1), by decide +kernel, by decide, rfl⟩
theorem dX3_takePath_25 : D0 mX3_takePath 25 (.ireturn) 1 26 := ⟨by decide +kernel, rfl⟩
theorem dX3_takeBridge_0 : DLa mX3_takeBridge 0 0 1 := Or.inl ⟨0, by decide +kernel, rfl, rfl⟩
theorem dX3_takeBridge_1 : D0 mX3_takeBridge 1 (.getfield 31) 3 4 := ⟨by decide +kernel, rfl⟩
theorem dX3_takeBridge_4 : DKi mX3_takeBridge 4 (nI 4) 5 := Or.inl ⟨4, by decide +kernel, by decide, rfl⟩
theorem dX3_takeBridge_5 : DClt mX3_takeBridge 5 10 8 := ⟨5, by decide +kernel, by decide, rfl⟩
theorem dX3_takeBridge_8 : DLi mX3_takeBridge 8 1 9 := Or.inl ⟨1, by decide +kernel, rfl, rfl⟩
theorem dX3_takeBridge_9 : D0 mX3_takeBridge 9 (.ireturn) 1 10 := ⟨by decide +kernel, rfl⟩
theorem dX3_takeBridge_10 : DLa mX3_takeBridge 10 0 11 := Or.inl ⟨0, by decide +kernel, rfl, rfl⟩
theorem dX3_takeBridge_11 : DLi mX3_takeBridge 11 1 12 := Or.inl ⟨1, by decide +kernel, rfl, rfl⟩
theorem dX3_takeBridge_12 : DKi mX3_takeBridge 12 (nI 1) 13 := Or.inl ⟨1, by decide +kernel, by decide, rfl⟩
theorem dX3_takeBridge_13 : D0 mX3_takeBridge 13 (.iadd) 1 14 := ⟨by decide +kernel, rfl⟩
theorem dX3_takeBridge_14 : D0 mX3_takeBridge 14 (.invokevirtual 78) 3 17 := ⟨by decide +kernel, rfl⟩
theorem dX3_takeBridge_17 : DSi mX3_takeBridge 17 2 18 := ⟨by decide, Or.inl ⟨2, by decide +kernel, rfl, rfl⟩⟩
theorem dX3_takeBridge_18 : DLi mX3_takeBridge 18 2 19 := Or.inl ⟨2, by decide +kernel, rfl, rfl⟩
theorem dX3_takeBridge_19 : DKi mX3_takeBridge 19 (nI 7) 21 := Or.inr (Or.inl ⟨7, by decide +kernel, by decide, rfl⟩)
theorem dX3_takeBridge_21 : D0 mX3_takeBridge 21 (.invokestatic 81) 3 24 := ⟨by decide +kernel, rfl⟩
theorem dX3_takeBridge_24 : DFne mX3_takeBridge 24 31 27 := ⟨7, by decide +kernel, by decide, rfl⟩
theorem dX3_takeBridge_27 : DLi mX3_takeBridge 27 1 28 := Or.inl ⟨1, by decide +kernel, rfl, rfl⟩
theorem dX3_takeBridge_28 : DKi mX3_takeBridge 28 (nI 1) 29 := Or.inl ⟨1, by decide +kernel, by decide, rfl⟩
theorem dX3_takeBridge_29 : D0 mX3_takeBridge 29 (.iadd) 1 30 := ⟨by decide +kernel, rfl⟩
theorem dX3_takeBridge_30 : D0 mX3_takeBridge 30 (.ireturn) 1 31 := ⟨by decide +kernel, rfl⟩
theorem dX3_takeBridge_31 : DLa mX3_takeBridge 31 0 32 := Or.inl ⟨0, by decide +kernel, rfl, rfl⟩
theorem dX3_takeBridge_32 : DLi mX3_takeBridge 32 1 33 := Or.inl ⟨1, by decide +kernel, rfl, rfl⟩
theorem dX3_takeBridge_33 : DKi mX3_takeBridge 33 (nI 2) 34 := Or.inl ⟨2, by decide +kernel, by decide, rfl⟩
theorem dX3_takeBridge_34 : D0 mX3_takeBridge 34 (.iadd) 1 35 := ⟨by decide +kernel, rfl⟩
theorem dX3_takeBridge_35 : D0 mX3_takeBridge 35 (.invokevirtual 78) 3 38 := ⟨by decide +kernel, rfl⟩
theorem dX3_takeBridge_38 : DSi mX3_takeBridge 38 3 39 := ⟨by decide, Or.inl ⟨3, by decide +kernel, rfl, rfl⟩⟩
theorem dX3_takeBridge_39 : DLi mX3_takeBridge 39 3 40 := Or.inl ⟨3, by decide +kernel, rfl, rfl⟩
theorem dX3_takeBridge_40 : DKi mX3_takeBridge 40 (nI 7) 42 := Or.inr (Or.inl ⟨7, by decide +kernel, by decide, rfl⟩)
theorem dX3_takeBridge_42 : D0 mX3_takeBridge 42 (.invokestatic 81) 3 45 := ⟨by decide +kernel, rfl⟩
theorem dX3_takeBridge_45 : DFeq mX3_takeBridge 45 53 48 := ⟨8, by decide +kernel, by decide, rfl⟩
theorem dX3_takeBridge_48 : DLi mX3_takeBridge 48 3 49 := Or.inl ⟨3, by decide +kernel, rfl, rfl⟩
theorem dX3_takeBridge_49 : DLi mX3_takeBridge 49 2 50 := Or.inl ⟨2, by decide +kernel, rfl, rfl⟩
theorem dX3_takeBridge_50 : DCne mX3_takeBridge 50 57 53 := ⟨7, by decide +kernel, by decide, rfl⟩
theorem dX3_takeBridge_53 : DLi mX3_takeBridge 53 1 54 := Or.inl ⟨1, by decide +kernel, rfl, rfl⟩
theorem dX3_takeBridge_54 : DKi mX3_takeBridge 54 (nI 2) 55 := Or.inl ⟨2, by decide +kernel, by decide, rfl⟩
theorem dX3_takeBridge_55 : D0 mX3_takeBridge 55 (.iadd) 1 56 := ⟨by decide +kernel, rfl⟩
theorem dX3_takeBridge_56 : D0 mX3_takeBridge 56 (.ireturn) 1 57 := ⟨by decide +kernel, rfl⟩
theorem dX3_takeBridge_57 : DLa mX3_takeBridge 57 0 58 := Or.inl ⟨0, by decide +kernel, rfl, rfl⟩
theorem dX3_takeBridge_58 : DLi mX3_takeBridge 58 1 59 := Or.inl ⟨1, by decide +kernel, rfl, rfl⟩
theorem dX3_takeBridge_59 : DKi mX3_takeBridge 59 (nI 3) 60 := Or.inl ⟨3, by decide +kernel, by decide, rfl⟩
theorem dX3_takeBridge_60 : D0 mX3_takeBridge 60 (.iadd) 1 61 := ⟨by decide +kernel, rfl⟩
theorem dX3_takeBridge_61 : D0 mX3_takeBridge 61 (.invokevirtual 78) 3 64 := ⟨by decide +kernel, rfl⟩
theorem dX3_takeBridge_64 : DSi mX3_takeBridge 64 4 66 := ⟨by decide, Or.inr ⟨by decide +kernel, rfl⟩⟩
theorem dX3_takeBridge_66 : DLi mX3_takeBridge 66 4 68 := Or.inr ⟨by decide +kernel, rfl⟩
theorem dX3_takeBridge_68 : DKi mX3_takeBridge 68 (nI 1) 69 := Or.inl ⟨1, by decide +kernel, by decide, rfl⟩
theorem dX3_takeBridge_69 : DClt mX3_takeBridge 69 79 72 := ⟨10, by decide +kernel, by decide, rfl⟩
theorem dX3_takeBridge_72 : DLi mX3_takeBridge 72 4 74 := Or.inr ⟨by decide +kernel, rfl⟩
theorem dX3_takeBridge_74 : DKi mX3_takeBridge 74 (nI 8) 76 := Or.inr (Or.inl ⟨8, by decide +kernel, by decide, rfl⟩)
theorem dX3_takeBridge_76 : DCle mX3_takeBridge 76 83 79 := ⟨7, by decide +kernel, by decide, rfl⟩
theorem dX3_takeBridge_79 : DLi mX3_takeBridge 79 1 80 := Or.inl ⟨1, by decide +kernel, rfl, rfl⟩
theorem dX3_takeBridge_80 : DKi mX3_takeBridge 80 (nI 3) 81 := Or.inl ⟨3, by decide +kernel, by decide, rfl⟩
theorem dX3_takeBridge_81 : D0 mX3_takeBridge 81 (.iadd) 1 82 := ⟨by decide +kernel, rfl⟩
theorem dX3_takeBridge_82 : D0 mX3_takeBridge 82 (.ireturn) 1 83 := ⟨by decide +kernel, rfl⟩
theorem dX3_takeBridge_83 : DLa mX3_takeBridge 83 0 84 := Or.inl ⟨0, by decide +kernel, rfl, rfl⟩
theorem dX3_takeBridge_84 : DLi mX3_takeBridge 84 1 85 := Or.inl ⟨1, by decide +kernel, rfl, rfl⟩
theorem dX3_takeBridge_85 : DKi mX3_takeBridge 85 (nI 4) 86 := Or.inl ⟨4, by decide +kernel, by decide, rfl⟩
theorem dX3_takeBridge_86 : D0 mX3_takeBridge 86 (.iadd) 1 87 := ⟨by decide +kernel, rfl⟩
theorem dX3_takeBridge_87 : D0 mX3_takeBridge 87 (.invokevirtual 78) 3 90 := ⟨by decide +kernel, rfl⟩
theorem dX3_takeBridge_90 : DSi mX3_takeBridge 90 5 92 := ⟨by decide, Or.inr ⟨by decide +kernel, rfl⟩⟩
theorem dX3_takeBridge_92 : DLi mX3_takeBridge 92 5 94 := Or.inr ⟨by decide +kernel, rfl⟩
theorem dX3_takeBridge_94 : DLi mX3_takeBridge 94 4 96 := Or.inr ⟨by decide +kernel, rfl⟩
theorem dX3_takeBridge_96 : DKi mX3_takeBridge 96 (nI 1) 97 := Or.inl ⟨1, by decide +kernel, by decide, rfl⟩
theorem dX3_takeBridge_97 : D0 mX3_takeBridge 97 (.isub) 1 98 := ⟨by decide +kernel, rfl⟩
theorem dX3_takeBridge_98 : D0 mX3_takeBridge 98 (.invokestatic 81) 3 101 := ⟨by decide +kernel, rfl⟩
theorem dX3_takeBridge_101 : DFne mX3_takeBridge 101 108 104 := ⟨7, by decide +kernel, by decide, rfl⟩
theorem dX3_takeBridge_104 : DLi mX3_takeBridge 104 1 105 := Or.inl ⟨1, by decide +kernel, rfl, rfl⟩
theorem dX3_takeBridge_105 : DKi mX3_takeBridge 105 (nI 4) 106 := Or.inl ⟨4, by decide +kernel, by decide, rfl⟩
theorem dX3_takeBridge_106 : D0 mX3_takeBridge 106 (.iadd) 1 107 := ⟨by decide +kernel, rfl⟩
theorem dX3_takeBridge_107 : D0 mX3_takeBridge 107 (.ireturn) 1 108 := ⟨by decide +kernel, rfl⟩
theorem dX3_takeBridge_108 : DLa mX3_takeBridge 108 0 109 := Or.inl ⟨0, by decide +kernel, rfl, rfl⟩
theorem dX3_takeBridge_109 : D0 mX3_takeBridge 109 (.getfield 34) 3 112 := ⟨by decide +kernel, rfl⟩
theorem dX3_takeBridge_112 : DLa mX3_takeBridge 112 0 113 := Or.inl ⟨0, by decide +kernel, rfl, rfl⟩
theorem dX3_takeBridge_113 : D0 mX3_takeBridge 113 (.getfield 31) 3 116 := ⟨by decide +kernel, rfl⟩
theorem dX3_takeBridge_116 : DLi mX3_takeBridge 116 2 117 := Or.inl ⟨2, by decide +kernel, rfl, rfl⟩
theorem dX3_takeBridge_117 : D0 mX3_takeBridge 117 (.iastore) 1 118 := ⟨by decide +kernel, rfl⟩
theorem dX3_takeBridge_118 : DLa mX3_takeBridge 118 0 119 := Or.inl ⟨0, by decide +kernel, rfl, rfl⟩
theorem dX3_takeBridge_119 : D0 mX3_takeBridge 119 (.getfield 37) 3 122 := ⟨by decide +kernel, rfl⟩
theorem dX3_takeBridge_122 : DLa mX3_takeBridge 122 0 123 := Or.inl ⟨0, by decide +kernel, rfl, rfl⟩
theorem dX3_takeBridge_123 : D0 mX3_takeBridge 123 (.getfield 31) 3 126 := ⟨by decide +kernel, rfl⟩
theorem dX3_takeBridge_126 : DLi mX3_takeBridge 126 3 127 := Or.inl ⟨3, by decide +kernel, rfl, rfl⟩
theorem dX3_takeBridge_127 : D0 mX3_takeBridge 127 (.iastore) 1 128 := ⟨by decide +kernel, rfl⟩
theorem dX3_takeBridge_128 : DLa mX3_takeBridge 128 0 129 := Or.inl ⟨0, by decide +kernel, rfl, rfl⟩
theorem dX3_takeBridge_129 : D0 mX3_takeBridge 129 (.getfield 40) 3 132 := ⟨by decide +kernel, rfl⟩
theorem dX3_takeBridge_132 : DLa mX3_takeBridge 132 0 133 := Or.inl ⟨0, by decide +kernel, rfl, rfl⟩
theorem dX3_takeBridge_133 : D0 mX3_takeBridge 133 (.getfield 31) 3 136 := ⟨by decide +kernel, rfl⟩
theorem dX3_takeBridge_136 : DLi mX3_takeBridge 136 4 138 := Or.inr ⟨by decide +kernel, rfl⟩
theorem dX3_takeBridge_138 : D0 mX3_takeBridge 138 (.iastore) 1 139 := ⟨by decide +kernel, rfl⟩
theorem dX3_takeBridge_139 : DLa mX3_takeBridge 139 0 140 := Or.inl ⟨0, by decide +kernel, rfl, rfl⟩
theorem dX3_takeBridge_140 : D0 mX3_takeBridge 140 (.getfield 43) 3 143 := ⟨by decide +kernel, rfl⟩
theorem dX3_takeBridge_143 : DLa mX3_takeBridge 143 0 144 := Or.inl ⟨0, by decide +kernel, rfl, rfl⟩
theorem dX3_takeBridge_144 : D0 mX3_takeBridge 144 (.getfield 31) 3 147 := ⟨by decide +kernel, rfl⟩
theorem dX3_takeBridge_147 : DLi mX3_takeBridge 147 5 149 := Or.inr ⟨by decide +kernel, rfl⟩
theorem dX3_takeBridge_149 : D0 mX3_takeBridge 149 (.iastore) 1 150 := ⟨by decide +kernel, rfl⟩
theorem dX3_takeBridge_150 : DLa mX3_takeBridge 150 0 151 := Or.inl ⟨0, by decide +kernel, rfl, rfl⟩
theorem dX3_takeBridge_151 : D0 mX3_takeBridge 151 (.dup) 1 152 := ⟨by decide +kernel, rfl⟩
theorem dX3_takeBridge_152 : D0 mX3_takeBridge 152 (.getfield 31) 3 155 := ⟨by decide +kernel, rfl⟩
theorem dX3_takeBridge_155 : DKi mX3_takeBridge 155 (nI 1) 156 := Or.inl ⟨1, by decide +kernel, by decide, rfl⟩
theorem dX3_takeBridge_156 : D0 mX3_takeBridge 156 (.iadd) 1 157 := ⟨by decide +kernel, rfl⟩
theorem dX3_takeBridge_157 : D0 mX3_takeBridge 157 (.putfield 31) 3 160 := ⟨by decide +kernel, rfl⟩
theorem dX3_takeBridge_160 : DKi mX3_takeBridge 160 ((-1)) 161 := Or.inl ⟨(-1), by decide +kernel, by decide, rfl⟩
theorem dX3_takeBridge_161 : D0 mX3_takeBridge 161 (.ireturn) 1 162 := ⟨by decide +kernel, rfl⟩
theorem dX3_signAt_0 : DLi mX3_signAt 0 1 1 := Or.inl ⟨1, by decide +kernel, rfl, rfl⟩
theorem dX3_signAt_1 : DFlt mX3_signAt 1 27 4 := ⟨26, by decide +kernel, by decide, rfl⟩
theorem dX3_signAt_4 : DLi mX3_signAt 4 1 5 := Or.inl ⟨1, by decide +kernel, rfl, rfl⟩
theorem dX3_signAt_5 : DLa mX3_signAt 5 0 6 := Or.inl ⟨0, by decide +kernel, rfl, rfl⟩
theorem dX3_signAt_6 : D0 mX3_signAt 6 (.getfield 15) 3 9 := ⟨by decide +kernel, rfl⟩
theorem dX3_signAt_9 : DCge mX3_signAt 9 27 12 := ⟨18, by decide +kernel, by decide, rfl⟩
theorem dX3_signAt_12 : DLi mX3_signAt 12 1 13 := Or.inl ⟨1, by decide +kernel, rfl, rfl⟩
theorem dX3_signAt_13 : DKi mX3_signAt 13 (nI 60) 15 := Or.inr (Or.inl ⟨60, by decide +kernel, by decide, rfl⟩)
theorem dX3_signAt_15 : DCge mX3_signAt 15 27 18 := ⟨12, by decide +kernel, by decide, rfl⟩
theorem dX3_signAt_18 : DLa mX3_signAt 18 0 19 := Or.inl ⟨0, by decide +kernel, rfl, rfl⟩
theorem dX3_signAt_19 : D0 mX3_signAt 19 (.getfield 9) 3 22 := ⟨by decide +kernel, rfl⟩
theorem dX3_signAt_22 : DLi mX3_signAt 22 1 23 := Or.inl ⟨1, by decide +kernel, rfl, rfl⟩
theorem dX3_signAt_23 : D0 mX3_signAt 23 (.iaload) 1 24 := ⟨by decide +kernel, rfl⟩
theorem dX3_signAt_24 : DG mX3_signAt 24 28 := ⟨4, by decide +kernel, by decide⟩
theorem dX3_signAt_27 : DKi mX3_signAt 27 ((-1)) 28 := Or.inl ⟨(-1), by decide +kernel, by decide, rfl⟩
theorem dX3_signAt_28 : D0 mX3_signAt 28 (.ireturn) 1 29 := ⟨by decide +kernel, rfl⟩
theorem dX3_figureAt_0 : DLa mX3_figureAt 0 0 1 := Or.inl ⟨0, by decide +kernel, rfl, rfl⟩
theorem dX3_figureAt_1 : DLi mX3_figureAt 1 1 2 := Or.inl ⟨1, by decide +kernel, rfl, rfl⟩
theorem dX3_figureAt_2 : D0 mX3_figureAt 2 (.invokevirtual 65) 3 5 := ⟨by decide +kernel, rfl⟩
theorem dX3_figureAt_5 : DSi mX3_figureAt 5 2 6 := ⟨by decide, Or.inl ⟨2, by decide +kernel, rfl, rfl⟩⟩
theorem dX3_figureAt_6 : DLi mX3_figureAt 6 2 7 := Or.inl ⟨2, by decide +kernel, rfl, rfl⟩
theorem dX3_figureAt_7 : DKi mX3_figureAt 7 (nI 48) 9 := Or.inr (Or.inl ⟨48, by decide +kernel, by decide, rfl⟩)
theorem dX3_figureAt_9 : DClt mX3_figureAt 9 25 12 := ⟨16, by decide +kernel, by decide, rfl⟩
theorem dX3_figureAt_12 : DLi mX3_figureAt 12 2 13 := Or.inl ⟨2, by decide +kernel, rfl, rfl⟩
theorem dX3_figureAt_13 : DKi mX3_figureAt 13 (nI 57) 15 := Or.inr (Or.inl ⟨57, by decide +kernel, by decide, rfl⟩)
theorem dX3_figureAt_15 : DCgt mX3_figureAt 15 25 18 := ⟨10, by decide +kernel, by decide, rfl⟩
theorem dX3_figureAt_18 : DLi mX3_figureAt 18 2 19 := Or.inl ⟨2, by decide +kernel, rfl, rfl⟩
theorem dX3_figureAt_19 : DKi mX3_figureAt 19 (nI 48) 21 := Or.inr (Or.inl ⟨48, by decide +kernel, by decide, rfl⟩)
theorem dX3_figureAt_21 : D0 mX3_figureAt 21 (.isub) 1 22 := ⟨by decide +kernel, rfl⟩
theorem dX3_figureAt_22 : DG mX3_figureAt 22 26 := ⟨4, by decide +kernel, by decide⟩
theorem dX3_figureAt_25 : DKi mX3_figureAt 25 ((-1)) 26 := Or.inl ⟨(-1), by decide +kernel, by decide, rfl⟩
theorem dX3_figureAt_26 : D0 mX3_figureAt 26 (.ireturn) 1 27 := ⟨by decide +kernel, rfl⟩
theorem dX3_thingOf_0 : DLi mX3_thingOf 0 0 1 := Or.inl ⟨0, by decide +kernel, rfl, rfl⟩
theorem dX3_thingOf_1 : decode (mC mX3_thingOf) 1 = .ok (.lookupswitch 61 #[(46, 51), (102, 59), (109, 53), (115, 57), (119, 55)], 51) := by decide +kernel
theorem dX3_thingOf_52 : DKi mX3_thingOf 52 (nI 0) 53 := Or.inl ⟨0, by decide +kernel, by decide, rfl⟩
theorem dX3_thingOf_53 : D0 mX3_thingOf 53 (.ireturn) 1 54 := ⟨by decide +kernel, rfl⟩
theorem dX3_thingOf_54 : DKi mX3_thingOf 54 (nI 1) 55 := Or.inl ⟨1, by decide +kernel, by decide, rfl⟩
theorem dX3_thingOf_55 : D0 mX3_thingOf 55 (.ireturn) 1 56 := ⟨by decide +kernel, rfl⟩
theorem dX3_thingOf_56 : DKi mX3_thingOf 56 (nI 2) 57 := Or.inl ⟨2, by decide +kernel, by decide, rfl⟩
theorem dX3_thingOf_57 : D0 mX3_thingOf 57 (.ireturn) 1 58 := ⟨by decide +kernel, rfl⟩
theorem dX3_thingOf_58 : DKi mX3_thingOf 58 (nI 3) 59 := Or.inl ⟨3, by decide +kernel, by decide, rfl⟩
theorem dX3_thingOf_59 : D0 mX3_thingOf 59 (.ireturn) 1 60 := ⟨by decide +kernel, rfl⟩
theorem dX3_thingOf_60 : DKi mX3_thingOf 60 (nI 4) 61 := Or.inl ⟨4, by decide +kernel, by decide, rfl⟩
theorem dX3_thingOf_61 : D0 mX3_thingOf 61 (.ireturn) 1 62 := ⟨by decide +kernel, rfl⟩
theorem dX3_thingOf_62 : DKi mX3_thingOf 62 ((-1)) 63 := Or.inl ⟨(-1), by decide +kernel, by decide, rfl⟩
theorem dX3_thingOf_63 : D0 mX3_thingOf 63 (.ireturn) 1 64 := ⟨by decide +kernel, rfl⟩
theorem dX3_joins_0 : DLa mX3_joins 0 0 1 := Or.inl ⟨0, by decide +kernel, rfl, rfl⟩
theorem dX3_joins_1 : D0 mX3_joins 1 (.getfield 34) 3 4 := ⟨by decide +kernel, rfl⟩
theorem dX3_joins_4 : DLi mX3_joins 4 1 5 := Or.inl ⟨1, by decide +kernel, rfl, rfl⟩
theorem dX3_joins_5 : D0 mX3_joins 5 (.iaload) 1 6 := ⟨by decide +kernel, rfl⟩
theorem dX3_joins_6 : DLi mX3_joins 6 2 7 := Or.inl ⟨2, by decide +kernel, rfl, rfl⟩
theorem dX3_joins_7 : DCne mX3_joins 7 20 10 := ⟨13, by decide +kernel, by decide, rfl⟩
theorem dX3_joins_10 : DLa mX3_joins 10 0 11 := Or.inl ⟨0, by decide +kernel, rfl, rfl⟩
theorem dX3_joins_11 : D0 mX3_joins 11 (.getfield 37) 3 14 := ⟨by decide +kernel, rfl⟩
theorem dX3_joins_14 : DLi mX3_joins 14 1 15 := Or.inl ⟨1, by decide +kernel, rfl, rfl⟩
theorem dX3_joins_15 : D0 mX3_joins 15 (.iaload) 1 16 := ⟨by decide +kernel, rfl⟩
theorem dX3_joins_16 : DLi mX3_joins 16 3 17 := Or.inl ⟨3, by decide +kernel, rfl, rfl⟩
theorem dX3_joins_17 : DCeq mX3_joins 17 40 20 := ⟨23, by decide +kernel, by decide, rfl⟩
theorem dX3_joins_20 : DLa mX3_joins 20 0 21 := Or.inl ⟨0, by decide +kernel, rfl, rfl⟩
theorem dX3_joins_21 : D0 mX3_joins 21 (.getfield 34) 3 24 := ⟨by decide +kernel, rfl⟩
theorem dX3_joins_24 : DLi mX3_joins 24 1 25 := Or.inl ⟨1, by decide +kernel, rfl, rfl⟩
theorem dX3_joins_25 : D0 mX3_joins 25 (.iaload) 1 26 := ⟨by decide +kernel, rfl⟩
theorem dX3_joins_26 : DLi mX3_joins 26 3 27 := Or.inl ⟨3, by decide +kernel, rfl, rfl⟩
theorem dX3_joins_27 : DCne mX3_joins 27 44 30 := ⟨17, by decide +kernel, by decide, rfl⟩
theorem dX3_joins_30 : DLa mX3_joins 30 0 31 := Or.inl ⟨0, by decide +kernel, rfl, rfl⟩
theorem dX3_joins_31 : D0 mX3_joins 31 (.getfield 37) 3 34 := ⟨by decide +kernel, rfl⟩
theorem dX3_joins_34 : DLi mX3_joins 34 1 35 := Or.inl ⟨1, by decide +kernel, rfl, rfl⟩
theorem dX3_joins_35 : D0 mX3_joins 35 (.iaload) 1 36 := ⟨by decide +kernel, rfl⟩
theorem dX3_joins_36 : DLi mX3_joins 36 2 37 := Or.inl ⟨2, by decide +kernel, rfl, rfl⟩
theorem dX3_joins_37 : DCne mX3_joins 37 44 40 := ⟨7, by decide +kernel, by decide, rfl⟩
theorem dX3_joins_40 : DKi mX3_joins 40 (nI 1) 41 := Or.inl ⟨1, by decide +kernel, by decide, rfl⟩
theorem dX3_joins_41 : DG mX3_joins 41 45 := ⟨4, by decide +kernel, by decide⟩
theorem dX3_joins_44 : DKi mX3_joins 44 (nI 0) 45 := Or.inl ⟨0, by decide +kernel, by decide, rfl⟩
theorem dX3_joins_45 : D0 mX3_joins 45 (.ireturn) 1 46 := ⟨by decide +kernel, rfl⟩
theorem dX3_meetsAt_0 : DLa mX3_meetsAt 0 0 1 := Or.inl ⟨0, by decide +kernel, rfl, rfl⟩
theorem dX3_meetsAt_1 : D0 mX3_meetsAt 1 (.getfield 40) 3 4 := ⟨by decide +kernel, rfl⟩
theorem dX3_meetsAt_4 : DLi mX3_meetsAt 4 1 5 := Or.inl ⟨1, by decide +kernel, rfl, rfl⟩
theorem dX3_meetsAt_5 : D0 mX3_meetsAt 5 (.iaload) 1 6 := ⟨by decide +kernel, rfl⟩
theorem dX3_meetsAt_6 : DSi mX3_meetsAt 6 3 7 := ⟨by decide, Or.inl ⟨3, by decide +kernel, rfl, rfl⟩⟩
theorem dX3_meetsAt_7 : DLi mX3_meetsAt 7 3 8 := Or.inl ⟨3, by decide +kernel, rfl, rfl⟩
theorem dX3_meetsAt_8 : DFle mX3_meetsAt 8 27 11 := ⟨19, by decide +kernel, by decide, rfl⟩
theorem dX3_meetsAt_11 : DLi mX3_meetsAt 11 2 12 := Or.inl ⟨2, by decide +kernel, rfl, rfl⟩
theorem dX3_meetsAt_12 : DLi mX3_meetsAt 12 3 13 := Or.inl ⟨3, by decide +kernel, rfl, rfl⟩
theorem dX3_meetsAt_13 : D0 mX3_meetsAt 13 (.irem) 1 14 := ⟨by decide +kernel, rfl⟩
theorem dX3_meetsAt_14 : DLa mX3_meetsAt 14 0 15 := Or.inl ⟨0, by decide +kernel, rfl, rfl⟩
theorem dX3_meetsAt_15 : D0 mX3_meetsAt 15 (.getfield 43) 3 18 := ⟨by decide +kernel, rfl⟩
theorem dX3_meetsAt_18 : DLi mX3_meetsAt 18 1 19 := Or.inl ⟨1, by decide +kernel, rfl, rfl⟩
theorem dX3_meetsAt_19 : D0 mX3_meetsAt 19 (.iaload) 1 20 := ⟨by decide +kernel, rfl⟩
theorem dX3_meetsAt_20 : DCne mX3_meetsAt 20 27 23 := ⟨7, by decide +kernel, by decide, rfl⟩
theorem dX3_meetsAt_23 : DKi mX3_meetsAt 23 (nI 1) 24 := Or.inl ⟨1, by decide +kernel, by decide, rfl⟩
theorem dX3_meetsAt_24 : DG mX3_meetsAt 24 28 := ⟨4, by decide +kernel, by decide⟩
theorem dX3_meetsAt_27 : DKi mX3_meetsAt 27 (nI 0) 28 := Or.inl ⟨0, by decide +kernel, by decide, rfl⟩
theorem dX3_meetsAt_28 : D0 mX3_meetsAt 28 (.ireturn) 1 29 := ⟨by decide +kernel, rfl⟩
end
section
theorem dX3_canWork_0 : DLa mX3_canWork 0 0 1 := Or.inl ⟨0, by decide +kernel, rfl, rfl⟩
theorem dX3_canWork_1 : D0 mX3_canWork 1 (.getfield 22) 3 4 := ⟨by decide +kernel, rfl⟩
theorem dX3_canWork_4 : DLi mX3_canWork 4 1 5 := Or.inl ⟨1, by decide +kernel, rfl, rfl⟩
theorem dX3_canWork_5 : DLi mX3_canWork 5 4 7 := Or.inr ⟨by decide +kernel, rfl⟩
theorem dX3_canWork_7 : D0 mX3_canWork 7 (.iadd) 1 8 := ⟨by decide +kernel, rfl⟩
theorem dX3_canWork_8 : DKi mX3_canWork 8 (nI 7) 10 := Or.inr (Or.inl ⟨7, by decide +kernel, by decide, rfl⟩)
theorem dX3_canWork_10 : D0 mX3_canWork 10 (.iand) 1 11 := ⟨by decide +kernel, rfl⟩
theorem dX3_canWork_11 : D0 mX3_canWork 11 (.iaload) 1 12 := ⟨by decide +kernel, rfl⟩
theorem dX3_canWork_12 : DLi mX3_canWork 12 2 13 := Or.inl ⟨2, by decide +kernel, rfl, rfl⟩
theorem dX3_canWork_13 : DCne mX3_canWork 13 38 16 := ⟨25, by decide +kernel, by decide, rfl⟩
theorem dX3_canWork_16 : DLa mX3_canWork 16 0 17 := Or.inl ⟨0, by decide +kernel, rfl, rfl⟩
theorem dX3_canWork_17 : D0 mX3_canWork 17 (.getfield 22) 3 20 := ⟨by decide +kernel, rfl⟩
theorem dX3_canWork_20 : DLi mX3_canWork 20 1 21 := Or.inl ⟨1, by decide +kernel, rfl, rfl⟩
theorem dX3_canWork_21 : DKi mX3_canWork 21 (nI 1) 22 := Or.inl ⟨1, by decide +kernel, by decide, rfl⟩
theorem dX3_canWork_22 : D0 mX3_canWork 22 (.iadd) 1 23 := ⟨by decide +kernel, rfl⟩
theorem dX3_canWork_23 : DLi mX3_canWork 23 4 25 := Or.inr ⟨by decide +kernel, rfl⟩
theorem dX3_canWork_25 : D0 mX3_canWork 25 (.iadd) 1 26 := ⟨by decide +kernel, rfl⟩
theorem dX3_canWork_26 : DKi mX3_canWork 26 (nI 7) 28 := Or.inr (Or.inl ⟨7, by decide +kernel, by decide, rfl⟩)
theorem dX3_canWork_28 : D0 mX3_canWork 28 (.iand) 1 29 := ⟨by decide +kernel, rfl⟩
theorem dX3_canWork_29 : D0 mX3_canWork 29 (.iaload) 1 30 := ⟨by decide +kernel, rfl⟩
theorem dX3_canWork_30 : DLi mX3_canWork 30 3 31 := Or.inl ⟨3, by decide +kernel, rfl, rfl⟩
theorem dX3_canWork_31 : DCne mX3_canWork 31 38 34 := ⟨7, by decide +kernel, by decide, rfl⟩
theorem dX3_canWork_34 : DKi mX3_canWork 34 (nI 1) 35 := Or.inl ⟨1, by decide +kernel, by decide, rfl⟩
theorem dX3_canWork_35 : DG mX3_canWork 35 39 := ⟨4, by decide +kernel, by decide⟩
theorem dX3_canWork_38 : DKi mX3_canWork 38 (nI 0) 39 := Or.inl ⟨0, by decide +kernel, by decide, rfl⟩
theorem dX3_canWork_39 : D0 mX3_canWork 39 (.ireturn) 1 40 := ⟨by decide +kernel, rfl⟩
theorem dX3_closedPaths_0 : DKi mX3_closedPaths 0 (nI 0) 1 := Or.inl ⟨0, by decide +kernel, by decide, rfl⟩
theorem dX3_closedPaths_1 : DSi mX3_closedPaths 1 1 2 := ⟨by decide, Or.inl ⟨1, by decide +kernel, rfl, rfl⟩⟩
theorem dX3_closedPaths_2 : DKi mX3_closedPaths 2 (nI 0) 3 := Or.inl ⟨0, by decide +kernel, by decide, rfl⟩
theorem dX3_closedPaths_3 : DSi mX3_closedPaths 3 2 4 := ⟨by decide, Or.inl ⟨2, by decide +kernel, rfl, rfl⟩⟩
theorem dX3_closedPaths_4 : DLi mX3_closedPaths 4 2 5 := Or.inl ⟨2, by decide +kernel, rfl, rfl⟩
theorem dX3_closedPaths_5 : DKi mX3_closedPaths 5 (nI 8) 7 := Or.inr (Or.inl ⟨8, by decide +kernel, by decide, rfl⟩)
theorem dX3_closedPaths_7 : DCge mX3_closedPaths 7 25 10 := ⟨18, by decide +kernel, by decide, rfl⟩
theorem dX3_closedPaths_10 : DLi mX3_closedPaths 10 1 11 := Or.inl ⟨1, by decide +kernel, rfl, rfl⟩
theorem dX3_closedPaths_11 : DLa mX3_closedPaths 11 0 12 := Or.inl ⟨0, by decide +kernel, rfl, rfl⟩
theorem dX3_closedPaths_12 : D0 mX3_closedPaths 12 (.getfield 25) 3 15 := ⟨by decide +kernel, rfl⟩
theorem dX3_closedPaths_15 : DLi mX3_closedPaths 15 2 16 := Or.inl ⟨2, by decide +kernel, rfl, rfl⟩
theorem dX3_closedPaths_16 : D0 mX3_closedPaths 16 (.iaload) 1 17 := ⟨by decide +kernel, rfl⟩
theorem dX3_closedPaths_17 : D0 mX3_closedPaths 17 (.iadd) 1 18 := ⟨by decide +kernel, rfl⟩
theorem dX3_closedPaths_18 : DSi mX3_closedPaths 18 1 19 := ⟨by decide, Or.inl ⟨1, by decide +kernel, rfl, rfl⟩⟩
theorem dX3_closedPaths_19 : DIn mX3_closedPaths 19 2 (nI 1) 22 := ⟨by decide, 1, by decide +kernel, by decide, rfl⟩
theorem dX3_closedPaths_22 : DG mX3_closedPaths 22 4 := ⟨(-18), by decide +kernel, by decide⟩
theorem dX3_closedPaths_25 : DLi mX3_closedPaths 25 1 26 := Or.inl ⟨1, by decide +kernel, rfl, rfl⟩
theorem dX3_closedPaths_26 : D0 mX3_closedPaths 26 (.ireturn) 1 27 := ⟨by decide +kernel, rfl⟩
theorem dX4_renew_0 : DLa mX4_renew 0 0 1 := Or.inl ⟨0, by decide +kernel, rfl, rfl⟩
theorem dX4_renew_1 : DKi mX4_renew 1 (nI 0) 2 := Or.inl ⟨0, by decide +kernel, by decide, rfl⟩
theorem dX4_renew_2 : D0 mX4_renew 2 (.putfield 9) 3 5 := ⟨by decide +kernel, rfl⟩
theorem dX4_renew_5 : DLa mX4_renew 5 0 6 := Or.inl ⟨0, by decide +kernel, rfl, rfl⟩
theorem dX4_renew_6 : DLi mX4_renew 6 1 7 := Or.inl ⟨1, by decide +kernel, rfl, rfl⟩
theorem dX4_renew_7 : D0 mX4_renew 7 (.putfield 15) 3 10 := ⟨by decide +kernel, rfl⟩
theorem dX4_renew_10 : DLa mX4_renew 10 0 11 := Or.inl ⟨0, by decide +kernel, rfl, rfl⟩
theorem dX4_renew_11 : DLi mX4_renew 11 2 12 := Or.inl ⟨2, by decide +kernel, rfl, rfl⟩
theorem dX4_renew_12 : D0 mX4_renew 12 (.putfield 19) 3 15 := ⟨by decide +kernel, rfl⟩
theorem dX4_renew_15 : DLa mX4_renew 15 0 16 := Or.inl ⟨0, by decide +kernel, rfl, rfl⟩
theorem dX4_renew_16 : D0 mX4_renew 16 (.getfield 22) 3 19 := ⟨by decide +kernel, rfl⟩
theorem dX4_renew_19 : DKi mX4_renew 19 (nI 0) 20 := Or.inl ⟨0, by decide +kernel, by decide, rfl⟩
theorem dX4_renew_20 : D0 mX4_renew 20 (.invokestatic 26) 3 23 := ⟨by decide +kernel, rfl⟩
theorem dX4_renew_23 : D0 mX4_renew 23 (.return_) 1 24 := ⟨by decide +kernel, rfl⟩
theorem dX4_findingAt_0 : DLa mX4_findingAt 0 0 1 := Or.inl ⟨0, by decide +kernel, rfl, rfl⟩
theorem dX4_findingAt_1 : D0 mX4_findingAt 1 (.getfield 9) 3 4 := ⟨by decide +kernel, rfl⟩
theorem dX4_findingAt_4 : DFeq mX4_findingAt 4 9 7 := ⟨5, by decide +kernel, by decide, rfl⟩
theorem dX4_findingAt_7 : DKi mX4_findingAt 7 (nI 1) 8 := Or.inl ⟨1, by decide +kernel, by decide, rfl⟩
theorem dX4_findingAt_8 : D0 mX4_findingAt 8 (.ireturn) 1 9 := ⟨by decide +kernel, rfl⟩
theorem dX4_findingAt_9 : DLa mX4_findingAt 9 0 10 := Or.inl ⟨0, by decide +kernel, rfl, rfl⟩
theorem dX4_findingAt_10 : D0 mX4_findingAt 10 (.getfield 15) 3 13 := ⟨by decide +kernel, rfl⟩
theorem dX4_findingAt_13 : DLi mX4_findingAt 13 1 14 := Or.inl ⟨1, by decide +kernel, rfl, rfl⟩
theorem dX4_findingAt_14 : DCeq mX4_findingAt 14 19 17 := ⟨5, by decide +kernel, by decide, rfl⟩
theorem dX4_findingAt_17 : DKi mX4_findingAt 17 (nI 3) 18 := Or.inl ⟨3, by decide +kernel, by decide, rfl⟩
theorem dX4_findingAt_18 : D0 mX4_findingAt 18 (.ireturn) 1 19 := ⟨by decide +kernel, rfl⟩
theorem dX4_findingAt_19 : DLi mX4_findingAt 19 2 20 := Or.inl ⟨2, by decide +kernel, rfl, rfl⟩
theorem dX4_findingAt_20 : DFlt mX4_findingAt 20 35 23 := ⟨15, by decide +kernel, by decide, rfl⟩
theorem dX4_findingAt_23 : DLi mX4_findingAt 23 2 24 := Or.inl ⟨2, by decide +kernel, rfl, rfl⟩
theorem dX4_findingAt_24 : DLa mX4_findingAt 24 0 25 := Or.inl ⟨0, by decide +kernel, rfl, rfl⟩
theorem dX4_findingAt_25 : D0 mX4_findingAt 25 (.getfield 19) 3 28 := ⟨by decide +kernel, rfl⟩
theorem dX4_findingAt_28 : DCge mX4_findingAt 28 35 31 := ⟨7, by decide +kernel, by decide, rfl⟩
theorem dX4_findingAt_31 : DKi mX4_findingAt 31 (nI 0) 32 := Or.inl ⟨0, by decide +kernel, by decide, rfl⟩
theorem dX4_findingAt_32 : DG mX4_findingAt 32 36 := ⟨4, by decide +kernel, by decide⟩
theorem dX4_findingAt_35 : DKi mX4_findingAt 35 (nI 2) 36 := Or.inl ⟨2, by decide +kernel, by decide, rfl⟩
theorem dX4_findingAt_36 : D0 mX4_findingAt 36 (.ireturn) 1 37 := ⟨by decide +kernel, rfl⟩
theorem dX4_keep_0 : DLa mX4_keep 0 0 1 := Or.inl ⟨0, by decide +kernel, rfl, rfl⟩
theorem dX4_keep_1 : D0 mX4_keep 1 (.getfield 15) 3 4 := ⟨by decide +kernel, rfl⟩
theorem dX4_keep_4 : DFne mX4_keep 4 18 7 := ⟨14, by decide +kernel, by decide, rfl⟩
theorem dX4_keep_7 : DLa mX4_keep 7 0 8 := Or.inl ⟨0, by decide +kernel, rfl, rfl⟩
theorem dX4_keep_8 : D0 mX4_keep 8 (.getfield 22) 3 11 := ⟨by decide +kernel, rfl⟩
theorem dX4_keep_11 : DLi mX4_keep 11 1 12 := Or.inl ⟨1, by decide +kernel, rfl, rfl⟩
theorem dX4_keep_12 : DLi mX4_keep 12 2 13 := Or.inl ⟨2, by decide +kernel, rfl, rfl⟩
theorem dX4_keep_13 : D0 mX4_keep 13 (.i2b) 1 14 := ⟨by decide +kernel, rfl⟩
theorem dX4_keep_14 : D0 mX4_keep 14 (.iastore) 1 15 := ⟨by decide +kernel, rfl⟩
theorem dX4_keep_15 : DG mX4_keep 15 44 := ⟨29, by decide +kernel, by decide⟩
theorem dX4_keep_18 : DLa mX4_keep 18 0 19 := Or.inl ⟨0, by decide +kernel, rfl, rfl⟩
theorem dX4_keep_19 : D0 mX4_keep 19 (.getfield 15) 3 22 := ⟨by decide +kernel, rfl⟩
theorem dX4_keep_22 : DKi mX4_keep 22 (nI 1) 23 := Or.inl ⟨1, by decide +kernel, by decide, rfl⟩
theorem dX4_keep_23 : DCne mX4_keep 23 37 26 := ⟨14, by decide +kernel, by decide, rfl⟩
theorem dX4_keep_26 : DLa mX4_keep 26 0 27 := Or.inl ⟨0, by decide +kernel, rfl, rfl⟩
theorem dX4_keep_27 : D0 mX4_keep 27 (.getfield 22) 3 30 := ⟨by decide +kernel, rfl⟩
theorem dX4_keep_30 : DLi mX4_keep 30 1 31 := Or.inl ⟨1, by decide +kernel, rfl, rfl⟩
theorem dX4_keep_31 : DLi mX4_keep 31 2 32 := Or.inl ⟨2, by decide +kernel, rfl, rfl⟩
theorem dX4_keep_32 : D0 mX4_keep 32 (.i2s) 1 33 := ⟨by decide +kernel, rfl⟩
theorem dX4_keep_33 : D0 mX4_keep 33 (.iastore) 1 34 := ⟨by decide +kernel, rfl⟩
theorem dX4_keep_34 : DG mX4_keep 34 44 := ⟨10, by decide +kernel, by decide⟩
theorem dX4_keep_37 : DLa mX4_keep 37 0 38 := Or.inl ⟨0, by decide +kernel, rfl, rfl⟩
theorem dX4_keep_38 : D0 mX4_keep 38 (.getfield 22) 3 41 := ⟨by decide +kernel, rfl⟩
theorem dX4_keep_41 : DLi mX4_keep 41 1 42 := Or.inl ⟨1, by decide +kernel, rfl, rfl⟩
theorem dX4_keep_42 : DLi mX4_keep 42 2 43 := Or.inl ⟨2, by decide +kernel, rfl, rfl⟩
theorem dX4_keep_43 : D0 mX4_keep 43 (.iastore) 1 44 := ⟨by decide +kernel, rfl⟩
theorem dX4_keep_44 : D0 mX4_keep 44 (.return_) 1 45 := ⟨by decide +kernel, rfl⟩
theorem dX4_has_0 : DLi mX4_has 0 1 1 := Or.inl ⟨1, by decide +kernel, rfl, rfl⟩
theorem dX4_has_1 : DFlt mX4_has 1 30 4 := ⟨29, by decide +kernel, by decide, rfl⟩
theorem dX4_has_4 : DLi mX4_has 4 2 5 := Or.inl ⟨2, by decide +kernel, rfl, rfl⟩
theorem dX4_has_5 : DFlt mX4_has 5 30 8 := ⟨25, by decide +kernel, by decide, rfl⟩
theorem dX4_has_8 : DLi mX4_has 8 2 9 := Or.inl ⟨2, by decide +kernel, rfl, rfl⟩
theorem dX4_has_9 : DLa mX4_has 9 0 10 := Or.inl ⟨0, by decide +kernel, rfl, rfl⟩
theorem dX4_has_10 : D0 mX4_has 10 (.getfield 19) 3 13 := ⟨by decide +kernel, rfl⟩
theorem dX4_has_13 : DCgt mX4_has 13 30 16 := ⟨17, by decide +kernel, by decide, rfl⟩
theorem dX4_has_16 : DLi mX4_has 16 1 17 := Or.inl ⟨1, by decide +kernel, rfl, rfl⟩
theorem dX4_has_17 : DLa mX4_has 17 0 18 := Or.inl ⟨0, by decide +kernel, rfl, rfl⟩
theorem dX4_has_18 : D0 mX4_has 18 (.getfield 19) 3 21 := ⟨by decide +kernel, rfl⟩
theorem dX4_has_21 : DLi mX4_has 21 2 22 := Or.inl ⟨2, by decide +kernel, rfl, rfl⟩
theorem dX4_has_22 : D0 mX4_has 22 (.isub) 1 23 := ⟨by decide +kernel, rfl⟩
theorem dX4_has_23 : DCgt mX4_has 23 30 26 := ⟨7, by decide +kernel, by decide, rfl⟩
theorem dX4_has_26 : DKi mX4_has 26 (nI 1) 27 := Or.inl ⟨1, by decide +kernel, by decide, rfl⟩
theorem dX4_has_27 : DG mX4_has 27 31 := ⟨4, by decide +kernel, by decide⟩
theorem dX4_has_30 : DKi mX4_has 30 (nI 0) 31 := Or.inl ⟨0, by decide +kernel, by decide, rfl⟩
theorem dX4_has_31 : D0 mX4_has 31 (.ireturn) 1 32 := ⟨by decide +kernel, rfl⟩
theorem dX5_changeWish_0 : DLi mX5_changeWish 0 1 1 := Or.inl ⟨1, by decide +kernel, rfl, rfl⟩
theorem dX5_changeWish_1 : DKi mX5_changeWish 1 (nI 5) 2 := Or.inl ⟨5, by decide +kernel, by decide, rfl⟩
theorem dX5_changeWish_2 : D0 mX5_changeWish 2 (.imul) 1 3 := ⟨by decide +kernel, rfl⟩
theorem dX5_changeWish_3 : DLi mX5_changeWish 3 2 4 := Or.inl ⟨2, by decide +kernel, rfl, rfl⟩
theorem dX5_changeWish_4 : D0 mX5_changeWish 4 (.iadd) 1 5 := ⟨by decide +kernel, rfl⟩
theorem dX5_changeWish_5 : DSi mX5_changeWish 5 4 7 := ⟨by decide, Or.inr ⟨by decide +kernel, rfl⟩⟩
theorem dX5_changeWish_7 : DLa mX5_changeWish 7 0 8 := Or.inl ⟨0, by decide +kernel, rfl, rfl⟩
theorem dX5_changeWish_8 : D0 mX5_changeWish 8 (.getfield 15) 3 11 := ⟨by decide +kernel, rfl⟩
theorem dX5_changeWish_11 : DLi mX5_changeWish 11 4 13 := Or.inr ⟨by decide +kernel, rfl⟩
theorem dX5_changeWish_13 : D0 mX5_changeWish 13 (.iaload) 1 14 := ⟨by decide +kernel, rfl⟩
theorem dX5_changeWish_14 : DSi mX5_changeWish 14 5 16 := ⟨by decide, Or.inr ⟨by decide +kernel, rfl⟩⟩
theorem dX5_changeWish_16 : DLa mX5_changeWish 16 0 17 := Or.inl ⟨0, by decide +kernel, rfl, rfl⟩
theorem dX5_changeWish_17 : D0 mX5_changeWish 17 (.getfield 15) 3 20 := ⟨by decide +kernel, rfl⟩
theorem dX5_changeWish_20 : DLi mX5_changeWish 20 4 22 := Or.inr ⟨by decide +kernel, rfl⟩
theorem dX5_changeWish_22 : DLi mX5_changeWish 22 3 23 := Or.inl ⟨3, by decide +kernel, rfl, rfl⟩
theorem dX5_changeWish_23 : D0 mX5_changeWish 23 (.iastore) 1 24 := ⟨by decide +kernel, rfl⟩
theorem dX5_changeWish_24 : DLi mX5_changeWish 24 5 26 := Or.inr ⟨by decide +kernel, rfl⟩
theorem dX5_changeWish_26 : D0 mX5_changeWish 26 (.ireturn) 1 27 := ⟨by decide +kernel, rfl⟩
theorem dX5_inOwnRow_0 : DKi mX5_inOwnRow 0 (nI 0) 1 := Or.inl ⟨0, by decide +kernel, by decide, rfl⟩
theorem dX5_inOwnRow_1 : DSi mX5_inOwnRow 1 1 2 := ⟨by decide, Or.inl ⟨1, by decide +kernel, rfl, rfl⟩⟩
theorem dX5_inOwnRow_2 : DKi mX5_inOwnRow 2 (nI 0) 3 := Or.inl ⟨0, by decide +kernel, by decide, rfl⟩
theorem dX5_inOwnRow_3 : DSi mX5_inOwnRow 3 2 4 := ⟨by decide, Or.inl ⟨2, by decide +kernel, rfl, rfl⟩⟩
theorem dX5_inOwnRow_4 : DLi mX5_inOwnRow 4 2 5 := Or.inl ⟨2, by decide +kernel, rfl, rfl⟩
theorem dX5_inOwnRow_5 : DKi mX5_inOwnRow 5 (nI 8) 7 := Or.inr (Or.inl ⟨8, by decide +kernel, by decide, rfl⟩)
theorem dX5_inOwnRow_7 : DCge mX5_inOwnRow 7 29 10 := ⟨22, by decide +kernel, by decide, rfl⟩
theorem dX5_inOwnRow_10 : DLa mX5_inOwnRow 10 0 11 := Or.inl ⟨0, by decide +kernel, rfl, rfl⟩
theorem dX5_inOwnRow_11 : D0 mX5_inOwnRow 11 (.getfield 9) 3 14 := ⟨by decide +kernel, rfl⟩
theorem dX5_inOwnRow_14 : DLi mX5_inOwnRow 14 2 15 := Or.inl ⟨2, by decide +kernel, rfl, rfl⟩
theorem dX5_inOwnRow_15 : D0 mX5_inOwnRow 15 (.iaload) 1 16 := ⟨by decide +kernel, rfl⟩
theorem dX5_inOwnRow_16 : DLi mX5_inOwnRow 16 2 17 := Or.inl ⟨2, by decide +kernel, rfl, rfl⟩
theorem dX5_inOwnRow_17 : DCne mX5_inOwnRow 17 23 20 := ⟨6, by decide +kernel, by decide, rfl⟩
theorem dX5_inOwnRow_20 : DIn mX5_inOwnRow 20 1 (nI 1) 23 := ⟨by decide, 1, by decide +kernel, by decide, rfl⟩
theorem dX5_inOwnRow_23 : DIn mX5_inOwnRow 23 2 (nI 1) 26 := ⟨by decide, 1, by decide +kernel, by decide, rfl⟩
theorem dX5_inOwnRow_26 : DG mX5_inOwnRow 26 4 := ⟨(-22), by decide +kernel, by decide⟩
theorem dX5_inOwnRow_29 : DLi mX5_inOwnRow 29 1 30 := Or.inl ⟨1, by decide +kernel, rfl, rfl⟩
theorem dX5_inOwnRow_30 : D0 mX5_inOwnRow 30 (.ireturn) 1 31 := ⟨by decide +kernel, rfl⟩
theorem dX5_joyIn_0 : DKi mX5_joyIn 0 (nI 0) 1 := Or.inl ⟨0, by decide +kernel, by decide, rfl⟩
theorem dX5_joyIn_1 : DSi mX5_joyIn 1 5 3 := ⟨by decide, Or.inr ⟨by decide +kernel, rfl⟩⟩
theorem dX5_joyIn_3 : DKi mX5_joyIn 3 (nI 0) 4 := Or.inl ⟨0, by decide +kernel, by decide, rfl⟩
theorem dX5_joyIn_4 : DSi mX5_joyIn 4 6 6 := ⟨by decide, Or.inr ⟨by decide +kernel, rfl⟩⟩
theorem dX5_joyIn_6 : DLi mX5_joyIn 6 6 8 := Or.inr ⟨by decide +kernel, rfl⟩
theorem dX5_joyIn_8 : DKi mX5_joyIn 8 (nI 8) 10 := Or.inr (Or.inl ⟨8, by decide +kernel, by decide, rfl⟩)
theorem dX5_joyIn_10 : DCge mX5_joyIn 10 55 13 := ⟨45, by decide +kernel, by decide, rfl⟩
theorem dX5_joyIn_13 : DLa mX5_joyIn 13 3 14 := Or.inl ⟨3, by decide +kernel, rfl, rfl⟩
theorem dX5_joyIn_14 : D0 mX5_joyIn 14 (.getfield 27) 3 17 := ⟨by decide +kernel, rfl⟩
theorem dX5_joyIn_17 : DLi mX5_joyIn 17 2 18 := Or.inl ⟨2, by decide +kernel, rfl, rfl⟩
theorem dX5_joyIn_18 : DLi mX5_joyIn 18 6 20 := Or.inr ⟨by decide +kernel, rfl⟩
theorem dX5_joyIn_20 : D0 mX5_joyIn 20 (.iadd) 1 21 := ⟨by decide +kernel, rfl⟩
theorem dX5_joyIn_21 : DKi mX5_joyIn 21 (nI 7) 23 := Or.inr (Or.inl ⟨7, by decide +kernel, by decide, rfl⟩)
theorem dX5_joyIn_23 : D0 mX5_joyIn 23 (.iand) 1 24 := ⟨by decide +kernel, rfl⟩
theorem dX5_joyIn_24 : D0 mX5_joyIn 24 (.iaload) 1 25 := ⟨by decide +kernel, rfl⟩
theorem dX5_joyIn_25 : DSi mX5_joyIn 25 7 27 := ⟨by decide, Or.inr ⟨by decide +kernel, rfl⟩⟩
theorem dX5_joyIn_27 : DLi mX5_joyIn 27 5 29 := Or.inr ⟨by decide +kernel, rfl⟩
theorem dX5_joyIn_29 : DLa mX5_joyIn 29 4 31 := Or.inr ⟨by decide +kernel, rfl⟩
theorem dX5_joyIn_31 : DLi mX5_joyIn 31 6 33 := Or.inr ⟨by decide +kernel, rfl⟩
theorem dX5_joyIn_33 : D0 mX5_joyIn 33 (.iaload) 1 34 := ⟨by decide +kernel, rfl⟩
theorem dX5_joyIn_34 : DLa mX5_joyIn 34 0 35 := Or.inl ⟨0, by decide +kernel, rfl, rfl⟩
theorem dX5_joyIn_35 : D0 mX5_joyIn 35 (.getfield 15) 3 38 := ⟨by decide +kernel, rfl⟩
theorem dX5_joyIn_38 : DLi mX5_joyIn 38 1 39 := Or.inl ⟨1, by decide +kernel, rfl, rfl⟩
theorem dX5_joyIn_39 : DKi mX5_joyIn 39 (nI 5) 40 := Or.inl ⟨5, by decide +kernel, by decide, rfl⟩
theorem dX5_joyIn_40 : D0 mX5_joyIn 40 (.imul) 1 41 := ⟨by decide +kernel, rfl⟩
theorem dX5_joyIn_41 : DLi mX5_joyIn 41 7 43 := Or.inr ⟨by decide +kernel, rfl⟩
theorem dX5_joyIn_43 : D0 mX5_joyIn 43 (.iadd) 1 44 := ⟨by decide +kernel, rfl⟩
theorem dX5_joyIn_44 : D0 mX5_joyIn 44 (.iaload) 1 45 := ⟨by decide +kernel, rfl⟩
theorem dX5_joyIn_45 : D0 mX5_joyIn 45 (.imul) 1 46 := ⟨by decide +kernel, rfl⟩
theorem dX5_joyIn_46 : D0 mX5_joyIn 46 (.iadd) 1 47 := ⟨by decide +kernel, rfl⟩
theorem dX5_joyIn_47 : DSi mX5_joyIn 47 5 49 := ⟨by decide, Or.inr ⟨by decide +kernel, rfl⟩⟩
theorem dX5_joyIn_49 : DIn mX5_joyIn 49 6 (nI 1) 52 := ⟨by decide, 1, by decide +kernel, by decide, rfl⟩
theorem dX5_joyIn_52 : DG mX5_joyIn 52 6 := ⟨(-46), by decide +kernel, by decide⟩
theorem dX5_joyIn_55 : DLi mX5_joyIn 55 5 57 := Or.inr ⟨by decide +kernel, rfl⟩
theorem dX5_joyIn_57 : D0 mX5_joyIn 57 (.ireturn) 1 58 := ⟨by decide +kernel, rfl⟩
theorem dX5_reckonJoys_0 : DKi mX5_reckonJoys 0 (nI 0) 1 := Or.inl ⟨0, by decide +kernel, by decide, rfl⟩
theorem dX5_reckonJoys_1 : DSi mX5_reckonJoys 1 3 2 := ⟨by decide, Or.inl ⟨3, by decide +kernel, rfl, rfl⟩⟩
theorem dX5_reckonJoys_2 : DLi mX5_reckonJoys 2 3 3 := Or.inl ⟨3, by decide +kernel, rfl, rfl⟩
theorem dX5_reckonJoys_3 : DKi mX5_reckonJoys 3 (nI 8) 5 := Or.inr (Or.inl ⟨8, by decide +kernel, by decide, rfl⟩)
theorem dX5_reckonJoys_5 : DCge mX5_reckonJoys 5 51 8 := ⟨46, by decide +kernel, by decide, rfl⟩
theorem dX5_reckonJoys_8 : DKi mX5_reckonJoys 8 (nI 0) 9 := Or.inl ⟨0, by decide +kernel, by decide, rfl⟩
theorem dX5_reckonJoys_9 : DSi mX5_reckonJoys 9 4 11 := ⟨by decide, Or.inr ⟨by decide +kernel, rfl⟩⟩
theorem dX5_reckonJoys_11 : DLi mX5_reckonJoys 11 4 13 := Or.inr ⟨by decide +kernel, rfl⟩
theorem dX5_reckonJoys_13 : DKi mX5_reckonJoys 13 (nI 8) 15 := Or.inr (Or.inl ⟨8, by decide +kernel, by decide, rfl⟩)
theorem dX5_reckonJoys_15 : DCge mX5_reckonJoys 15 45 18 := ⟨30, by decide +kernel, by decide, rfl⟩
theorem dX5_reckonJoys_18 : DLa mX5_reckonJoys 18 0 19 := Or.inl ⟨0, by decide +kernel, rfl, rfl⟩
theorem dX5_reckonJoys_19 : D0 mX5_reckonJoys 19 (.getfield 18) 3 22 := ⟨by decide +kernel, rfl⟩
theorem dX5_reckonJoys_22 : DLi mX5_reckonJoys 22 3 23 := Or.inl ⟨3, by decide +kernel, rfl, rfl⟩
theorem dX5_reckonJoys_23 : DKi mX5_reckonJoys 23 (nI 8) 25 := Or.inr (Or.inl ⟨8, by decide +kernel, by decide, rfl⟩)
theorem dX5_reckonJoys_25 : D0 mX5_reckonJoys 25 (.imul) 1 26 := ⟨by decide +kernel, rfl⟩
theorem dX5_reckonJoys_26 : DLi mX5_reckonJoys 26 4 28 := Or.inr ⟨by decide +kernel, rfl⟩
theorem dX5_reckonJoys_28 : D0 mX5_reckonJoys 28 (.iadd) 1 29 := ⟨by decide +kernel, rfl⟩
theorem dX5_reckonJoys_29 : DLa mX5_reckonJoys 29 0 30 := Or.inl ⟨0, by decide +kernel, rfl, rfl⟩
theorem dX5_reckonJoys_30 : DLi mX5_reckonJoys 30 3 31 := Or.inl ⟨3, by decide +kernel, rfl, rfl⟩
theorem dX5_reckonJoys_31 : DLi mX5_reckonJoys 31 4 33 := Or.inr ⟨by decide +kernel, rfl⟩
theorem dX5_reckonJoys_33 : DLa mX5_reckonJoys 33 1 34 := Or.inl ⟨1, by decide +kernel, rfl, rfl⟩
theorem dX5_reckonJoys_34 : DLa mX5_reckonJoys 34 2 35 := Or.inl ⟨2, by decide +kernel, rfl, rfl⟩
theorem dX5_reckonJoys_35 : D0 mX5_reckonJoys 35 (.invokevirtual 32) 3 38 := ⟨by decide +kernel, rfl⟩
theorem dX5_reckonJoys_38 : D0 mX5_reckonJoys 38 (.iastore) 1 39 := ⟨by decide +kernel, rfl⟩
theorem dX5_reckonJoys_39 : DIn mX5_reckonJoys 39 4 (nI 1) 42 := ⟨by decide, 1, by decide +kernel, by decide, rfl⟩
theorem dX5_reckonJoys_42 : DG mX5_reckonJoys 42 11 := ⟨(-31), by decide +kernel, by decide⟩
theorem dX5_reckonJoys_45 : DIn mX5_reckonJoys 45 3 (nI 1) 48 := ⟨by decide, 1, by decide +kernel, by decide, rfl⟩
theorem dX5_reckonJoys_48 : DG mX5_reckonJoys 48 2 := ⟨(-46), by decide +kernel, by decide⟩
theorem dX5_reckonJoys_51 : D0 mX5_reckonJoys 51 (.return_) 1 52 := ⟨by decide +kernel, rfl⟩
theorem dX5_changeUntilNobodyWould_0 : DKi mX5_changeUntilNobodyWould 0 (nI 0) 1 := Or.inl ⟨0, by decide +kernel, by decide, rfl⟩
theorem dX5_changeUntilNobodyWould_1 : DSi mX5_changeUntilNobodyWould 1 1 2 := ⟨by decide, Or.inl ⟨1, by decide +kernel, rfl, rfl⟩⟩
theorem dX5_changeUntilNobodyWould_2 : DLi mX5_changeUntilNobodyWould 2 1 3 := Or.inl ⟨1, by decide +kernel, rfl, rfl⟩
theorem dX5_changeUntilNobodyWould_3 : DKi mX5_changeUntilNobodyWould 3 (nI 7200) 6 := Or.inr (Or.inr (Or.inl ⟨7200, by decide +kernel, by decide, rfl⟩))
theorem dX5_changeUntilNobodyWould_6 : DCge mX5_changeUntilNobodyWould 6 22 9 := ⟨16, by decide +kernel, by decide, rfl⟩
theorem dX5_changeUntilNobodyWould_9 : DLa mX5_changeUntilNobodyWould 9 0 10 := Or.inl ⟨0, by decide +kernel, rfl, rfl⟩
theorem dX5_changeUntilNobodyWould_10 : D0 mX5_changeUntilNobodyWould 10 (.invokevirtual 36) 3 13 := ⟨by decide +kernel, rfl⟩
theorem dX5_changeUntilNobodyWould_13 : DFeq mX5_changeUntilNobodyWould 13 22 16 := ⟨9, by decide +kernel, by decide, rfl⟩
theorem dX5_changeUntilNobodyWould_16 : DIn mX5_changeUntilNobodyWould 16 1 (nI 1) 19 := ⟨by decide, 1, by decide +kernel, by decide, rfl⟩
theorem dX5_changeUntilNobodyWould_19 : DG mX5_changeUntilNobodyWould 19 2 := ⟨(-17), by decide +kernel, by decide⟩
theorem dX5_changeUntilNobodyWould_22 : DLi mX5_changeUntilNobodyWould 22 1 23 := Or.inl ⟨1, by decide +kernel, rfl, rfl⟩
theorem dX5_changeUntilNobodyWould_23 : D0 mX5_changeUntilNobodyWould 23 (.ireturn) 1 24 := ⟨by decide +kernel, rfl⟩
theorem dX5_changeFirstPair_0 : DKi mX5_changeFirstPair 0 (nI 0) 1 := Or.inl ⟨0, by decide +kernel, by decide, rfl⟩
theorem dX5_changeFirstPair_1 : DSi mX5_changeFirstPair 1 1 2 := ⟨by decide, Or.inl ⟨1, by decide +kernel, rfl, rfl⟩⟩
theorem dX5_changeFirstPair_2 : DLi mX5_changeFirstPair 2 1 3 := Or.inl ⟨1, by decide +kernel, rfl, rfl⟩
theorem dX5_changeFirstPair_3 : DKi mX5_changeFirstPair 3 (nI 8) 5 := Or.inr (Or.inl ⟨8, by decide +kernel, by decide, rfl⟩)
theorem dX5_changeFirstPair_5 : DCge mX5_changeFirstPair 5 67 8 := ⟨62, by decide +kernel, by decide, rfl⟩
theorem dX5_changeFirstPair_8 : DLi mX5_changeFirstPair 8 1 9 := Or.inl ⟨1, by decide +kernel, rfl, rfl⟩
theorem dX5_changeFirstPair_9 : DKi mX5_changeFirstPair 9 (nI 1) 10 := Or.inl ⟨1, by decide +kernel, by decide, rfl⟩
theorem dX5_changeFirstPair_10 : D0 mX5_changeFirstPair 10 (.iadd) 1 11 := ⟨by decide +kernel, rfl⟩
theorem dX5_changeFirstPair_11 : DSi mX5_changeFirstPair 11 2 12 := ⟨by decide, Or.inl ⟨2, by decide +kernel, rfl, rfl⟩⟩
theorem dX5_changeFirstPair_12 : DLi mX5_changeFirstPair 12 2 13 := Or.inl ⟨2, by decide +kernel, rfl, rfl⟩
theorem dX5_changeFirstPair_13 : DKi mX5_changeFirstPair 13 (nI 8) 15 := Or.inr (Or.inl ⟨8, by decide +kernel, by decide, rfl⟩)
theorem dX5_changeFirstPair_15 : DCge mX5_changeFirstPair 15 61 18 := ⟨46, by decide +kernel, by decide, rfl⟩
theorem dX5_changeFirstPair_18 : DLa mX5_changeFirstPair 18 0 19 := Or.inl ⟨0, by decide +kernel, rfl, rfl⟩
theorem dX5_changeFirstPair_19 : DLi mX5_changeFirstPair 19 1 20 := Or.inl ⟨1, by decide +kernel, rfl, rfl⟩
theorem dX5_changeFirstPair_20 : DLi mX5_changeFirstPair 20 2 21 := Or.inl ⟨2, by decide +kernel, rfl, rfl⟩
theorem dX5_changeFirstPair_21 : D0 mX5_changeFirstPair 21 (.invokevirtual 40) 3 24 := ⟨by decide +kernel, rfl⟩
theorem dX5_changeFirstPair_24 : DFeq mX5_changeFirstPair 24 55 27 := ⟨31, by decide +kernel, by decide, rfl⟩
theorem dX5_changeFirstPair_27 : DLa mX5_changeFirstPair 27 0 28 := Or.inl ⟨0, by decide +kernel, rfl, rfl⟩
theorem dX5_changeFirstPair_28 : D0 mX5_changeFirstPair 28 (.getfield 9) 3 31 := ⟨by decide +kernel, rfl⟩
theorem dX5_changeFirstPair_31 : DLi mX5_changeFirstPair 31 1 32 := Or.inl ⟨1, by decide +kernel, rfl, rfl⟩
theorem dX5_changeFirstPair_32 : D0 mX5_changeFirstPair 32 (.iaload) 1 33 := ⟨by decide +kernel, rfl⟩
theorem dX5_changeFirstPair_33 : DSi mX5_changeFirstPair 33 3 34 := ⟨by decide, Or.inl ⟨3, by decide +kernel, rfl, rfl⟩⟩
theorem dX5_changeFirstPair_34 : DLa mX5_changeFirstPair 34 0 35 := Or.inl ⟨0, by decide +kernel, rfl, rfl⟩
theorem dX5_changeFirstPair_35 : D0 mX5_changeFirstPair 35 (.getfield 9) 3 38 := ⟨by decide +kernel, rfl⟩
theorem dX5_changeFirstPair_38 : DLi mX5_changeFirstPair 38 1 39 := Or.inl ⟨1, by decide +kernel, rfl, rfl⟩
theorem dX5_changeFirstPair_39 : DLa mX5_changeFirstPair 39 0 40 := Or.inl ⟨0, by decide +kernel, rfl, rfl⟩
theorem dX5_changeFirstPair_40 : D0 mX5_changeFirstPair 40 (.getfield 9) 3 43 := ⟨by decide +kernel, rfl⟩
theorem dX5_changeFirstPair_43 : DLi mX5_changeFirstPair 43 2 44 := Or.inl ⟨2, by decide +kernel, rfl, rfl⟩
theorem dX5_changeFirstPair_44 : D0 mX5_changeFirstPair 44 (.iaload) 1 45 := ⟨by decide +kernel, rfl⟩
theorem dX5_changeFirstPair_45 : D0 mX5_changeFirstPair 45 (.iastore) 1 46 := ⟨by decide +kernel, rfl⟩
theorem dX5_changeFirstPair_46 : DLa mX5_changeFirstPair 46 0 47 := Or.inl ⟨0, by decide +kernel, rfl, rfl⟩
theorem dX5_changeFirstPair_47 : D0 mX5_changeFirstPair 47 (.getfield 9) 3 50 := ⟨by decide +kernel, rfl⟩
theorem dX5_changeFirstPair_50 : DLi mX5_changeFirstPair 50 2 51 := Or.inl ⟨2, by decide +kernel, rfl, rfl⟩
theorem dX5_changeFirstPair_51 : DLi mX5_changeFirstPair 51 3 52 := Or.inl ⟨3, by decide +kernel, rfl, rfl⟩
theorem dX5_changeFirstPair_52 : D0 mX5_changeFirstPair 52 (.iastore) 1 53 := ⟨by decide +kernel, rfl⟩
theorem dX5_changeFirstPair_53 : DKi mX5_changeFirstPair 53 (nI 1) 54 := Or.inl ⟨1, by decide +kernel, by decide, rfl⟩
theorem dX5_changeFirstPair_54 : D0 mX5_changeFirstPair 54 (.ireturn) 1 55 := ⟨by decide +kernel, rfl⟩
theorem dX5_changeFirstPair_55 : DIn mX5_changeFirstPair 55 2 (nI 1) 58 := ⟨by decide, 1, by decide +kernel, by decide, rfl⟩
theorem dX5_changeFirstPair_58 : DG mX5_changeFirstPair 58 12 := ⟨(-46), by decide +kernel, by decide⟩
theorem dX5_changeFirstPair_61 : DIn mX5_changeFirstPair 61 1 (nI 1) 64 := ⟨by decide, 1, by decide +kernel, by decide, rfl⟩
theorem dX5_changeFirstPair_64 : DG mX5_changeFirstPair 64 2 := ⟨(-62), by decide +kernel, by decide⟩
theorem dX5_changeFirstPair_67 : DKi mX5_changeFirstPair 67 (nI 0) 68 := Or.inl ⟨0, by decide +kernel, by decide, rfl⟩
theorem dX5_changeFirstPair_68 : D0 mX5_changeFirstPair 68 (.ireturn) 1 69 := ⟨by decide +kernel, rfl⟩
theorem dX5_wouldChange_0 : DLa mX5_wouldChange 0 0 1 := Or.inl ⟨0, by decide +kernel, rfl, rfl⟩
theorem dX5_wouldChange_1 : D0 mX5_wouldChange 1 (.getfield 18) 3 4 := ⟨by decide +kernel, rfl⟩
theorem dX5_wouldChange_4 : DLi mX5_wouldChange 4 1 5 := Or.inl ⟨1, by decide +kernel, rfl, rfl⟩
theorem dX5_wouldChange_5 : DKi mX5_wouldChange 5 (nI 8) 7 := Or.inr (Or.inl ⟨8, by decide +kernel, by decide, rfl⟩)
theorem dX5_wouldChange_7 : D0 mX5_wouldChange 7 (.imul) 1 8 := ⟨by decide +kernel, rfl⟩
theorem dX5_wouldChange_8 : DLa mX5_wouldChange 8 0 9 := Or.inl ⟨0, by decide +kernel, rfl, rfl⟩
theorem dX5_wouldChange_9 : D0 mX5_wouldChange 9 (.getfield 9) 3 12 := ⟨by decide +kernel, rfl⟩
theorem dX5_wouldChange_12 : DLi mX5_wouldChange 12 2 13 := Or.inl ⟨2, by decide +kernel, rfl, rfl⟩
theorem dX5_wouldChange_13 : D0 mX5_wouldChange 13 (.iaload) 1 14 := ⟨by decide +kernel, rfl⟩
theorem dX5_wouldChange_14 : D0 mX5_wouldChange 14 (.iadd) 1 15 := ⟨by decide +kernel, rfl⟩
theorem dX5_wouldChange_15 : D0 mX5_wouldChange 15 (.iaload) 1 16 := ⟨by decide +kernel, rfl⟩
theorem dX5_wouldChange_16 : DLa mX5_wouldChange 16 0 17 := Or.inl ⟨0, by decide +kernel, rfl, rfl⟩
theorem dX5_wouldChange_17 : D0 mX5_wouldChange 17 (.getfield 18) 3 20 := ⟨by decide +kernel, rfl⟩
theorem dX5_wouldChange_20 : DLi mX5_wouldChange 20 1 21 := Or.inl ⟨1, by decide +kernel, rfl, rfl⟩
theorem dX5_wouldChange_21 : DKi mX5_wouldChange 21 (nI 8) 23 := Or.inr (Or.inl ⟨8, by decide +kernel, by decide, rfl⟩)
theorem dX5_wouldChange_23 : D0 mX5_wouldChange 23 (.imul) 1 24 := ⟨by decide +kernel, rfl⟩
theorem dX5_wouldChange_24 : DLa mX5_wouldChange 24 0 25 := Or.inl ⟨0, by decide +kernel, rfl, rfl⟩
theorem dX5_wouldChange_25 : D0 mX5_wouldChange 25 (.getfield 9) 3 28 := ⟨by decide +kernel, rfl⟩
theorem dX5_wouldChange_28 : DLi mX5_wouldChange 28 1 29 := Or.inl ⟨1, by decide +kernel, rfl, rfl⟩
theorem dX5_wouldChange_29 : D0 mX5_wouldChange 29 (.iaload) 1 30 := ⟨by decide +kernel, rfl⟩
theorem dX5_wouldChange_30 : D0 mX5_wouldChange 30 (.iadd) 1 31 := ⟨by decide +kernel, rfl⟩
theorem dX5_wouldChange_31 : D0 mX5_wouldChange 31 (.iaload) 1 32 := ⟨by decide +kernel, rfl⟩
theorem dX5_wouldChange_32 : D0 mX5_wouldChange 32 (.isub) 1 33 := ⟨by decide +kernel, rfl⟩
theorem dX5_wouldChange_33 : DSi mX5_wouldChange 33 3 34 := ⟨by decide, Or.inl ⟨3, by decide +kernel, rfl, rfl⟩⟩
theorem dX5_wouldChange_34 : DLa mX5_wouldChange 34 0 35 := Or.inl ⟨0, by decide +kernel, rfl, rfl⟩
theorem dX5_wouldChange_35 : D0 mX5_wouldChange 35 (.getfield 18) 3 38 := ⟨by decide +kernel, rfl⟩
theorem dX5_wouldChange_38 : DLi mX5_wouldChange 38 2 39 := Or.inl ⟨2, by decide +kernel, rfl, rfl⟩
theorem dX5_wouldChange_39 : DKi mX5_wouldChange 39 (nI 8) 41 := Or.inr (Or.inl ⟨8, by decide +kernel, by decide, rfl⟩)
theorem dX5_wouldChange_41 : D0 mX5_wouldChange 41 (.imul) 1 42 := ⟨by decide +kernel, rfl⟩
theorem dX5_wouldChange_42 : DLa mX5_wouldChange 42 0 43 := Or.inl ⟨0, by decide +kernel, rfl, rfl⟩
theorem dX5_wouldChange_43 : D0 mX5_wouldChange 43 (.getfield 9) 3 46 := ⟨by decide +kernel, rfl⟩
theorem dX5_wouldChange_46 : DLi mX5_wouldChange 46 1 47 := Or.inl ⟨1, by decide +kernel, rfl, rfl⟩
theorem dX5_wouldChange_47 : D0 mX5_wouldChange 47 (.iaload) 1 48 := ⟨by decide +kernel, rfl⟩
theorem dX5_wouldChange_48 : D0 mX5_wouldChange 48 (.iadd) 1 49 := ⟨by decide +kernel, rfl⟩
theorem dX5_wouldChange_49 : D0 mX5_wouldChange 49 (.iaload) 1 50 := ⟨by decide +kernel, rfl⟩
theorem dX5_wouldChange_50 : DLa mX5_wouldChange 50 0 51 := Or.inl ⟨0, by decide +kernel, rfl, rfl⟩
theorem dX5_wouldChange_51 : D0 mX5_wouldChange 51 (.getfield 18) 3 54 := ⟨by decide +kernel, rfl⟩
theorem dX5_wouldChange_54 : DLi mX5_wouldChange 54 2 55 := Or.inl ⟨2, by decide +kernel, rfl, rfl⟩
theorem dX5_wouldChange_55 : DKi mX5_wouldChange 55 (nI 8) 57 := Or.inr (Or.inl ⟨8, by decide +kernel, by decide, rfl⟩)
theorem dX5_wouldChange_57 : D0 mX5_wouldChange 57 (.imul) 1 58 := ⟨by decide +kernel, rfl⟩
theorem dX5_wouldChange_58 : DLa mX5_wouldChange 58 0 59 := Or.inl ⟨0, by decide +kernel, rfl, rfl⟩
theorem dX5_wouldChange_59 : D0 mX5_wouldChange 59 (.getfield 9) 3 62 := ⟨by decide +kernel, rfl⟩
theorem dX5_wouldChange_62 : DLi mX5_wouldChange 62 2 63 := Or.inl ⟨2, by decide +kernel, rfl, rfl⟩
theorem dX5_wouldChange_63 : D0 mX5_wouldChange 63 (.iaload) 1 64 := ⟨by decide +kernel, rfl⟩
theorem dX5_wouldChange_64 : D0 mX5_wouldChange 64 (.iadd) 1 65 := ⟨by decide +kernel, rfl⟩
theorem dX5_wouldChange_65 : D0 mX5_wouldChange 65 (.iaload) 1 66 := ⟨by decide +kernel, rfl⟩
theorem dX5_wouldChange_66 : D0 mX5_wouldChange 66 (.isub) 1 67 := ⟨by decide +kernel, rfl⟩
theorem dX5_wouldChange_67 : DSi mX5_wouldChange 67 4 69 := ⟨by decide, Or.inr ⟨by decide +kernel, rfl⟩⟩
theorem dX5_wouldChange_69 : DLi mX5_wouldChange 69 3 70 := Or.inl ⟨3, by decide +kernel, rfl, rfl⟩
theorem dX5_wouldChange_70 : DFlt mX5_wouldChange 70 89 73 := ⟨19, by decide +kernel, by decide, rfl⟩
theorem dX5_wouldChange_73 : DLi mX5_wouldChange 73 4 75 := Or.inr ⟨by decide +kernel, rfl⟩
theorem dX5_wouldChange_75 : DFlt mX5_wouldChange 75 89 78 := ⟨14, by decide +kernel, by decide, rfl⟩
theorem dX5_wouldChange_78 : DLi mX5_wouldChange 78 3 79 := Or.inl ⟨3, by decide +kernel, rfl, rfl⟩
theorem dX5_wouldChange_79 : DLi mX5_wouldChange 79 4 81 := Or.inr ⟨by decide +kernel, rfl⟩
theorem dX5_wouldChange_81 : D0 mX5_wouldChange 81 (.iadd) 1 82 := ⟨by decide +kernel, rfl⟩
theorem dX5_wouldChange_82 : DFle mX5_wouldChange 82 89 85 := ⟨7, by decide +kernel, by decide, rfl⟩
theorem dX5_wouldChange_85 : DKi mX5_wouldChange 85 (nI 1) 86 := Or.inl ⟨1, by decide +kernel, by decide, rfl⟩
theorem dX5_wouldChange_86 : DG mX5_wouldChange 86 90 := ⟨4, by decide +kernel, by decide⟩
theorem dX5_wouldChange_89 : DKi mX5_wouldChange 89 (nI 0) 90 := Or.inl ⟨0, by decide +kernel, by decide, rfl⟩
theorem dX5_wouldChange_90 : D0 mX5_wouldChange 90 (.ireturn) 1 91 := ⟨by decide +kernel, rfl⟩
theorem dX5_findBest_0 : DLa mX5_findBest 0 0 1 := Or.inl ⟨0, by decide +kernel, rfl, rfl⟩
theorem dX5_findBest_1 : D0 mX5_findBest 1 (.getfield 21) 3 4 := ⟨by decide +kernel, rfl⟩
theorem dX5_findBest_4 : DKi mX5_findBest 4 (nI 255) 7 := Or.inr (Or.inr (Or.inl ⟨255, by decide +kernel, by decide, rfl⟩))
theorem dX5_findBest_7 : DKi mX5_findBest 7 (nI 0) 8 := Or.inl ⟨0, by decide +kernel, by decide, rfl⟩
theorem dX5_findBest_8 : D0 mX5_findBest 8 (.iastore) 1 9 := ⟨by decide +kernel, rfl⟩
theorem dX5_findBest_9 : DKi mX5_findBest 9 (nI 254) 12 := Or.inr (Or.inr (Or.inl ⟨254, by decide +kernel, by decide, rfl⟩))
theorem dX5_findBest_12 : DSi mX5_findBest 12 1 13 := ⟨by decide, Or.inl ⟨1, by decide +kernel, rfl, rfl⟩⟩
theorem dX5_findBest_13 : DLi mX5_findBest 13 1 14 := Or.inl ⟨1, by decide +kernel, rfl, rfl⟩
theorem dX5_findBest_14 : DFlt mX5_findBest 14 75 17 := ⟨61, by decide +kernel, by decide, rfl⟩
theorem dX5_findBest_17 : DLi mX5_findBest 17 1 18 := Or.inl ⟨1, by decide +kernel, rfl, rfl⟩
theorem dX5_findBest_18 : D0 mX5_findBest 18 (.invokestatic 44) 3 21 := ⟨by decide +kernel, rfl⟩
theorem dX5_findBest_21 : DSi mX5_findBest 21 2 22 := ⟨by decide, Or.inl ⟨2, by decide +kernel, rfl, rfl⟩⟩
theorem dX5_findBest_22 : DKi mX5_findBest 22 (nI 0) 23 := Or.inl ⟨0, by decide +kernel, by decide, rfl⟩
theorem dX5_findBest_23 : DSi mX5_findBest 23 3 24 := ⟨by decide, Or.inl ⟨3, by decide +kernel, rfl, rfl⟩⟩
theorem dX5_findBest_24 : DKi mX5_findBest 24 (nI 0) 25 := Or.inl ⟨0, by decide +kernel, by decide, rfl⟩
theorem dX5_findBest_25 : DSi mX5_findBest 25 4 27 := ⟨by decide, Or.inr ⟨by decide +kernel, rfl⟩⟩
theorem dX5_findBest_27 : DLi mX5_findBest 27 4 29 := Or.inr ⟨by decide +kernel, rfl⟩
theorem dX5_findBest_29 : DKi mX5_findBest 29 (nI 8) 31 := Or.inr (Or.inl ⟨8, by decide +kernel, by decide, rfl⟩)
theorem dX5_findBest_31 : DCge mX5_findBest 31 62 34 := ⟨31, by decide +kernel, by decide, rfl⟩
theorem dX5_findBest_34 : DLi mX5_findBest 34 1 35 := Or.inl ⟨1, by decide +kernel, rfl, rfl⟩
theorem dX5_findBest_35 : DLi mX5_findBest 35 4 37 := Or.inr ⟨by decide +kernel, rfl⟩
theorem dX5_findBest_37 : D0 mX5_findBest 37 (.ishr) 1 38 := ⟨by decide +kernel, rfl⟩
theorem dX5_findBest_38 : DKi mX5_findBest 38 (nI 1) 39 := Or.inl ⟨1, by decide +kernel, by decide, rfl⟩
theorem dX5_findBest_39 : D0 mX5_findBest 39 (.iand) 1 40 := ⟨by decide +kernel, rfl⟩
theorem dX5_findBest_40 : DFne mX5_findBest 40 56 43 := ⟨16, by decide +kernel, by decide, rfl⟩
theorem dX5_findBest_43 : DLi mX5_findBest 43 3 44 := Or.inl ⟨3, by decide +kernel, rfl, rfl⟩
theorem dX5_findBest_44 : DLa mX5_findBest 44 0 45 := Or.inl ⟨0, by decide +kernel, rfl, rfl⟩
theorem dX5_findBest_45 : DLi mX5_findBest 45 2 46 := Or.inl ⟨2, by decide +kernel, rfl, rfl⟩
theorem dX5_findBest_46 : DLi mX5_findBest 46 4 48 := Or.inr ⟨by decide +kernel, rfl⟩
theorem dX5_findBest_48 : DLi mX5_findBest 48 1 49 := Or.inl ⟨1, by decide +kernel, rfl, rfl⟩
theorem dX5_findBest_49 : D0 mX5_findBest 49 (.invokevirtual 50) 3 52 := ⟨by decide +kernel, rfl⟩
theorem dX5_findBest_52 : D0 mX5_findBest 52 (.invokestatic 54) 3 55 := ⟨by decide +kernel, rfl⟩
theorem dX5_findBest_55 : DSi mX5_findBest 55 3 56 := ⟨by decide, Or.inl ⟨3, by decide +kernel, rfl, rfl⟩⟩
theorem dX5_findBest_56 : DIn mX5_findBest 56 4 (nI 1) 59 := ⟨by decide, 1, by decide +kernel, by decide, rfl⟩
theorem dX5_findBest_59 : DG mX5_findBest 59 27 := ⟨(-32), by decide +kernel, by decide⟩
theorem dX5_findBest_62 : DLa mX5_findBest 62 0 63 := Or.inl ⟨0, by decide +kernel, rfl, rfl⟩
theorem dX5_findBest_63 : D0 mX5_findBest 63 (.getfield 21) 3 66 := ⟨by decide +kernel, rfl⟩
theorem dX5_findBest_66 : DLi mX5_findBest 66 1 67 := Or.inl ⟨1, by decide +kernel, rfl, rfl⟩
theorem dX5_findBest_67 : DLi mX5_findBest 67 3 68 := Or.inl ⟨3, by decide +kernel, rfl, rfl⟩
theorem dX5_findBest_68 : D0 mX5_findBest 68 (.iastore) 1 69 := ⟨by decide +kernel, rfl⟩
theorem dX5_findBest_69 : DIn mX5_findBest 69 1 ((-1)) 72 := ⟨by decide, (-1), by decide +kernel, by decide, rfl⟩
theorem dX5_findBest_72 : DG mX5_findBest 72 13 := ⟨(-59), by decide +kernel, by decide⟩
theorem dX5_findBest_75 : DKi mX5_findBest 75 (nI 0) 76 := Or.inl ⟨0, by decide +kernel, by decide, rfl⟩
theorem dX5_findBest_76 : DSi mX5_findBest 76 1 77 := ⟨by decide, Or.inl ⟨1, by decide +kernel, rfl, rfl⟩⟩
theorem dX5_findBest_77 : DKi mX5_findBest 77 (nI 0) 78 := Or.inl ⟨0, by decide +kernel, by decide, rfl⟩
theorem dX5_findBest_78 : DSi mX5_findBest 78 2 79 := ⟨by decide, Or.inl ⟨2, by decide +kernel, rfl, rfl⟩⟩
theorem dX5_findBest_79 : DLi mX5_findBest 79 2 80 := Or.inl ⟨2, by decide +kernel, rfl, rfl⟩
theorem dX5_findBest_80 : DKi mX5_findBest 80 (nI 8) 82 := Or.inr (Or.inl ⟨8, by decide +kernel, by decide, rfl⟩)
theorem dX5_findBest_82 : DCge mX5_findBest 82 111 85 := ⟨29, by decide +kernel, by decide, rfl⟩
theorem dX5_findBest_85 : DLa mX5_findBest 85 0 86 := Or.inl ⟨0, by decide +kernel, rfl, rfl⟩
theorem dX5_findBest_86 : DLi mX5_findBest 86 2 87 := Or.inl ⟨2, by decide +kernel, rfl, rfl⟩
theorem dX5_findBest_87 : DLi mX5_findBest 87 1 88 := Or.inl ⟨1, by decide +kernel, rfl, rfl⟩
theorem dX5_findBest_88 : D0 mX5_findBest 88 (.invokevirtual 60) 3 91 := ⟨by decide +kernel, rfl⟩
theorem dX5_findBest_91 : DSi mX5_findBest 91 3 92 := ⟨by decide, Or.inl ⟨3, by decide +kernel, rfl, rfl⟩⟩
theorem dX5_findBest_92 : DLa mX5_findBest 92 0 93 := Or.inl ⟨0, by decide +kernel, rfl, rfl⟩
theorem dX5_findBest_93 : D0 mX5_findBest 93 (.getfield 24) 3 96 := ⟨by decide +kernel, rfl⟩
theorem dX5_findBest_96 : DLi mX5_findBest 96 2 97 := Or.inl ⟨2, by decide +kernel, rfl, rfl⟩
theorem dX5_findBest_97 : DLi mX5_findBest 97 3 98 := Or.inl ⟨3, by decide +kernel, rfl, rfl⟩
theorem dX5_findBest_98 : D0 mX5_findBest 98 (.iastore) 1 99 := ⟨by decide +kernel, rfl⟩
theorem dX5_findBest_99 : DLi mX5_findBest 99 1 100 := Or.inl ⟨1, by decide +kernel, rfl, rfl⟩
theorem dX5_findBest_100 : DKi mX5_findBest 100 (nI 1) 101 := Or.inl ⟨1, by decide +kernel, by decide, rfl⟩
theorem dX5_findBest_101 : DLi mX5_findBest 101 3 102 := Or.inl ⟨3, by decide +kernel, rfl, rfl⟩
theorem dX5_findBest_102 : D0 mX5_findBest 102 (.ishl) 1 103 := ⟨by decide +kernel, rfl⟩
theorem dX5_findBest_103 : D0 mX5_findBest 103 (.ior) 1 104 := ⟨by decide +kernel, rfl⟩
theorem dX5_findBest_104 : DSi mX5_findBest 104 1 105 := ⟨by decide, Or.inl ⟨1, by decide +kernel, rfl, rfl⟩⟩
theorem dX5_findBest_105 : DIn mX5_findBest 105 2 (nI 1) 108 := ⟨by decide, 1, by decide +kernel, by decide, rfl⟩
theorem dX5_findBest_108 : DG mX5_findBest 108 79 := ⟨(-29), by decide +kernel, by decide⟩
theorem dX5_findBest_111 : D0 mX5_findBest 111 (.return_) 1 112 := ⟨by decide +kernel, rfl⟩
theorem dX5_joyWith_0 : DLa mX5_joyWith 0 0 1 := Or.inl ⟨0, by decide +kernel, rfl, rfl⟩
theorem dX5_joyWith_1 : D0 mX5_joyWith 1 (.getfield 18) 3 4 := ⟨by decide +kernel, rfl⟩
theorem dX5_joyWith_4 : DLi mX5_joyWith 4 1 5 := Or.inl ⟨1, by decide +kernel, rfl, rfl⟩
theorem dX5_joyWith_5 : DKi mX5_joyWith 5 (nI 8) 7 := Or.inr (Or.inl ⟨8, by decide +kernel, by decide, rfl⟩)
theorem dX5_joyWith_7 : D0 mX5_joyWith 7 (.imul) 1 8 := ⟨by decide +kernel, rfl⟩
theorem dX5_joyWith_8 : DLi mX5_joyWith 8 2 9 := Or.inl ⟨2, by decide +kernel, rfl, rfl⟩
theorem dX5_joyWith_9 : D0 mX5_joyWith 9 (.iadd) 1 10 := ⟨by decide +kernel, rfl⟩
theorem dX5_joyWith_10 : D0 mX5_joyWith 10 (.iaload) 1 11 := ⟨by decide +kernel, rfl⟩
theorem dX5_joyWith_11 : DLa mX5_joyWith 11 0 12 := Or.inl ⟨0, by decide +kernel, rfl, rfl⟩
theorem dX5_joyWith_12 : D0 mX5_joyWith 12 (.getfield 21) 3 15 := ⟨by decide +kernel, rfl⟩
theorem dX5_joyWith_15 : DLi mX5_joyWith 15 3 16 := Or.inl ⟨3, by decide +kernel, rfl, rfl⟩
theorem dX5_joyWith_16 : DKi mX5_joyWith 16 (nI 1) 17 := Or.inl ⟨1, by decide +kernel, by decide, rfl⟩
theorem dX5_joyWith_17 : DLi mX5_joyWith 17 2 18 := Or.inl ⟨2, by decide +kernel, rfl, rfl⟩
theorem dX5_joyWith_18 : D0 mX5_joyWith 18 (.ishl) 1 19 := ⟨by decide +kernel, rfl⟩
theorem dX5_joyWith_19 : D0 mX5_joyWith 19 (.ior) 1 20 := ⟨by decide +kernel, rfl⟩
theorem dX5_joyWith_20 : D0 mX5_joyWith 20 (.iaload) 1 21 := ⟨by decide +kernel, rfl⟩
theorem dX5_joyWith_21 : D0 mX5_joyWith 21 (.iadd) 1 22 := ⟨by decide +kernel, rfl⟩
theorem dX5_joyWith_22 : D0 mX5_joyWith 22 (.ireturn) 1 23 := ⟨by decide +kernel, rfl⟩
theorem dX5_leastBestRow_0 : DKi mX5_leastBestRow 0 (nI 0) 1 := Or.inl ⟨0, by decide +kernel, by decide, rfl⟩
theorem dX5_leastBestRow_1 : DSi mX5_leastBestRow 1 3 2 := ⟨by decide, Or.inl ⟨3, by decide +kernel, rfl, rfl⟩⟩
theorem dX5_leastBestRow_2 : DLi mX5_leastBestRow 2 3 3 := Or.inl ⟨3, by decide +kernel, rfl, rfl⟩
theorem dX5_leastBestRow_3 : DKi mX5_leastBestRow 3 (nI 8) 5 := Or.inr (Or.inl ⟨8, by decide +kernel, by decide, rfl⟩)
theorem dX5_leastBestRow_5 : DCge mX5_leastBestRow 5 40 8 := ⟨35, by decide +kernel, by decide, rfl⟩
theorem dX5_leastBestRow_8 : DLi mX5_leastBestRow 8 2 9 := Or.inl ⟨2, by decide +kernel, rfl, rfl⟩
theorem dX5_leastBestRow_9 : DLi mX5_leastBestRow 9 3 10 := Or.inl ⟨3, by decide +kernel, rfl, rfl⟩
theorem dX5_leastBestRow_10 : D0 mX5_leastBestRow 10 (.ishr) 1 11 := ⟨by decide +kernel, rfl⟩
theorem dX5_leastBestRow_11 : DKi mX5_leastBestRow 11 (nI 1) 12 := Or.inl ⟨1, by decide +kernel, by decide, rfl⟩
theorem dX5_leastBestRow_12 : D0 mX5_leastBestRow 12 (.iand) 1 13 := ⟨by decide +kernel, rfl⟩
theorem dX5_leastBestRow_13 : DFne mX5_leastBestRow 13 34 16 := ⟨21, by decide +kernel, by decide, rfl⟩
theorem dX5_leastBestRow_16 : DLa mX5_leastBestRow 16 0 17 := Or.inl ⟨0, by decide +kernel, rfl, rfl⟩
theorem dX5_leastBestRow_17 : DLi mX5_leastBestRow 17 1 18 := Or.inl ⟨1, by decide +kernel, rfl, rfl⟩
theorem dX5_leastBestRow_18 : DLi mX5_leastBestRow 18 3 19 := Or.inl ⟨3, by decide +kernel, rfl, rfl⟩
theorem dX5_leastBestRow_19 : DLi mX5_leastBestRow 19 2 20 := Or.inl ⟨2, by decide +kernel, rfl, rfl⟩
theorem dX5_leastBestRow_20 : D0 mX5_leastBestRow 20 (.invokevirtual 50) 3 23 := ⟨by decide +kernel, rfl⟩
theorem dX5_leastBestRow_23 : DLa mX5_leastBestRow 23 0 24 := Or.inl ⟨0, by decide +kernel, rfl, rfl⟩
theorem dX5_leastBestRow_24 : D0 mX5_leastBestRow 24 (.getfield 21) 3 27 := ⟨by decide +kernel, rfl⟩
theorem dX5_leastBestRow_27 : DLi mX5_leastBestRow 27 2 28 := Or.inl ⟨2, by decide +kernel, rfl, rfl⟩
theorem dX5_leastBestRow_28 : D0 mX5_leastBestRow 28 (.iaload) 1 29 := ⟨by decide +kernel, rfl⟩
theorem dX5_leastBestRow_29 : DCne mX5_leastBestRow 29 34 32 := ⟨5, by decide +kernel, by decide, rfl⟩
theorem dX5_leastBestRow_32 : DLi mX5_leastBestRow 32 3 33 := Or.inl ⟨3, by decide +kernel, rfl, rfl⟩
theorem dX5_leastBestRow_33 : D0 mX5_leastBestRow 33 (.ireturn) 1 34 := ⟨by decide +kernel, rfl⟩
theorem dX5_leastBestRow_34 : DIn mX5_leastBestRow 34 3 (nI 1) 37 := ⟨by decide, 1, by decide +kernel, by decide, rfl⟩
theorem dX5_leastBestRow_37 : DG mX5_leastBestRow 37 2 := ⟨(-35), by decide +kernel, by decide⟩
theorem dX5_leastBestRow_40 : DKi mX5_leastBestRow 40 (nI 0) 41 := Or.inl ⟨0, by decide +kernel, by decide, rfl⟩
theorem dX5_leastBestRow_41 : D0 mX5_leastBestRow 41 (.ireturn) 1 42 := ⟨by decide +kernel, rfl⟩
theorem dX5_bestJoy_0 : DLa mX5_bestJoy 0 0 1 := Or.inl ⟨0, by decide +kernel, rfl, rfl⟩
theorem dX5_bestJoy_1 : D0 mX5_bestJoy 1 (.getfield 21) 3 4 := ⟨by decide +kernel, rfl⟩
theorem dX5_bestJoy_4 : DKi mX5_bestJoy 4 (nI 0) 5 := Or.inl ⟨0, by decide +kernel, by decide, rfl⟩
theorem dX5_bestJoy_5 : D0 mX5_bestJoy 5 (.iaload) 1 6 := ⟨by decide +kernel, rfl⟩
theorem dX5_bestJoy_6 : D0 mX5_bestJoy 6 (.ireturn) 1 7 := ⟨by decide +kernel, rfl⟩
theorem dX5_envious_0 : DKi mX5_envious 0 (nI 0) 1 := Or.inl ⟨0, by decide +kernel, by decide, rfl⟩
theorem dX5_envious_1 : DSi mX5_envious 1 1 2 := ⟨by decide, Or.inl ⟨1, by decide +kernel, rfl, rfl⟩⟩
theorem dX5_envious_2 : DKi mX5_envious 2 (nI 0) 3 := Or.inl ⟨0, by decide +kernel, by decide, rfl⟩
theorem dX5_envious_3 : DSi mX5_envious 3 2 4 := ⟨by decide, Or.inl ⟨2, by decide +kernel, rfl, rfl⟩⟩
theorem dX5_envious_4 : DLi mX5_envious 4 2 5 := Or.inl ⟨2, by decide +kernel, rfl, rfl⟩
theorem dX5_envious_5 : DKi mX5_envious 5 (nI 8) 7 := Or.inr (Or.inl ⟨8, by decide +kernel, by decide, rfl⟩)
theorem dX5_envious_7 : DCge mX5_envious 7 74 10 := ⟨67, by decide +kernel, by decide, rfl⟩
theorem dX5_envious_10 : DKi mX5_envious 10 (nI 0) 11 := Or.inl ⟨0, by decide +kernel, by decide, rfl⟩
theorem dX5_envious_11 : DSi mX5_envious 11 3 12 := ⟨by decide, Or.inl ⟨3, by decide +kernel, rfl, rfl⟩⟩
theorem dX5_envious_12 : DKi mX5_envious 12 (nI 0) 13 := Or.inl ⟨0, by decide +kernel, by decide, rfl⟩
theorem dX5_envious_13 : DSi mX5_envious 13 4 15 := ⟨by decide, Or.inr ⟨by decide +kernel, rfl⟩⟩
theorem dX5_envious_15 : DLi mX5_envious 15 4 17 := Or.inr ⟨by decide +kernel, rfl⟩
theorem dX5_envious_17 : DKi mX5_envious 17 (nI 8) 19 := Or.inr (Or.inl ⟨8, by decide +kernel, by decide, rfl⟩)
theorem dX5_envious_19 : DCge mX5_envious 19 45 22 := ⟨26, by decide +kernel, by decide, rfl⟩
theorem dX5_envious_22 : DLi mX5_envious 22 3 23 := Or.inl ⟨3, by decide +kernel, rfl, rfl⟩
theorem dX5_envious_23 : DLa mX5_envious 23 0 24 := Or.inl ⟨0, by decide +kernel, rfl, rfl⟩
theorem dX5_envious_24 : D0 mX5_envious 24 (.getfield 18) 3 27 := ⟨by decide +kernel, rfl⟩
theorem dX5_envious_27 : DLi mX5_envious 27 2 28 := Or.inl ⟨2, by decide +kernel, rfl, rfl⟩
theorem dX5_envious_28 : DKi mX5_envious 28 (nI 8) 30 := Or.inr (Or.inl ⟨8, by decide +kernel, by decide, rfl⟩)
theorem dX5_envious_30 : D0 mX5_envious 30 (.imul) 1 31 := ⟨by decide +kernel, rfl⟩
theorem dX5_envious_31 : DLi mX5_envious 31 4 33 := Or.inr ⟨by decide +kernel, rfl⟩
theorem dX5_envious_33 : D0 mX5_envious 33 (.iadd) 1 34 := ⟨by decide +kernel, rfl⟩
theorem dX5_envious_34 : D0 mX5_envious 34 (.iaload) 1 35 := ⟨by decide +kernel, rfl⟩
theorem dX5_envious_35 : D0 mX5_envious 35 (.invokestatic 54) 3 38 := ⟨by decide +kernel, rfl⟩
theorem dX5_envious_38 : DSi mX5_envious 38 3 39 := ⟨by decide, Or.inl ⟨3, by decide +kernel, rfl, rfl⟩⟩
theorem dX5_envious_39 : DIn mX5_envious 39 4 (nI 1) 42 := ⟨by decide, 1, by decide +kernel, by decide, rfl⟩
theorem dX5_envious_42 : DG mX5_envious 42 15 := ⟨(-27), by decide +kernel, by decide⟩
theorem dX5_envious_45 : DLi mX5_envious 45 3 46 := Or.inl ⟨3, by decide +kernel, rfl, rfl⟩
theorem dX5_envious_46 : DLa mX5_envious 46 0 47 := Or.inl ⟨0, by decide +kernel, rfl, rfl⟩
theorem dX5_envious_47 : D0 mX5_envious 47 (.getfield 18) 3 50 := ⟨by decide +kernel, rfl⟩
theorem dX5_envious_50 : DLi mX5_envious 50 2 51 := Or.inl ⟨2, by decide +kernel, rfl, rfl⟩
theorem dX5_envious_51 : DKi mX5_envious 51 (nI 8) 53 := Or.inr (Or.inl ⟨8, by decide +kernel, by decide, rfl⟩)
theorem dX5_envious_53 : D0 mX5_envious 53 (.imul) 1 54 := ⟨by decide +kernel, rfl⟩
theorem dX5_envious_54 : DLa mX5_envious 54 0 55 := Or.inl ⟨0, by decide +kernel, rfl, rfl⟩
theorem dX5_envious_55 : D0 mX5_envious 55 (.getfield 9) 3 58 := ⟨by decide +kernel, rfl⟩
theorem dX5_envious_58 : DLi mX5_envious 58 2 59 := Or.inl ⟨2, by decide +kernel, rfl, rfl⟩
theorem dX5_envious_59 : D0 mX5_envious 59 (.iaload) 1 60 := ⟨by decide +kernel, rfl⟩
theorem dX5_envious_60 : D0 mX5_envious 60 (.iadd) 1 61 := ⟨by decide +kernel, rfl⟩
theorem dX5_envious_61 : D0 mX5_envious 61 (.iaload) 1 62 := ⟨by decide +kernel, rfl⟩
theorem dX5_envious_62 : DCle mX5_envious 62 68 65 := ⟨6, by decide +kernel, by decide, rfl⟩
theorem dX5_envious_65 : DIn mX5_envious 65 1 (nI 1) 68 := ⟨by decide, 1, by decide +kernel, by decide, rfl⟩
theorem dX5_envious_68 : DIn mX5_envious 68 2 (nI 1) 71 := ⟨by decide, 1, by decide +kernel, by decide, rfl⟩
theorem dX5_envious_71 : DG mX5_envious 71 4 := ⟨(-67), by decide +kernel, by decide⟩
theorem dX5_envious_74 : DLi mX5_envious 74 1 75 := Or.inl ⟨1, by decide +kernel, rfl, rfl⟩
theorem dX5_envious_75 : D0 mX5_envious 75 (.ireturn) 1 76 := ⟨by decide +kernel, rfl⟩
theorem dX6_begin_0 : DLa mX6_begin 0 0 1 := Or.inl ⟨0, by decide +kernel, rfl, rfl⟩
theorem dX6_begin_1 : D0 mX6_begin 1 (.getfield 11) 3 4 := ⟨by decide +kernel, rfl⟩
theorem dX6_begin_4 : DKi mX6_begin 4 (nI 1000) 7 := Or.inr (Or.inr (Or.inl ⟨1000, by decide +kernel, by decide, rfl⟩))
theorem dX6_begin_7 : D0 mX6_begin 7 (.invokestatic 18) 3 10 := ⟨by decide +kernel, rfl⟩
theorem dX6_begin_10 : DLa mX6_begin 10 0 11 := Or.inl ⟨0, by decide +kernel, rfl, rfl⟩
theorem dX6_begin_11 : D0 mX6_begin 11 (.getfield 11) 3 14 := ⟨by decide +kernel, rfl⟩
theorem dX6_begin_14 : DLi mX6_begin 14 1 15 := Or.inl ⟨1, by decide +kernel, rfl, rfl⟩
theorem dX6_begin_15 : DKi mX6_begin 15 (nI 0) 16 := Or.inl ⟨0, by decide +kernel, by decide, rfl⟩
theorem dX6_begin_16 : D0 mX6_begin 16 (.iastore) 1 17 := ⟨by decide +kernel, rfl⟩
theorem dX6_begin_17 : D0 mX6_begin 17 (.return_) 1 18 := ⟨by decide +kernel, rfl⟩
theorem dX6_oneDay_0 : DLa mX6_oneDay 0 0 1 := Or.inl ⟨0, by decide +kernel, rfl, rfl⟩
theorem dX6_oneDay_1 : D0 mX6_oneDay 1 (.getfield 11) 3 4 := ⟨by decide +kernel, rfl⟩
theorem dX6_oneDay_4 : DKi mX6_oneDay 4 (nI 0) 5 := Or.inl ⟨0, by decide +kernel, by decide, rfl⟩
theorem dX6_oneDay_5 : DLa mX6_oneDay 5 0 6 := Or.inl ⟨0, by decide +kernel, rfl, rfl⟩
theorem dX6_oneDay_6 : D0 mX6_oneDay 6 (.getfield 15) 3 9 := ⟨by decide +kernel, rfl⟩
theorem dX6_oneDay_9 : DKi mX6_oneDay 9 (nI 0) 10 := Or.inl ⟨0, by decide +kernel, by decide, rfl⟩
theorem dX6_oneDay_10 : DKi mX6_oneDay 10 (nI 16) 12 := Or.inr (Or.inl ⟨16, by decide +kernel, by decide, rfl⟩)
theorem dX6_oneDay_12 : D0 mX6_oneDay 12 (.invokestatic 24) 3 15 := ⟨by decide +kernel, rfl⟩
theorem dX6_oneDay_15 : DKi mX6_oneDay 15 (nI 0) 16 := Or.inl ⟨0, by decide +kernel, by decide, rfl⟩
theorem dX6_oneDay_16 : DSi mX6_oneDay 16 3 17 := ⟨by decide, Or.inl ⟨3, by decide +kernel, rfl, rfl⟩⟩
theorem dX6_oneDay_17 : DLi mX6_oneDay 17 3 18 := Or.inl ⟨3, by decide +kernel, rfl, rfl⟩
theorem dX6_oneDay_18 : DKi mX6_oneDay 18 (nI 8) 20 := Or.inr (Or.inl ⟨8, by decide +kernel, by decide, rfl⟩)
theorem dX6_oneDay_20 : DCge mX6_oneDay 20 80 23 := ⟨60, by decide +kernel, by decide, rfl⟩
theorem dX6_oneDay_23 : DLi mX6_oneDay 23 3 24 := Or.inl ⟨3, by decide +kernel, rfl, rfl⟩
theorem dX6_oneDay_24 : DKi mX6_oneDay 24 (nI 1) 25 := Or.inl ⟨1, by decide +kernel, by decide, rfl⟩
theorem dX6_oneDay_25 : D0 mX6_oneDay 25 (.iadd) 1 26 := ⟨by decide +kernel, rfl⟩
theorem dX6_oneDay_26 : DKi mX6_oneDay 26 (nI 7) 28 := Or.inr (Or.inl ⟨7, by decide +kernel, by decide, rfl⟩)
theorem dX6_oneDay_28 : D0 mX6_oneDay 28 (.iand) 1 29 := ⟨by decide +kernel, rfl⟩
theorem dX6_oneDay_29 : DSi mX6_oneDay 29 4 31 := ⟨by decide, Or.inr ⟨by decide +kernel, rfl⟩⟩
theorem dX6_oneDay_31 : DLa mX6_oneDay 31 0 32 := Or.inl ⟨0, by decide +kernel, rfl, rfl⟩
theorem dX6_oneDay_32 : DLi mX6_oneDay 32 3 33 := Or.inl ⟨3, by decide +kernel, rfl, rfl⟩
theorem dX6_oneDay_33 : DLi mX6_oneDay 33 4 35 := Or.inr ⟨by decide +kernel, rfl⟩
theorem dX6_oneDay_35 : D0 mX6_oneDay 35 (.invokevirtual 30) 3 38 := ⟨by decide +kernel, rfl⟩
theorem dX6_oneDay_38 : DLa mX6_oneDay 38 0 39 := Or.inl ⟨0, by decide +kernel, rfl, rfl⟩
theorem dX6_oneDay_39 : DLi mX6_oneDay 39 3 40 := Or.inl ⟨3, by decide +kernel, rfl, rfl⟩
theorem dX6_oneDay_40 : DKi mX6_oneDay 40 (nI 8) 42 := Or.inr (Or.inl ⟨8, by decide +kernel, by decide, rfl⟩)
theorem dX6_oneDay_42 : DLi mX6_oneDay 42 3 43 := Or.inl ⟨3, by decide +kernel, rfl, rfl⟩
theorem dX6_oneDay_43 : DLi mX6_oneDay 43 2 44 := Or.inl ⟨2, by decide +kernel, rfl, rfl⟩
theorem dX6_oneDay_44 : D0 mX6_oneDay 44 (.iadd) 1 45 := ⟨by decide +kernel, rfl⟩
theorem dX6_oneDay_45 : DKi mX6_oneDay 45 (nI 7) 47 := Or.inr (Or.inl ⟨7, by decide +kernel, by decide, rfl⟩)
theorem dX6_oneDay_47 : D0 mX6_oneDay 47 (.iand) 1 48 := ⟨by decide +kernel, rfl⟩
theorem dX6_oneDay_48 : D0 mX6_oneDay 48 (.iadd) 1 49 := ⟨by decide +kernel, rfl⟩
theorem dX6_oneDay_49 : D0 mX6_oneDay 49 (.invokevirtual 30) 3 52 := ⟨by decide +kernel, rfl⟩
theorem dX6_oneDay_52 : DLa mX6_oneDay 52 1 53 := Or.inl ⟨1, by decide +kernel, rfl, rfl⟩
theorem dX6_oneDay_53 : D0 mX6_oneDay 53 (.getfield 34) 3 56 := ⟨by decide +kernel, rfl⟩
theorem dX6_oneDay_56 : DLi mX6_oneDay 56 3 57 := Or.inl ⟨3, by decide +kernel, rfl, rfl⟩
theorem dX6_oneDay_57 : D0 mX6_oneDay 57 (.iaload) 1 58 := ⟨by decide +kernel, rfl⟩
theorem dX6_oneDay_58 : DFne mX6_oneDay 58 74 61 := ⟨16, by decide +kernel, by decide, rfl⟩
theorem dX6_oneDay_61 : DLa mX6_oneDay 61 0 62 := Or.inl ⟨0, by decide +kernel, rfl, rfl⟩
theorem dX6_oneDay_62 : DKi mX6_oneDay 62 (nI 8) 64 := Or.inr (Or.inl ⟨8, by decide +kernel, by decide, rfl⟩)
theorem dX6_oneDay_64 : DLi mX6_oneDay 64 3 65 := Or.inl ⟨3, by decide +kernel, rfl, rfl⟩
theorem dX6_oneDay_65 : D0 mX6_oneDay 65 (.iadd) 1 66 := ⟨by decide +kernel, rfl⟩
theorem dX6_oneDay_66 : DKi mX6_oneDay 66 (nI 8) 68 := Or.inr (Or.inl ⟨8, by decide +kernel, by decide, rfl⟩)
theorem dX6_oneDay_68 : DLi mX6_oneDay 68 4 70 := Or.inr ⟨by decide +kernel, rfl⟩
theorem dX6_oneDay_70 : D0 mX6_oneDay 70 (.iadd) 1 71 := ⟨by decide +kernel, rfl⟩
theorem dX6_oneDay_71 : D0 mX6_oneDay 71 (.invokevirtual 30) 3 74 := ⟨by decide +kernel, rfl⟩
theorem dX6_oneDay_74 : DIn mX6_oneDay 74 3 (nI 1) 77 := ⟨by decide, 1, by decide +kernel, by decide, rfl⟩
theorem dX6_oneDay_77 : DG mX6_oneDay 77 17 := ⟨(-60), by decide +kernel, by decide⟩
theorem dX6_oneDay_80 : DKi mX6_oneDay 80 (nI 0) 81 := Or.inl ⟨0, by decide +kernel, by decide, rfl⟩
theorem dX6_oneDay_81 : DSi mX6_oneDay 81 3 82 := ⟨by decide, Or.inl ⟨3, by decide +kernel, rfl, rfl⟩⟩
theorem dX6_oneDay_82 : DLi mX6_oneDay 82 3 83 := Or.inl ⟨3, by decide +kernel, rfl, rfl⟩
theorem dX6_oneDay_83 : DLa mX6_oneDay 83 1 84 := Or.inl ⟨1, by decide +kernel, rfl, rfl⟩
theorem dX6_oneDay_84 : D0 mX6_oneDay 84 (.getfield 39) 3 87 := ⟨by decide +kernel, rfl⟩
theorem dX6_oneDay_87 : DCge mX6_oneDay 87 132 90 := ⟨45, by decide +kernel, by decide, rfl⟩
theorem dX6_oneDay_90 : DLi mX6_oneDay 90 3 91 := Or.inl ⟨3, by decide +kernel, rfl, rfl⟩
theorem dX6_oneDay_91 : DKi mX6_oneDay 91 (nI 4) 92 := Or.inl ⟨4, by decide +kernel, by decide, rfl⟩
theorem dX6_oneDay_92 : DCge mX6_oneDay 92 132 95 := ⟨40, by decide +kernel, by decide, rfl⟩
theorem dX6_oneDay_95 : DLa mX6_oneDay 95 1 96 := Or.inl ⟨1, by decide +kernel, rfl, rfl⟩
theorem dX6_oneDay_96 : DLi mX6_oneDay 96 3 97 := Or.inl ⟨3, by decide +kernel, rfl, rfl⟩
theorem dX6_oneDay_97 : DLi mX6_oneDay 97 2 98 := Or.inl ⟨2, by decide +kernel, rfl, rfl⟩
theorem dX6_oneDay_98 : D0 mX6_oneDay 98 (.invokevirtual 43) 3 101 := ⟨by decide +kernel, rfl⟩
theorem dX6_oneDay_101 : DFeq mX6_oneDay 101 126 104 := ⟨25, by decide +kernel, by decide, rfl⟩
theorem dX6_oneDay_104 : DLa mX6_oneDay 104 0 105 := Or.inl ⟨0, by decide +kernel, rfl, rfl⟩
theorem dX6_oneDay_105 : DKi mX6_oneDay 105 (nI 8) 107 := Or.inr (Or.inl ⟨8, by decide +kernel, by decide, rfl⟩)
theorem dX6_oneDay_107 : DLa mX6_oneDay 107 1 108 := Or.inl ⟨1, by decide +kernel, rfl, rfl⟩
theorem dX6_oneDay_108 : D0 mX6_oneDay 108 (.getfield 47) 3 111 := ⟨by decide +kernel, rfl⟩
theorem dX6_oneDay_111 : DLi mX6_oneDay 111 3 112 := Or.inl ⟨3, by decide +kernel, rfl, rfl⟩
theorem dX6_oneDay_112 : D0 mX6_oneDay 112 (.iaload) 1 113 := ⟨by decide +kernel, rfl⟩
theorem dX6_oneDay_113 : D0 mX6_oneDay 113 (.iadd) 1 114 := ⟨by decide +kernel, rfl⟩
theorem dX6_oneDay_114 : DKi mX6_oneDay 114 (nI 8) 116 := Or.inr (Or.inl ⟨8, by decide +kernel, by decide, rfl⟩)
theorem dX6_oneDay_116 : DLa mX6_oneDay 116 1 117 := Or.inl ⟨1, by decide +kernel, rfl, rfl⟩
theorem dX6_oneDay_117 : D0 mX6_oneDay 117 (.getfield 50) 3 120 := ⟨by decide +kernel, rfl⟩
theorem dX6_oneDay_120 : DLi mX6_oneDay 120 3 121 := Or.inl ⟨3, by decide +kernel, rfl, rfl⟩
theorem dX6_oneDay_121 : D0 mX6_oneDay 121 (.iaload) 1 122 := ⟨by decide +kernel, rfl⟩
theorem dX6_oneDay_122 : D0 mX6_oneDay 122 (.iadd) 1 123 := ⟨by decide +kernel, rfl⟩
theorem dX6_oneDay_123 : D0 mX6_oneDay 123 (.invokevirtual 30) 3 126 := ⟨by decide +kernel, rfl⟩
theorem dX6_oneDay_126 : DIn mX6_oneDay 126 3 (nI 1) 129 := ⟨by decide, 1, by decide +kernel, by decide, rfl⟩
theorem dX6_oneDay_129 : DG mX6_oneDay 129 82 := ⟨(-47), by decide +kernel, by decide⟩
theorem dX6_oneDay_132 : D0 mX6_oneDay 132 (.return_) 1 133 := ⟨by decide +kernel, rfl⟩
theorem dX6_join_0 : DLa mX6_join 0 0 1 := Or.inl ⟨0, by decide +kernel, rfl, rfl⟩
theorem dX6_join_1 : D0 mX6_join 1 (.getfield 11) 3 4 := ⟨by decide +kernel, rfl⟩
theorem dX6_join_4 : DLi mX6_join 4 1 5 := Or.inl ⟨1, by decide +kernel, rfl, rfl⟩
theorem dX6_join_5 : DLa mX6_join 5 0 6 := Or.inl ⟨0, by decide +kernel, rfl, rfl⟩
theorem dX6_join_6 : D0 mX6_join 6 (.getfield 11) 3 9 := ⟨by decide +kernel, rfl⟩
theorem dX6_join_9 : DLi mX6_join 9 1 10 := Or.inl ⟨1, by decide +kernel, rfl, rfl⟩
theorem dX6_join_10 : D0 mX6_join 10 (.iaload) 1 11 := ⟨by decide +kernel, rfl⟩
theorem dX6_join_11 : DLa mX6_join 11 0 12 := Or.inl ⟨0, by decide +kernel, rfl, rfl⟩
theorem dX6_join_12 : D0 mX6_join 12 (.getfield 15) 3 15 := ⟨by decide +kernel, rfl⟩
theorem dX6_join_15 : DLi mX6_join 15 2 16 := Or.inl ⟨2, by decide +kernel, rfl, rfl⟩
theorem dX6_join_16 : D0 mX6_join 16 (.iaload) 1 17 := ⟨by decide +kernel, rfl⟩
theorem dX6_join_17 : DKi mX6_join 17 (nI 1) 18 := Or.inl ⟨1, by decide +kernel, by decide, rfl⟩
theorem dX6_join_18 : D0 mX6_join 18 (.iadd) 1 19 := ⟨by decide +kernel, rfl⟩
theorem dX6_join_19 : D0 mX6_join 19 (.invokestatic 53) 3 22 := ⟨by decide +kernel, rfl⟩
theorem dX6_join_22 : D0 mX6_join 22 (.iastore) 1 23 := ⟨by decide +kernel, rfl⟩
theorem dX6_join_23 : DLa mX6_join 23 0 24 := Or.inl ⟨0, by decide +kernel, rfl, rfl⟩
theorem dX6_join_24 : D0 mX6_join 24 (.getfield 11) 3 27 := ⟨by decide +kernel, rfl⟩
theorem dX6_join_27 : DLi mX6_join 27 2 28 := Or.inl ⟨2, by decide +kernel, rfl, rfl⟩
theorem dX6_join_28 : DLa mX6_join 28 0 29 := Or.inl ⟨0, by decide +kernel, rfl, rfl⟩
theorem dX6_join_29 : D0 mX6_join 29 (.getfield 11) 3 32 := ⟨by decide +kernel, rfl⟩
theorem dX6_join_32 : DLi mX6_join 32 2 33 := Or.inl ⟨2, by decide +kernel, rfl, rfl⟩
theorem dX6_join_33 : D0 mX6_join 33 (.iaload) 1 34 := ⟨by decide +kernel, rfl⟩
theorem dX6_join_34 : DLa mX6_join 34 0 35 := Or.inl ⟨0, by decide +kernel, rfl, rfl⟩
theorem dX6_join_35 : D0 mX6_join 35 (.getfield 15) 3 38 := ⟨by decide +kernel, rfl⟩
theorem dX6_join_38 : DLi mX6_join 38 1 39 := Or.inl ⟨1, by decide +kernel, rfl, rfl⟩
theorem dX6_join_39 : D0 mX6_join 39 (.iaload) 1 40 := ⟨by decide +kernel, rfl⟩
theorem dX6_join_40 : DKi mX6_join 40 (nI 1) 41 := Or.inl ⟨1, by decide +kernel, by decide, rfl⟩
theorem dX6_join_41 : D0 mX6_join 41 (.iadd) 1 42 := ⟨by decide +kernel, rfl⟩
theorem dX6_join_42 : D0 mX6_join 42 (.invokestatic 53) 3 45 := ⟨by decide +kernel, rfl⟩
theorem dX6_join_45 : D0 mX6_join 45 (.iastore) 1 46 := ⟨by decide +kernel, rfl⟩
theorem dX6_join_46 : D0 mX6_join 46 (.return_) 1 47 := ⟨by decide +kernel, rfl⟩
theorem dX6_isOn_0 : DLa mX6_isOn 0 0 1 := Or.inl ⟨0, by decide +kernel, rfl, rfl⟩
theorem dX6_isOn_1 : D0 mX6_isOn 1 (.getfield 11) 3 4 := ⟨by decide +kernel, rfl⟩
theorem dX6_isOn_4 : DKi mX6_isOn 4 (nI 8) 6 := Or.inr (Or.inl ⟨8, by decide +kernel, by decide, rfl⟩)
theorem dX6_isOn_6 : DLi mX6_isOn 6 1 7 := Or.inl ⟨1, by decide +kernel, rfl, rfl⟩
theorem dX6_isOn_7 : D0 mX6_isOn 7 (.iadd) 1 8 := ⟨by decide +kernel, rfl⟩
theorem dX6_isOn_8 : D0 mX6_isOn 8 (.iaload) 1 9 := ⟨by decide +kernel, rfl⟩
theorem dX6_isOn_9 : DKi mX6_isOn 9 (nI 1000) 12 := Or.inr (Or.inr (Or.inl ⟨1000, by decide +kernel, by decide, rfl⟩))
theorem dX6_isOn_12 : DCge mX6_isOn 12 19 15 := ⟨7, by decide +kernel, by decide, rfl⟩
theorem dX6_isOn_15 : DKi mX6_isOn 15 (nI 1) 16 := Or.inl ⟨1, by decide +kernel, by decide, rfl⟩
theorem dX6_isOn_16 : DG mX6_isOn 16 20 := ⟨4, by decide +kernel, by decide⟩
theorem dX6_isOn_19 : DKi mX6_isOn 19 (nI 0) 20 := Or.inl ⟨0, by decide +kernel, by decide, rfl⟩
theorem dX6_isOn_20 : D0 mX6_isOn 20 (.ireturn) 1 21 := ⟨by decide +kernel, rfl⟩
theorem dX6_stepsTo_0 : DLa mX6_stepsTo 0 0 1 := Or.inl ⟨0, by decide +kernel, rfl, rfl⟩
theorem dX6_stepsTo_1 : D0 mX6_stepsTo 1 (.getfield 11) 3 4 := ⟨by decide +kernel, rfl⟩
theorem dX6_stepsTo_4 : DKi mX6_stepsTo 4 (nI 8) 6 := Or.inr (Or.inl ⟨8, by decide +kernel, by decide, rfl⟩)
theorem dX6_stepsTo_6 : DLi mX6_stepsTo 6 1 7 := Or.inl ⟨1, by decide +kernel, rfl, rfl⟩
theorem dX6_stepsTo_7 : D0 mX6_stepsTo 7 (.iadd) 1 8 := ⟨by decide +kernel, rfl⟩
theorem dX6_stepsTo_8 : D0 mX6_stepsTo 8 (.iaload) 1 9 := ⟨by decide +kernel, rfl⟩
theorem dX6_stepsTo_9 : D0 mX6_stepsTo 9 (.ireturn) 1 10 := ⟨by decide +kernel, rfl⟩
theorem dX7_type_0 : DLi mX7_type 0 1 1 := Or.inl ⟨1, by decide +kernel, rfl, rfl⟩
theorem dX7_type_1 : DKi mX7_type 1 (nI 255) 4 := Or.inr (Or.inr (Or.inl ⟨255, by decide +kernel, by decide, rfl⟩))
theorem dX7_type_4 : D0 mX7_type 4 (.invokestatic 63) 3 7 := ⟨by decide +kernel, rfl⟩
theorem dX7_type_7 : DFne mX7_type 7 13 10 := ⟨6, by decide +kernel, by decide, rfl⟩
theorem dX7_type_10 : DKi mX7_type 10 ((-2)) 12 := Or.inr (Or.inl ⟨(-2), by decide +kernel, by decide, rfl⟩)
theorem dX7_type_12 : D0 mX7_type 12 (.ireturn) 1 13 := ⟨by decide +kernel, rfl⟩
theorem dX7_type_13 : DLa mX7_type 13 0 14 := Or.inl ⟨0, by decide +kernel, rfl, rfl⟩
theorem dX7_type_14 : D0 mX7_type 14 (.getfield 12) 3 17 := ⟨by decide +kernel, rfl⟩
theorem dX7_type_17 : DLi mX7_type 17 1 18 := Or.inl ⟨1, by decide +kernel, rfl, rfl⟩
theorem dX7_type_18 : D0 mX7_type 18 (.invokevirtual 67) 3 21 := ⟨by decide +kernel, rfl⟩
theorem dX7_type_21 : D0 mX7_type 21 (.ireturn) 1 22 := ⟨by decide +kernel, rfl⟩
theorem dX7_wipe_0 : DLa mX7_wipe 0 0 1 := Or.inl ⟨0, by decide +kernel, rfl, rfl⟩
theorem dX7_wipe_1 : D0 mX7_wipe 1 (.getfield 12) 3 4 := ⟨by decide +kernel, rfl⟩
theorem dX7_wipe_4 : D0 mX7_wipe 4 (.invokevirtual 71) 3 7 := ⟨by decide +kernel, rfl⟩
theorem dX7_wipe_7 : D0 mX7_wipe 7 (.ireturn) 1 8 := ⟨by decide +kernel, rfl⟩
theorem dX7_fault_0 : DLa mX7_fault 0 0 1 := Or.inl ⟨0, by decide +kernel, rfl, rfl⟩
theorem dX7_fault_1 : D0 mX7_fault 1 (.getfield 12) 3 4 := ⟨by decide +kernel, rfl⟩
theorem dX7_fault_4 : D0 mX7_fault 4 (.getfield 75) 3 7 := ⟨by decide +kernel, rfl⟩
theorem dX7_fault_7 : D0 mX7_fault 7 (.ireturn) 1 8 := ⟨by decide +kernel, rfl⟩
theorem dX7_place_0 : DLi mX7_place 0 1 1 := Or.inl ⟨1, by decide +kernel, rfl, rfl⟩
theorem dX7_place_1 : DKi mX7_place 1 (nI 7) 3 := Or.inr (Or.inl ⟨7, by decide +kernel, by decide, rfl⟩)
theorem dX7_place_3 : D0 mX7_place 3 (.invokestatic 63) 3 6 := ⟨by decide +kernel, rfl⟩
theorem dX7_place_6 : DFeq mX7_place 6 17 9 := ⟨11, by decide +kernel, by decide, rfl⟩
theorem dX7_place_9 : DLi mX7_place 9 2 10 := Or.inl ⟨2, by decide +kernel, rfl, rfl⟩
theorem dX7_place_10 : DKi mX7_place 10 (nI 2) 11 := Or.inl ⟨2, by decide +kernel, by decide, rfl⟩
theorem dX7_place_11 : D0 mX7_place 11 (.invokestatic 63) 3 14 := ⟨by decide +kernel, rfl⟩
theorem dX7_place_14 : DFne mX7_place 14 20 17 := ⟨6, by decide +kernel, by decide, rfl⟩
theorem dX7_place_17 : DKi mX7_place 17 ((-2)) 19 := Or.inr (Or.inl ⟨(-2), by decide +kernel, by decide, rfl⟩)
theorem dX7_place_19 : D0 mX7_place 19 (.ireturn) 1 20 := ⟨by decide +kernel, rfl⟩
theorem dX7_place_20 : DLi mX7_place 20 2 21 := Or.inl ⟨2, by decide +kernel, rfl, rfl⟩
theorem dX7_place_21 : DFne mX7_place 21 34 24 := ⟨13, by decide +kernel, by decide, rfl⟩
theorem dX7_place_24 : DLa mX7_place 24 0 25 := Or.inl ⟨0, by decide +kernel, rfl, rfl⟩
theorem dX7_place_25 : D0 mX7_place 25 (.getfield 12) 3 28 := ⟨by decide +kernel, rfl⟩
theorem dX7_place_28 : D0 mX7_place 28 (.getfield 79) 3 31 := ⟨by decide +kernel, rfl⟩
theorem dX7_place_31 : DLi mX7_place 31 1 32 := Or.inl ⟨1, by decide +kernel, rfl, rfl⟩
theorem dX7_place_32 : D0 mX7_place 32 (.iaload) 1 33 := ⟨by decide +kernel, rfl⟩
theorem dX7_place_33 : D0 mX7_place 33 (.ireturn) 1 34 := ⟨by decide +kernel, rfl⟩
theorem dX7_place_34 : DLi mX7_place 34 2 35 := Or.inl ⟨2, by decide +kernel, rfl, rfl⟩
theorem dX7_place_35 : DKi mX7_place 35 (nI 1) 36 := Or.inl ⟨1, by decide +kernel, by decide, rfl⟩
theorem dX7_place_36 : DCne mX7_place 36 53 39 := ⟨17, by decide +kernel, by decide, rfl⟩
theorem dX7_place_39 : DKi mX7_place 39 (nI 1) 40 := Or.inl ⟨1, by decide +kernel, by decide, rfl⟩
theorem dX7_place_40 : DLa mX7_place 40 0 41 := Or.inl ⟨0, by decide +kernel, rfl, rfl⟩
theorem dX7_place_41 : D0 mX7_place 41 (.getfield 12) 3 44 := ⟨by decide +kernel, rfl⟩
theorem dX7_place_44 : D0 mX7_place 44 (.getfield 83) 3 47 := ⟨by decide +kernel, rfl⟩
theorem dX7_place_47 : DLi mX7_place 47 1 48 := Or.inl ⟨1, by decide +kernel, rfl, rfl⟩
theorem dX7_place_48 : D0 mX7_place 48 (.iaload) 1 49 := ⟨by decide +kernel, rfl⟩
theorem dX7_place_49 : D0 mX7_place 49 (.isub) 1 50 := ⟨by decide +kernel, rfl⟩
theorem dX7_place_50 : DG mX7_place 50 62 := ⟨12, by decide +kernel, by decide⟩
theorem dX7_place_53 : DLa mX7_place 53 0 54 := Or.inl ⟨0, by decide +kernel, rfl, rfl⟩
theorem dX7_place_54 : D0 mX7_place 54 (.getfield 12) 3 57 := ⟨by decide +kernel, rfl⟩
theorem dX7_place_57 : D0 mX7_place 57 (.getfield 86) 3 60 := ⟨by decide +kernel, rfl⟩
theorem dX7_place_60 : DLi mX7_place 60 1 61 := Or.inl ⟨1, by decide +kernel, rfl, rfl⟩
theorem dX7_place_61 : D0 mX7_place 61 (.iaload) 1 62 := ⟨by decide +kernel, rfl⟩
theorem dX7_place_62 : D0 mX7_place 62 (.ireturn) 1 63 := ⟨by decide +kernel, rfl⟩
theorem dX7_bridge_0 : DLi mX7_bridge 0 1 1 := Or.inl ⟨1, by decide +kernel, rfl, rfl⟩
theorem dX7_bridge_1 : DKi mX7_bridge 1 (nI 7) 3 := Or.inr (Or.inl ⟨7, by decide +kernel, by decide, rfl⟩)
theorem dX7_bridge_3 : D0 mX7_bridge 3 (.invokestatic 63) 3 6 := ⟨by decide +kernel, rfl⟩
theorem dX7_bridge_6 : DFeq mX7_bridge 6 30 9 := ⟨24, by decide +kernel, by decide, rfl⟩
theorem dX7_bridge_9 : DLi mX7_bridge 9 2 10 := Or.inl ⟨2, by decide +kernel, rfl, rfl⟩
theorem dX7_bridge_10 : DKi mX7_bridge 10 (nI 7) 12 := Or.inr (Or.inl ⟨7, by decide +kernel, by decide, rfl⟩)
theorem dX7_bridge_12 : D0 mX7_bridge 12 (.invokestatic 63) 3 15 := ⟨by decide +kernel, rfl⟩
theorem dX7_bridge_15 : DFeq mX7_bridge 15 30 18 := ⟨15, by decide +kernel, by decide, rfl⟩
theorem dX7_bridge_18 : DLi mX7_bridge 18 1 19 := Or.inl ⟨1, by decide +kernel, rfl, rfl⟩
theorem dX7_bridge_19 : DLi mX7_bridge 19 2 20 := Or.inl ⟨2, by decide +kernel, rfl, rfl⟩
theorem dX7_bridge_20 : DCeq mX7_bridge 20 30 23 := ⟨10, by decide +kernel, by decide, rfl⟩
theorem dX7_bridge_23 : DLi mX7_bridge 23 3 24 := Or.inl ⟨3, by decide +kernel, rfl, rfl⟩
theorem dX7_bridge_24 : D0 mX7_bridge 24 (.invokestatic 89) 3 27 := ⟨by decide +kernel, rfl⟩
theorem dX7_bridge_27 : DFne mX7_bridge 27 33 30 := ⟨6, by decide +kernel, by decide, rfl⟩
theorem dX7_bridge_30 : DKi mX7_bridge 30 ((-2)) 32 := Or.inr (Or.inl ⟨(-2), by decide +kernel, by decide, rfl⟩)
theorem dX7_bridge_32 : D0 mX7_bridge 32 (.ireturn) 1 33 := ⟨by decide +kernel, rfl⟩
theorem dX7_bridge_33 : DKi mX7_bridge 33 (nI 0) 34 := Or.inl ⟨0, by decide +kernel, by decide, rfl⟩
theorem dX7_bridge_34 : DSi mX7_bridge 34 4 36 := ⟨by decide, Or.inr ⟨by decide +kernel, rfl⟩⟩
theorem dX7_bridge_36 : DLi mX7_bridge 36 4 38 := Or.inr ⟨by decide +kernel, rfl⟩
theorem dX7_bridge_38 : DLa mX7_bridge 38 0 39 := Or.inl ⟨0, by decide +kernel, rfl, rfl⟩
theorem dX7_bridge_39 : D0 mX7_bridge 39 (.getfield 12) 3 42 := ⟨by decide +kernel, rfl⟩
theorem dX7_bridge_42 : D0 mX7_bridge 42 (.getfield 93) 3 45 := ⟨by decide +kernel, rfl⟩
theorem dX7_bridge_45 : DCge mX7_bridge 45 97 48 := ⟨52, by decide +kernel, by decide, rfl⟩
theorem dX7_bridge_48 : DLi mX7_bridge 48 4 50 := Or.inr ⟨by decide +kernel, rfl⟩
theorem dX7_bridge_50 : DKi mX7_bridge 50 (nI 4) 51 := Or.inl ⟨4, by decide +kernel, by decide, rfl⟩
theorem dX7_bridge_51 : DCge mX7_bridge 51 97 54 := ⟨46, by decide +kernel, by decide, rfl⟩
theorem dX7_bridge_54 : DLa mX7_bridge 54 0 55 := Or.inl ⟨0, by decide +kernel, rfl, rfl⟩
theorem dX7_bridge_55 : D0 mX7_bridge 55 (.getfield 12) 3 58 := ⟨by decide +kernel, rfl⟩
theorem dX7_bridge_58 : DLi mX7_bridge 58 4 60 := Or.inr ⟨by decide +kernel, rfl⟩
theorem dX7_bridge_60 : DLi mX7_bridge 60 1 61 := Or.inl ⟨1, by decide +kernel, rfl, rfl⟩
theorem dX7_bridge_61 : DLi mX7_bridge 61 2 62 := Or.inl ⟨2, by decide +kernel, rfl, rfl⟩
theorem dX7_bridge_62 : D0 mX7_bridge 62 (.invokevirtual 96) 3 65 := ⟨by decide +kernel, rfl⟩
theorem dX7_bridge_65 : DFeq mX7_bridge 65 91 68 := ⟨26, by decide +kernel, by decide, rfl⟩
theorem dX7_bridge_68 : DLa mX7_bridge 68 0 69 := Or.inl ⟨0, by decide +kernel, rfl, rfl⟩
theorem dX7_bridge_69 : D0 mX7_bridge 69 (.getfield 12) 3 72 := ⟨by decide +kernel, rfl⟩
theorem dX7_bridge_72 : DLi mX7_bridge 72 4 74 := Or.inr ⟨by decide +kernel, rfl⟩
theorem dX7_bridge_74 : DLa mX7_bridge 74 0 75 := Or.inl ⟨0, by decide +kernel, rfl, rfl⟩
theorem dX7_bridge_75 : D0 mX7_bridge 75 (.getfield 21) 3 78 := ⟨by decide +kernel, rfl⟩
theorem dX7_bridge_78 : D0 mX7_bridge 78 (.getfield 100) 3 81 := ⟨by decide +kernel, rfl⟩
theorem dX7_bridge_81 : DLi mX7_bridge 81 3 82 := Or.inl ⟨3, by decide +kernel, rfl, rfl⟩
theorem dX7_bridge_82 : D0 mX7_bridge 82 (.iaload) 1 83 := ⟨by decide +kernel, rfl⟩
theorem dX7_bridge_83 : D0 mX7_bridge 83 (.invokevirtual 103) 3 86 := ⟨by decide +kernel, rfl⟩
theorem dX7_bridge_86 : DFeq mX7_bridge 86 91 89 := ⟨5, by decide +kernel, by decide, rfl⟩
theorem dX7_bridge_89 : DKi mX7_bridge 89 (nI 1) 90 := Or.inl ⟨1, by decide +kernel, by decide, rfl⟩
theorem dX7_bridge_90 : D0 mX7_bridge 90 (.ireturn) 1 91 := ⟨by decide +kernel, rfl⟩
theorem dX7_bridge_91 : DIn mX7_bridge 91 4 (nI 1) 94 := ⟨by decide, 1, by decide +kernel, by decide, rfl⟩
theorem dX7_bridge_94 : DG mX7_bridge 94 36 := ⟨(-58), by decide +kernel, by decide⟩
theorem dX7_bridge_97 : DKi mX7_bridge 97 (nI 0) 98 := Or.inl ⟨0, by decide +kernel, by decide, rfl⟩
theorem dX7_bridge_98 : D0 mX7_bridge 98 (.ireturn) 1 99 := ⟨by decide +kernel, rfl⟩
theorem dX7_gale_0 : DLi mX7_gale 0 1 1 := Or.inl ⟨1, by decide +kernel, rfl, rfl⟩
theorem dX7_gale_1 : D0 mX7_gale 1 (.invokestatic 89) 3 4 := ⟨by decide +kernel, rfl⟩
theorem dX7_gale_4 : DFeq mX7_gale 4 26 7 := ⟨22, by decide +kernel, by decide, rfl⟩
theorem dX7_gale_7 : DLi mX7_gale 7 2 8 := Or.inl ⟨2, by decide +kernel, rfl, rfl⟩
theorem dX7_gale_8 : DKi mX7_gale 8 (nI 1) 9 := Or.inl ⟨1, by decide +kernel, by decide, rfl⟩
theorem dX7_gale_9 : D0 mX7_gale 9 (.invokestatic 63) 3 12 := ⟨by decide +kernel, rfl⟩
theorem dX7_gale_12 : DFeq mX7_gale 12 26 15 := ⟨14, by decide +kernel, by decide, rfl⟩
theorem dX7_gale_15 : DLa mX7_gale 15 0 16 := Or.inl ⟨0, by decide +kernel, rfl, rfl⟩
theorem dX7_gale_16 : D0 mX7_gale 16 (.getfield 21) 3 19 := ⟨by decide +kernel, rfl⟩
theorem dX7_gale_19 : DLi mX7_gale 19 3 20 := Or.inl ⟨3, by decide +kernel, rfl, rfl⟩
theorem dX7_gale_20 : D0 mX7_gale 20 (.invokevirtual 106) 3 23 := ⟨by decide +kernel, rfl⟩
theorem dX7_gale_23 : DFne mX7_gale 23 29 26 := ⟨6, by decide +kernel, by decide, rfl⟩
theorem dX7_gale_26 : DKi mX7_gale 26 ((-2)) 28 := Or.inr (Or.inl ⟨(-2), by decide +kernel, by decide, rfl⟩)
theorem dX7_gale_28 : D0 mX7_gale 28 (.ireturn) 1 29 := ⟨by decide +kernel, rfl⟩
theorem dX7_gale_29 : DLa mX7_gale 29 0 30 := Or.inl ⟨0, by decide +kernel, rfl, rfl⟩
theorem dX7_gale_30 : D0 mX7_gale 30 (.getfield 21) 3 33 := ⟨by decide +kernel, rfl⟩
theorem dX7_gale_33 : DLi mX7_gale 33 1 34 := Or.inl ⟨1, by decide +kernel, rfl, rfl⟩
theorem dX7_gale_34 : DLi mX7_gale 34 2 35 := Or.inl ⟨2, by decide +kernel, rfl, rfl⟩
theorem dX7_gale_35 : DLi mX7_gale 35 3 36 := Or.inl ⟨3, by decide +kernel, rfl, rfl⟩
theorem dX7_gale_36 : D0 mX7_gale 36 (.invokevirtual 109) 3 39 := ⟨by decide +kernel, rfl⟩
theorem dX7_gale_39 : DFne mX7_gale 39 45 42 := ⟨6, by decide +kernel, by decide, rfl⟩
theorem dX7_gale_42 : DKi mX7_gale 42 ((-4)) 44 := Or.inr (Or.inl ⟨(-4), by decide +kernel, by decide, rfl⟩)
theorem dX7_gale_44 : D0 mX7_gale 44 (.ireturn) 1 45 := ⟨by decide +kernel, rfl⟩
theorem dX7_gale_45 : DLa mX7_gale 45 0 46 := Or.inl ⟨0, by decide +kernel, rfl, rfl⟩
theorem dX7_gale_46 : D0 mX7_gale 46 (.getfield 21) 3 49 := ⟨by decide +kernel, rfl⟩
theorem dX7_gale_49 : D0 mX7_gale 49 (.invokevirtual 112) 3 52 := ⟨by decide +kernel, rfl⟩
theorem dX7_gale_52 : DLa mX7_gale 52 0 53 := Or.inl ⟨0, by decide +kernel, rfl, rfl⟩
theorem dX7_gale_53 : D0 mX7_gale 53 (.getfield 21) 3 56 := ⟨by decide +kernel, rfl⟩
theorem dX7_gale_56 : D0 mX7_gale 56 (.getfield 115) 3 59 := ⟨by decide +kernel, rfl⟩
theorem dX7_gale_59 : DKi mX7_gale 59 (nI 1) 60 := Or.inl ⟨1, by decide +kernel, by decide, rfl⟩
theorem dX7_gale_60 : D0 mX7_gale 60 (.isub) 1 61 := ⟨by decide +kernel, rfl⟩
theorem dX7_gale_61 : D0 mX7_gale 61 (.ireturn) 1 62 := ⟨by decide +kernel, rfl⟩
theorem dX7_read_0 : DLi mX7_read 0 1 1 := Or.inl ⟨1, by decide +kernel, rfl, rfl⟩
theorem dX7_read_1 : D0 mX7_read 1 (.invokestatic 118) 3 4 := ⟨by decide +kernel, rfl⟩
theorem dX7_read_4 : DFeq mX7_read 4 18 7 := ⟨14, by decide +kernel, by decide, rfl⟩
theorem dX7_read_7 : DLa mX7_read 7 0 8 := Or.inl ⟨0, by decide +kernel, rfl, rfl⟩
theorem dX7_read_8 : D0 mX7_read 8 (.getfield 21) 3 11 := ⟨by decide +kernel, rfl⟩
theorem dX7_read_11 : DLi mX7_read 11 2 12 := Or.inl ⟨2, by decide +kernel, rfl, rfl⟩
theorem dX7_read_12 : D0 mX7_read 12 (.invokevirtual 106) 3 15 := ⟨by decide +kernel, rfl⟩
theorem dX7_read_15 : DFne mX7_read 15 21 18 := ⟨6, by decide +kernel, by decide, rfl⟩
theorem dX7_read_18 : DKi mX7_read 18 ((-2)) 20 := Or.inr (Or.inl ⟨(-2), by decide +kernel, by decide, rfl⟩)
theorem dX7_read_20 : D0 mX7_read 20 (.ireturn) 1 21 := ⟨by decide +kernel, rfl⟩
theorem dX7_read_21 : DLa mX7_read 21 0 22 := Or.inl ⟨0, by decide +kernel, rfl, rfl⟩
theorem dX7_read_22 : D0 mX7_read 22 (.getfield 58) 3 25 := ⟨by decide +kernel, rfl⟩
theorem dX7_read_25 : DLi mX7_read 25 1 26 := Or.inl ⟨1, by decide +kernel, rfl, rfl⟩
theorem dX7_read_26 : D0 mX7_read 26 (.aaload) 1 27 := ⟨by decide +kernel, rfl⟩
theorem dX7_read_27 : DSa mX7_read 27 3 28 := ⟨by decide, Or.inl ⟨3, by decide +kernel, rfl, rfl⟩⟩
theorem dX7_read_28 : DLa mX7_read 28 3 29 := Or.inl ⟨3, by decide +kernel, rfl, rfl⟩
theorem dX7_read_29 : D0 mX7_read 29 (.getfield 121) 3 32 := ⟨by decide +kernel, rfl⟩
theorem dX7_read_32 : DFeq mX7_read 32 41 35 := ⟨9, by decide +kernel, by decide, rfl⟩
theorem dX7_read_35 : DLa mX7_read 35 0 36 := Or.inl ⟨0, by decide +kernel, rfl, rfl⟩
theorem dX7_read_36 : DKi mX7_read 36 (nI 1) 37 := Or.inl ⟨1, by decide +kernel, by decide, rfl⟩
theorem dX7_read_37 : D0 mX7_read 37 (.invokevirtual 125) 3 40 := ⟨by decide +kernel, rfl⟩
theorem dX7_read_40 : D0 mX7_read 40 (.ireturn) 1 41 := ⟨by decide +kernel, rfl⟩
theorem dX7_read_41 : DKi mX7_read 41 (nI 0) 42 := Or.inl ⟨0, by decide +kernel, by decide, rfl⟩
theorem dX7_read_42 : DSi mX7_read 42 4 44 := ⟨by decide, Or.inr ⟨by decide +kernel, rfl⟩⟩
theorem dX7_read_44 : DKi mX7_read 44 (nI 0) 45 := Or.inl ⟨0, by decide +kernel, by decide, rfl⟩
theorem dX7_read_45 : DSi mX7_read 45 5 47 := ⟨by decide, Or.inr ⟨by decide +kernel, rfl⟩⟩
theorem dX7_read_47 : DLi mX7_read 47 5 49 := Or.inr ⟨by decide +kernel, rfl⟩
theorem dX7_read_49 : DLa mX7_read 49 3 50 := Or.inl ⟨3, by decide +kernel, rfl, rfl⟩
theorem dX7_read_50 : D0 mX7_read 50 (.getfield 128) 3 53 := ⟨by decide +kernel, rfl⟩
theorem dX7_read_53 : DCge mX7_read 53 91 56 := ⟨38, by decide +kernel, by decide, rfl⟩
theorem dX7_read_56 : DLi mX7_read 56 5 58 := Or.inr ⟨by decide +kernel, rfl⟩
theorem dX7_read_58 : DKi mX7_read 58 (nI 60) 60 := Or.inr (Or.inl ⟨60, by decide +kernel, by decide, rfl⟩)
theorem dX7_read_60 : DCge mX7_read 60 91 63 := ⟨31, by decide +kernel, by decide, rfl⟩
theorem dX7_read_63 : DLa mX7_read 63 0 64 := Or.inl ⟨0, by decide +kernel, rfl, rfl⟩
theorem dX7_read_64 : DLa mX7_read 64 3 65 := Or.inl ⟨3, by decide +kernel, rfl, rfl⟩
theorem dX7_read_65 : D0 mX7_read 65 (.getfield 131) 3 68 := ⟨by decide +kernel, rfl⟩
theorem dX7_read_68 : DLi mX7_read 68 5 70 := Or.inr ⟨by decide +kernel, rfl⟩
theorem dX7_read_70 : D0 mX7_read 70 (.iaload) 1 71 := ⟨by decide +kernel, rfl⟩
theorem dX7_read_71 : DKi mX7_read 71 (nI 0) 72 := Or.inl ⟨0, by decide +kernel, by decide, rfl⟩
theorem dX7_read_72 : DLi mX7_read 72 2 73 := Or.inl ⟨2, by decide +kernel, rfl, rfl⟩
theorem dX7_read_73 : D0 mX7_read 73 (.invokevirtual 134) 3 76 := ⟨by decide +kernel, rfl⟩
theorem dX7_read_76 : DFge mX7_read 76 82 79 := ⟨6, by decide +kernel, by decide, rfl⟩
theorem dX7_read_79 : DG mX7_read 79 91 := ⟨12, by decide +kernel, by decide⟩
theorem dX7_read_82 : DIn mX7_read 82 4 (nI 1) 85 := ⟨by decide, 1, by decide +kernel, by decide, rfl⟩
theorem dX7_read_85 : DIn mX7_read 85 5 (nI 1) 88 := ⟨by decide, 1, by decide +kernel, by decide, rfl⟩
theorem dX7_read_88 : DG mX7_read 88 47 := ⟨(-41), by decide +kernel, by decide⟩
theorem dX7_read_91 : DLi mX7_read 91 4 93 := Or.inr ⟨by decide +kernel, rfl⟩
theorem dX7_read_93 : D0 mX7_read 93 (.ireturn) 1 94 := ⟨by decide +kernel, rfl⟩
theorem dX7_takeBack_0 : DLi mX7_takeBack 0 1 1 := Or.inl ⟨1, by decide +kernel, rfl, rfl⟩
theorem dX7_takeBack_1 : DLa mX7_takeBack 1 0 2 := Or.inl ⟨0, by decide +kernel, rfl, rfl⟩
theorem dX7_takeBack_2 : D0 mX7_takeBack 2 (.getfield 21) 3 5 := ⟨by decide +kernel, rfl⟩
theorem dX7_takeBack_5 : D0 mX7_takeBack 5 (.getfield 115) 3 8 := ⟨by decide +kernel, rfl⟩
theorem dX7_takeBack_8 : DKi mX7_takeBack 8 (nI 1) 9 := Or.inl ⟨1, by decide +kernel, by decide, rfl⟩
theorem dX7_takeBack_9 : D0 mX7_takeBack 9 (.isub) 1 10 := ⟨by decide +kernel, rfl⟩
theorem dX7_takeBack_10 : D0 mX7_takeBack 10 (.invokestatic 63) 3 13 := ⟨by decide +kernel, rfl⟩
theorem dX7_takeBack_13 : DFeq mX7_takeBack 13 27 16 := ⟨14, by decide +kernel, by decide, rfl⟩
theorem dX7_takeBack_16 : DLa mX7_takeBack 16 0 17 := Or.inl ⟨0, by decide +kernel, rfl, rfl⟩
theorem dX7_takeBack_17 : D0 mX7_takeBack 17 (.getfield 21) 3 20 := ⟨by decide +kernel, rfl⟩
theorem dX7_takeBack_20 : DLi mX7_takeBack 20 2 21 := Or.inl ⟨2, by decide +kernel, rfl, rfl⟩
theorem dX7_takeBack_21 : D0 mX7_takeBack 21 (.invokevirtual 106) 3 24 := ⟨by decide +kernel, rfl⟩
theorem dX7_takeBack_24 : DFne mX7_takeBack 24 30 27 := ⟨6, by decide +kernel, by decide, rfl⟩
theorem dX7_takeBack_27 : DKi mX7_takeBack 27 ((-2)) 29 := Or.inr (Or.inl ⟨(-2), by decide +kernel, by decide, rfl⟩)
theorem dX7_takeBack_29 : D0 mX7_takeBack 29 (.ireturn) 1 30 := ⟨by decide +kernel, rfl⟩
theorem dX7_takeBack_30 : DLa mX7_takeBack 30 0 31 := Or.inl ⟨0, by decide +kernel, rfl, rfl⟩
theorem dX7_takeBack_31 : D0 mX7_takeBack 31 (.getfield 21) 3 34 := ⟨by decide +kernel, rfl⟩
theorem dX7_takeBack_34 : DLi mX7_takeBack 34 1 35 := Or.inl ⟨1, by decide +kernel, rfl, rfl⟩
theorem dX7_takeBack_35 : D0 mX7_takeBack 35 (.invokevirtual 138) 3 38 := ⟨by decide +kernel, rfl⟩
theorem dX7_takeBack_38 : DFeq mX7_takeBack 38 44 41 := ⟨6, by decide +kernel, by decide, rfl⟩
theorem dX7_takeBack_41 : DKi mX7_takeBack 41 ((-3)) 43 := Or.inr (Or.inl ⟨(-3), by decide +kernel, by decide, rfl⟩)
theorem dX7_takeBack_43 : D0 mX7_takeBack 43 (.ireturn) 1 44 := ⟨by decide +kernel, rfl⟩
theorem dX7_takeBack_44 : DLa mX7_takeBack 44 0 45 := Or.inl ⟨0, by decide +kernel, rfl, rfl⟩
theorem dX7_takeBack_45 : D0 mX7_takeBack 45 (.getfield 21) 3 48 := ⟨by decide +kernel, rfl⟩
theorem dX7_takeBack_48 : DLi mX7_takeBack 48 1 49 := Or.inl ⟨1, by decide +kernel, rfl, rfl⟩
theorem dX7_takeBack_49 : DLi mX7_takeBack 49 2 50 := Or.inl ⟨2, by decide +kernel, rfl, rfl⟩
theorem dX7_takeBack_50 : D0 mX7_takeBack 50 (.invokevirtual 141) 3 53 := ⟨by decide +kernel, rfl⟩
theorem dX7_takeBack_53 : DLa mX7_takeBack 53 0 54 := Or.inl ⟨0, by decide +kernel, rfl, rfl⟩
theorem dX7_takeBack_54 : D0 mX7_takeBack 54 (.getfield 21) 3 57 := ⟨by decide +kernel, rfl⟩
theorem dX7_takeBack_57 : D0 mX7_takeBack 57 (.invokevirtual 112) 3 60 := ⟨by decide +kernel, rfl⟩
theorem dX7_takeBack_60 : DKi mX7_takeBack 60 (nI 1) 61 := Or.inl ⟨1, by decide +kernel, by decide, rfl⟩
theorem dX7_takeBack_61 : D0 mX7_takeBack 61 (.ireturn) 1 62 := ⟨by decide +kernel, rfl⟩
theorem dX7_set_0 : DLi mX7_set 0 1 1 := Or.inl ⟨1, by decide +kernel, rfl, rfl⟩
theorem dX7_set_1 : DKi mX7_set 1 (nI 2) 2 := Or.inl ⟨2, by decide +kernel, by decide, rfl⟩
theorem dX7_set_2 : D0 mX7_set 2 (.invokestatic 63) 3 5 := ⟨by decide +kernel, rfl⟩
theorem dX7_set_5 : DFeq mX7_set 5 27 8 := ⟨22, by decide +kernel, by decide, rfl⟩
theorem dX7_set_8 : DLi mX7_set 8 2 9 := Or.inl ⟨2, by decide +kernel, rfl, rfl⟩
theorem dX7_set_9 : DLi mX7_set 9 1 10 := Or.inl ⟨1, by decide +kernel, rfl, rfl⟩
theorem dX7_set_10 : DFne mX7_set 10 19 13 := ⟨9, by decide +kernel, by decide, rfl⟩
theorem dX7_set_13 : DKi mX7_set 13 (nI 999) 16 := Or.inr (Or.inr (Or.inl ⟨999, by decide +kernel, by decide, rfl⟩))
theorem dX7_set_16 : DG mX7_set 16 21 := ⟨5, by decide +kernel, by decide⟩
theorem dX7_set_19 : DKi mX7_set 19 (nI 7) 21 := Or.inr (Or.inl ⟨7, by decide +kernel, by decide, rfl⟩)
theorem dX7_set_21 : D0 mX7_set 21 (.invokestatic 63) 3 24 := ⟨by decide +kernel, rfl⟩
theorem dX7_set_24 : DFne mX7_set 24 30 27 := ⟨6, by decide +kernel, by decide, rfl⟩
theorem dX7_set_27 : DKi mX7_set 27 ((-5)) 29 := Or.inr (Or.inl ⟨(-5), by decide +kernel, by decide, rfl⟩)
theorem dX7_set_29 : D0 mX7_set 29 (.ireturn) 1 30 := ⟨by decide +kernel, rfl⟩
theorem dX7_set_30 : DLa mX7_set 30 0 31 := Or.inl ⟨0, by decide +kernel, rfl, rfl⟩
theorem dX7_set_31 : D0 mX7_set 31 (.getfield 21) 3 34 := ⟨by decide +kernel, rfl⟩
theorem dX7_set_34 : DLi mX7_set 34 1 35 := Or.inl ⟨1, by decide +kernel, rfl, rfl⟩
theorem dX7_set_35 : DLi mX7_set 35 2 36 := Or.inl ⟨2, by decide +kernel, rfl, rfl⟩
theorem dX7_set_36 : D0 mX7_set 36 (.invokevirtual 145) 3 39 := ⟨by decide +kernel, rfl⟩
theorem dX7_set_39 : DSi mX7_set 39 3 40 := ⟨by decide, Or.inl ⟨3, by decide +kernel, rfl, rfl⟩⟩
theorem dX7_set_40 : DLa mX7_set 40 0 41 := Or.inl ⟨0, by decide +kernel, rfl, rfl⟩
theorem dX7_set_41 : D0 mX7_set 41 (.getfield 21) 3 44 := ⟨by decide +kernel, rfl⟩
theorem dX7_set_44 : D0 mX7_set 44 (.invokevirtual 112) 3 47 := ⟨by decide +kernel, rfl⟩
theorem dX7_set_47 : DLi mX7_set 47 3 48 := Or.inl ⟨3, by decide +kernel, rfl, rfl⟩
theorem dX7_set_48 : D0 mX7_set 48 (.ireturn) 1 49 := ⟨by decide +kernel, rfl⟩
theorem dX7_sun_0 : DLi mX7_sun 0 1 1 := Or.inl ⟨1, by decide +kernel, rfl, rfl⟩
theorem dX7_sun_1 : DKi mX7_sun 1 (nI 7) 3 := Or.inr (Or.inl ⟨7, by decide +kernel, by decide, rfl⟩)
theorem dX7_sun_3 : D0 mX7_sun 3 (.invokestatic 63) 3 6 := ⟨by decide +kernel, rfl⟩
theorem dX7_sun_6 : DFeq mX7_sun 6 18 9 := ⟨12, by decide +kernel, by decide, rfl⟩
theorem dX7_sun_9 : DLi mX7_sun 9 2 10 := Or.inl ⟨2, by decide +kernel, rfl, rfl⟩
theorem dX7_sun_10 : DKi mX7_sun 10 (nI 9) 12 := Or.inr (Or.inl ⟨9, by decide +kernel, by decide, rfl⟩)
theorem dX7_sun_12 : D0 mX7_sun 12 (.invokestatic 63) 3 15 := ⟨by decide +kernel, rfl⟩
theorem dX7_sun_15 : DFne mX7_sun 15 21 18 := ⟨6, by decide +kernel, by decide, rfl⟩
theorem dX7_sun_18 : DKi mX7_sun 18 ((-2)) 20 := Or.inr (Or.inl ⟨(-2), by decide +kernel, by decide, rfl⟩)
theorem dX7_sun_20 : D0 mX7_sun 20 (.ireturn) 1 21 := ⟨by decide +kernel, rfl⟩
theorem dX7_sun_21 : DLa mX7_sun 21 0 22 := Or.inl ⟨0, by decide +kernel, rfl, rfl⟩
theorem dX7_sun_22 : D0 mX7_sun 22 (.getfield 12) 3 25 := ⟨by decide +kernel, rfl⟩
theorem dX7_sun_25 : D0 mX7_sun 25 (.getfield 86) 3 28 := ⟨by decide +kernel, rfl⟩
theorem dX7_sun_28 : DLi mX7_sun 28 1 29 := Or.inl ⟨1, by decide +kernel, rfl, rfl⟩
theorem dX7_sun_29 : D0 mX7_sun 29 (.iaload) 1 30 := ⟨by decide +kernel, rfl⟩
theorem dX7_sun_30 : DSi mX7_sun 30 3 31 := ⟨by decide, Or.inl ⟨3, by decide +kernel, rfl, rfl⟩⟩
theorem dX7_sun_31 : DLa mX7_sun 31 0 32 := Or.inl ⟨0, by decide +kernel, rfl, rfl⟩
theorem dX7_sun_32 : D0 mX7_sun 32 (.getfield 12) 3 35 := ⟨by decide +kernel, rfl⟩
theorem dX7_sun_35 : D0 mX7_sun 35 (.getfield 86) 3 38 := ⟨by decide +kernel, rfl⟩
theorem dX7_sun_38 : DLi mX7_sun 38 1 39 := Or.inl ⟨1, by decide +kernel, rfl, rfl⟩
theorem dX7_sun_39 : DLi mX7_sun 39 2 40 := Or.inl ⟨2, by decide +kernel, rfl, rfl⟩
theorem dX7_sun_40 : D0 mX7_sun 40 (.iastore) 1 41 := ⟨by decide +kernel, rfl⟩
theorem dX7_sun_41 : DLi mX7_sun 41 3 42 := Or.inl ⟨3, by decide +kernel, rfl, rfl⟩
theorem dX7_sun_42 : D0 mX7_sun 42 (.ireturn) 1 43 := ⟨by decide +kernel, rfl⟩
end
section
theorem dX7_turn_0 : DLi mX7_turn 0 1 1 := Or.inl ⟨1, by decide +kernel, rfl, rfl⟩
theorem dX7_turn_1 : D0 mX7_turn 1 (.invokestatic 89) 3 4 := ⟨by decide +kernel, rfl⟩
theorem dX7_turn_4 : DFeq mX7_turn 4 19 7 := ⟨15, by decide +kernel, by decide, rfl⟩
theorem dX7_turn_7 : DLa mX7_turn 7 0 8 := Or.inl ⟨0, by decide +kernel, rfl, rfl⟩
theorem dX7_turn_8 : D0 mX7_turn 8 (.getfield 21) 3 11 := ⟨by decide +kernel, rfl⟩
theorem dX7_turn_11 : D0 mX7_turn 11 (.getfield 100) 3 14 := ⟨by decide +kernel, rfl⟩
theorem dX7_turn_14 : DLi mX7_turn 14 1 15 := Or.inl ⟨1, by decide +kernel, rfl, rfl⟩
theorem dX7_turn_15 : D0 mX7_turn 15 (.iaload) 1 16 := ⟨by decide +kernel, rfl⟩
theorem dX7_turn_16 : DG mX7_turn 16 21 := ⟨5, by decide +kernel, by decide⟩
theorem dX7_turn_19 : DKi mX7_turn 19 ((-2)) 21 := Or.inr (Or.inl ⟨(-2), by decide +kernel, by decide, rfl⟩)
theorem dX7_turn_21 : D0 mX7_turn 21 (.ireturn) 1 22 := ⟨by decide +kernel, rfl⟩
theorem dX7_door_0 : DLi mX7_door 0 1 1 := Or.inl ⟨1, by decide +kernel, rfl, rfl⟩
theorem dX7_door_1 : DKi mX7_door 1 (nI 7) 3 := Or.inr (Or.inl ⟨7, by decide +kernel, by decide, rfl⟩)
theorem dX7_door_3 : D0 mX7_door 3 (.invokestatic 63) 3 6 := ⟨by decide +kernel, rfl⟩
theorem dX7_door_6 : DFeq mX7_door 6 24 9 := ⟨18, by decide +kernel, by decide, rfl⟩
theorem dX7_door_9 : DLi mX7_door 9 2 10 := Or.inl ⟨2, by decide +kernel, rfl, rfl⟩
theorem dX7_door_10 : D0 mX7_door 10 (.invokestatic 89) 3 13 := ⟨by decide +kernel, rfl⟩
theorem dX7_door_13 : DFeq mX7_door 13 24 16 := ⟨11, by decide +kernel, by decide, rfl⟩
theorem dX7_door_16 : DLi mX7_door 16 3 17 := Or.inl ⟨3, by decide +kernel, rfl, rfl⟩
theorem dX7_door_17 : DKi mX7_door 17 (nI 2) 18 := Or.inl ⟨2, by decide +kernel, by decide, rfl⟩
theorem dX7_door_18 : D0 mX7_door 18 (.invokestatic 63) 3 21 := ⟨by decide +kernel, rfl⟩
theorem dX7_door_21 : DFne mX7_door 21 27 24 := ⟨6, by decide +kernel, by decide, rfl⟩
theorem dX7_door_24 : DKi mX7_door 24 ((-2)) 26 := Or.inr (Or.inl ⟨(-2), by decide +kernel, by decide, rfl⟩)
theorem dX7_door_26 : D0 mX7_door 26 (.ireturn) 1 27 := ⟨by decide +kernel, rfl⟩
theorem dX7_door_27 : DLi mX7_door 27 1 28 := Or.inl ⟨1, by decide +kernel, rfl, rfl⟩
theorem dX7_door_28 : DLa mX7_door 28 0 29 := Or.inl ⟨0, by decide +kernel, rfl, rfl⟩
theorem dX7_door_29 : D0 mX7_door 29 (.getfield 21) 3 32 := ⟨by decide +kernel, rfl⟩
theorem dX7_door_32 : D0 mX7_door 32 (.getfield 100) 3 35 := ⟨by decide +kernel, rfl⟩
theorem dX7_door_35 : DLi mX7_door 35 2 36 := Or.inl ⟨2, by decide +kernel, rfl, rfl⟩
theorem dX7_door_36 : D0 mX7_door 36 (.iaload) 1 37 := ⟨by decide +kernel, rfl⟩
theorem dX7_door_37 : D0 mX7_door 37 (.iadd) 1 38 := ⟨by decide +kernel, rfl⟩
theorem dX7_door_38 : DKi mX7_door 38 (nI 7) 40 := Or.inr (Or.inl ⟨7, by decide +kernel, by decide, rfl⟩)
theorem dX7_door_40 : D0 mX7_door 40 (.iand) 1 41 := ⟨by decide +kernel, rfl⟩
theorem dX7_door_41 : DSi mX7_door 41 4 43 := ⟨by decide, Or.inr ⟨by decide +kernel, rfl⟩⟩
theorem dX7_door_43 : DLi mX7_door 43 3 44 := Or.inl ⟨3, by decide +kernel, rfl, rfl⟩
theorem dX7_door_44 : DFne mX7_door 44 50 47 := ⟨6, by decide +kernel, by decide, rfl⟩
theorem dX7_door_47 : DLi mX7_door 47 4 49 := Or.inr ⟨by decide +kernel, rfl⟩
theorem dX7_door_49 : D0 mX7_door 49 (.ireturn) 1 50 := ⟨by decide +kernel, rfl⟩
theorem dX7_door_50 : DLi mX7_door 50 3 51 := Or.inl ⟨3, by decide +kernel, rfl, rfl⟩
theorem dX7_door_51 : DKi mX7_door 51 (nI 1) 52 := Or.inl ⟨1, by decide +kernel, by decide, rfl⟩
theorem dX7_door_52 : DCne mX7_door 52 68 55 := ⟨16, by decide +kernel, by decide, rfl⟩
theorem dX7_door_55 : DLa mX7_door 55 0 56 := Or.inl ⟨0, by decide +kernel, rfl, rfl⟩
theorem dX7_door_56 : D0 mX7_door 56 (.getfield 12) 3 59 := ⟨by decide +kernel, rfl⟩
theorem dX7_door_59 : D0 mX7_door 59 (.getfield 79) 3 62 := ⟨by decide +kernel, rfl⟩
theorem dX7_door_62 : DLi mX7_door 62 4 64 := Or.inr ⟨by decide +kernel, rfl⟩
theorem dX7_door_64 : D0 mX7_door 64 (.iaload) 1 65 := ⟨by decide +kernel, rfl⟩
theorem dX7_door_65 : DG mX7_door 65 78 := ⟨13, by decide +kernel, by decide⟩
theorem dX7_door_68 : DLa mX7_door 68 0 69 := Or.inl ⟨0, by decide +kernel, rfl, rfl⟩
theorem dX7_door_69 : D0 mX7_door 69 (.getfield 12) 3 72 := ⟨by decide +kernel, rfl⟩
theorem dX7_door_72 : D0 mX7_door 72 (.getfield 86) 3 75 := ⟨by decide +kernel, rfl⟩
theorem dX7_door_75 : DLi mX7_door 75 4 77 := Or.inr ⟨by decide +kernel, rfl⟩
theorem dX7_door_77 : D0 mX7_door 77 (.iaload) 1 78 := ⟨by decide +kernel, rfl⟩
theorem dX7_door_78 : D0 mX7_door 78 (.ireturn) 1 79 := ⟨by decide +kernel, rfl⟩
theorem dX7_share_0 : DLi mX7_share 0 1 1 := Or.inl ⟨1, by decide +kernel, rfl, rfl⟩
theorem dX7_share_1 : DKi mX7_share 1 (nI 7) 3 := Or.inr (Or.inl ⟨7, by decide +kernel, by decide, rfl⟩)
theorem dX7_share_3 : D0 mX7_share 3 (.invokestatic 63) 3 6 := ⟨by decide +kernel, rfl⟩
theorem dX7_share_6 : DFeq mX7_share 6 34 9 := ⟨28, by decide +kernel, by decide, rfl⟩
theorem dX7_share_9 : DLi mX7_share 9 2 10 := Or.inl ⟨2, by decide +kernel, rfl, rfl⟩
theorem dX7_share_10 : D0 mX7_share 10 (.invokestatic 149) 3 13 := ⟨by decide +kernel, rfl⟩
theorem dX7_share_13 : DFeq mX7_share 13 34 16 := ⟨21, by decide +kernel, by decide, rfl⟩
theorem dX7_share_16 : DLi mX7_share 16 3 17 := Or.inl ⟨3, by decide +kernel, rfl, rfl⟩
theorem dX7_share_17 : DLi mX7_share 17 4 19 := Or.inr ⟨by decide +kernel, rfl⟩
theorem dX7_share_19 : D0 mX7_share 19 (.invokestatic 152) 3 22 := ⟨by decide +kernel, rfl⟩
theorem dX7_share_22 : DFeq mX7_share 22 34 25 := ⟨12, by decide +kernel, by decide, rfl⟩
theorem dX7_share_25 : DLi mX7_share 25 5 27 := Or.inr ⟨by decide +kernel, rfl⟩
theorem dX7_share_27 : DKi mX7_share 27 (nI 1) 28 := Or.inl ⟨1, by decide +kernel, by decide, rfl⟩
theorem dX7_share_28 : D0 mX7_share 28 (.invokestatic 63) 3 31 := ⟨by decide +kernel, rfl⟩
theorem dX7_share_31 : DFne mX7_share 31 38 34 := ⟨7, by decide +kernel, by decide, rfl⟩
theorem dX7_share_34 : DKl mX7_share 34 ((-9223372036854775806)) 37 := Or.inr ⟨155, by decide +kernel, bt320, rfl⟩
theorem dX7_share_37 : D0 mX7_share 37 (.lreturn) 1 38 := ⟨by decide +kernel, rfl⟩
theorem dX7_share_38 : DLa mX7_share 38 0 39 := Or.inl ⟨0, by decide +kernel, rfl, rfl⟩
theorem dX7_share_39 : D0 mX7_share 39 (.getfield 21) 3 42 := ⟨by decide +kernel, rfl⟩
theorem dX7_share_42 : DLi mX7_share 42 3 43 := Or.inl ⟨3, by decide +kernel, rfl, rfl⟩
theorem dX7_share_43 : DLi mX7_share 43 4 45 := Or.inr ⟨by decide +kernel, rfl⟩
theorem dX7_share_45 : D0 mX7_share 45 (.invokevirtual 157) 3 48 := ⟨by decide +kernel, rfl⟩
theorem dX7_share_48 : DLa mX7_share 48 0 49 := Or.inl ⟨0, by decide +kernel, rfl, rfl⟩
theorem dX7_share_49 : DLi mX7_share 49 1 50 := Or.inl ⟨1, by decide +kernel, rfl, rfl⟩
theorem dX7_share_50 : DLi mX7_share 50 2 51 := Or.inl ⟨2, by decide +kernel, rfl, rfl⟩
theorem dX7_share_51 : D0 mX7_share 51 (.invokevirtual 160) 3 54 := ⟨by decide +kernel, rfl⟩
theorem dX7_share_54 : D0 mX7_share 54 (.i2l) 1 55 := ⟨by decide +kernel, rfl⟩
theorem dX7_share_55 : DLi mX7_share 55 4 57 := Or.inr ⟨by decide +kernel, rfl⟩
theorem dX7_share_57 : DLi mX7_share 57 3 58 := Or.inl ⟨3, by decide +kernel, rfl, rfl⟩
theorem dX7_share_58 : D0 mX7_share 58 (.isub) 1 59 := ⟨by decide +kernel, rfl⟩
theorem dX7_share_59 : DKi mX7_share 59 (nI 1) 60 := Or.inl ⟨1, by decide +kernel, by decide, rfl⟩
theorem dX7_share_60 : D0 mX7_share 60 (.iadd) 1 61 := ⟨by decide +kernel, rfl⟩
theorem dX7_share_61 : D0 mX7_share 61 (.i2l) 1 62 := ⟨by decide +kernel, rfl⟩
theorem dX7_share_62 : DLi mX7_share 62 5 64 := Or.inr ⟨by decide +kernel, rfl⟩
theorem dX7_share_64 : D0 mX7_share 64 (.invokestatic 163) 3 67 := ⟨by decide +kernel, rfl⟩
theorem dX7_share_67 : D0 mX7_share 67 (.lreturn) 1 68 := ⟨by decide +kernel, rfl⟩
theorem dX7_shine_0 : DLi mX7_shine 0 1 1 := Or.inl ⟨1, by decide +kernel, rfl, rfl⟩
theorem dX7_shine_1 : DKi mX7_shine 1 (nI 7) 3 := Or.inr (Or.inl ⟨7, by decide +kernel, by decide, rfl⟩)
theorem dX7_shine_3 : D0 mX7_shine 3 (.invokestatic 63) 3 6 := ⟨by decide +kernel, rfl⟩
theorem dX7_shine_6 : DFeq mX7_shine 6 17 9 := ⟨11, by decide +kernel, by decide, rfl⟩
theorem dX7_shine_9 : DLi mX7_shine 9 2 10 := Or.inl ⟨2, by decide +kernel, rfl, rfl⟩
theorem dX7_shine_10 : DLi mX7_shine 10 3 11 := Or.inl ⟨3, by decide +kernel, rfl, rfl⟩
theorem dX7_shine_11 : D0 mX7_shine 11 (.invokestatic 152) 3 14 := ⟨by decide +kernel, rfl⟩
theorem dX7_shine_14 : DFne mX7_shine 14 20 17 := ⟨6, by decide +kernel, by decide, rfl⟩
theorem dX7_shine_17 : DKi mX7_shine 17 ((-2)) 19 := Or.inr (Or.inl ⟨(-2), by decide +kernel, by decide, rfl⟩)
theorem dX7_shine_19 : D0 mX7_shine 19 (.ireturn) 1 20 := ⟨by decide +kernel, rfl⟩
theorem dX7_shine_20 : DLa mX7_shine 20 0 21 := Or.inl ⟨0, by decide +kernel, rfl, rfl⟩
theorem dX7_shine_21 : D0 mX7_shine 21 (.getfield 21) 3 24 := ⟨by decide +kernel, rfl⟩
theorem dX7_shine_24 : DLi mX7_shine 24 2 25 := Or.inl ⟨2, by decide +kernel, rfl, rfl⟩
theorem dX7_shine_25 : DLi mX7_shine 25 3 26 := Or.inl ⟨3, by decide +kernel, rfl, rfl⟩
theorem dX7_shine_26 : D0 mX7_shine 26 (.invokevirtual 157) 3 29 := ⟨by decide +kernel, rfl⟩
theorem dX7_shine_29 : DKi mX7_shine 29 (nI 0) 30 := Or.inl ⟨0, by decide +kernel, by decide, rfl⟩
theorem dX7_shine_30 : DSi mX7_shine 30 4 32 := ⟨by decide, Or.inr ⟨by decide +kernel, rfl⟩⟩
theorem dX7_shine_32 : DKi mX7_shine 32 (nI 0) 33 := Or.inl ⟨0, by decide +kernel, by decide, rfl⟩
theorem dX7_shine_33 : DSi mX7_shine 33 5 35 := ⟨by decide, Or.inr ⟨by decide +kernel, rfl⟩⟩
theorem dX7_shine_35 : DLi mX7_shine 35 5 37 := Or.inr ⟨by decide +kernel, rfl⟩
theorem dX7_shine_37 : DKi mX7_shine 37 (nI 8) 39 := Or.inr (Or.inl ⟨8, by decide +kernel, by decide, rfl⟩)
theorem dX7_shine_39 : DCge mX7_shine 39 79 42 := ⟨40, by decide +kernel, by decide, rfl⟩
theorem dX7_shine_42 : DLi mX7_shine 42 4 44 := Or.inr ⟨by decide +kernel, rfl⟩
theorem dX7_shine_44 : DLa mX7_shine 44 0 45 := Or.inl ⟨0, by decide +kernel, rfl, rfl⟩
theorem dX7_shine_45 : D0 mX7_shine 45 (.getfield 21) 3 48 := ⟨by decide +kernel, rfl⟩
theorem dX7_shine_48 : D0 mX7_shine 48 (.getfield 167) 3 51 := ⟨by decide +kernel, rfl⟩
theorem dX7_shine_51 : DLi mX7_shine 51 5 53 := Or.inr ⟨by decide +kernel, rfl⟩
theorem dX7_shine_53 : D0 mX7_shine 53 (.iaload) 1 54 := ⟨by decide +kernel, rfl⟩
theorem dX7_shine_54 : DLa mX7_shine 54 0 55 := Or.inl ⟨0, by decide +kernel, rfl, rfl⟩
theorem dX7_shine_55 : D0 mX7_shine 55 (.getfield 12) 3 58 := ⟨by decide +kernel, rfl⟩
theorem dX7_shine_58 : D0 mX7_shine 58 (.getfield 86) 3 61 := ⟨by decide +kernel, rfl⟩
theorem dX7_shine_61 : DLi mX7_shine 61 1 62 := Or.inl ⟨1, by decide +kernel, rfl, rfl⟩
theorem dX7_shine_62 : DLi mX7_shine 62 5 64 := Or.inr ⟨by decide +kernel, rfl⟩
theorem dX7_shine_64 : D0 mX7_shine 64 (.iadd) 1 65 := ⟨by decide +kernel, rfl⟩
theorem dX7_shine_65 : DKi mX7_shine 65 (nI 7) 67 := Or.inr (Or.inl ⟨7, by decide +kernel, by decide, rfl⟩)
theorem dX7_shine_67 : D0 mX7_shine 67 (.iand) 1 68 := ⟨by decide +kernel, rfl⟩
theorem dX7_shine_68 : D0 mX7_shine 68 (.iaload) 1 69 := ⟨by decide +kernel, rfl⟩
theorem dX7_shine_69 : D0 mX7_shine 69 (.imul) 1 70 := ⟨by decide +kernel, rfl⟩
theorem dX7_shine_70 : D0 mX7_shine 70 (.iadd) 1 71 := ⟨by decide +kernel, rfl⟩
theorem dX7_shine_71 : DSi mX7_shine 71 4 73 := ⟨by decide, Or.inr ⟨by decide +kernel, rfl⟩⟩
theorem dX7_shine_73 : DIn mX7_shine 73 5 (nI 1) 76 := ⟨by decide, 1, by decide +kernel, by decide, rfl⟩
theorem dX7_shine_76 : DG mX7_shine 76 35 := ⟨(-41), by decide +kernel, by decide⟩
theorem dX7_shine_79 : DLi mX7_shine 79 4 81 := Or.inr ⟨by decide +kernel, rfl⟩
theorem dX7_shine_81 : D0 mX7_shine 81 (.ireturn) 1 82 := ⟨by decide +kernel, rfl⟩
theorem dX7_ahead_0 : DLi mX7_ahead 0 1 1 := Or.inl ⟨1, by decide +kernel, rfl, rfl⟩
theorem dX7_ahead_1 : D0 mX7_ahead 1 (.invokestatic 149) 3 4 := ⟨by decide +kernel, rfl⟩
theorem dX7_ahead_4 : DFeq mX7_ahead 4 24 7 := ⟨20, by decide +kernel, by decide, rfl⟩
theorem dX7_ahead_7 : DLi mX7_ahead 7 2 8 := Or.inl ⟨2, by decide +kernel, rfl, rfl⟩
theorem dX7_ahead_8 : DLi mX7_ahead 8 3 9 := Or.inl ⟨3, by decide +kernel, rfl, rfl⟩
theorem dX7_ahead_9 : D0 mX7_ahead 9 (.invokestatic 152) 3 12 := ⟨by decide +kernel, rfl⟩
theorem dX7_ahead_12 : DFeq mX7_ahead 12 24 15 := ⟨12, by decide +kernel, by decide, rfl⟩
theorem dX7_ahead_15 : DLi mX7_ahead 15 4 17 := Or.inr ⟨by decide +kernel, rfl⟩
theorem dX7_ahead_17 : DKi mX7_ahead 17 (nI 1) 18 := Or.inl ⟨1, by decide +kernel, by decide, rfl⟩
theorem dX7_ahead_18 : D0 mX7_ahead 18 (.invokestatic 63) 3 21 := ⟨by decide +kernel, rfl⟩
theorem dX7_ahead_21 : DFne mX7_ahead 21 27 24 := ⟨6, by decide +kernel, by decide, rfl⟩
theorem dX7_ahead_24 : DKi mX7_ahead 24 ((-2)) 26 := Or.inr (Or.inl ⟨(-2), by decide +kernel, by decide, rfl⟩)
theorem dX7_ahead_26 : D0 mX7_ahead 26 (.ireturn) 1 27 := ⟨by decide +kernel, rfl⟩
theorem dX7_ahead_27 : DLa mX7_ahead 27 0 28 := Or.inl ⟨0, by decide +kernel, rfl, rfl⟩
theorem dX7_ahead_28 : D0 mX7_ahead 28 (.getfield 21) 3 31 := ⟨by decide +kernel, rfl⟩
theorem dX7_ahead_31 : DLi mX7_ahead 31 2 32 := Or.inl ⟨2, by decide +kernel, rfl, rfl⟩
theorem dX7_ahead_32 : DLi mX7_ahead 32 3 33 := Or.inl ⟨3, by decide +kernel, rfl, rfl⟩
theorem dX7_ahead_33 : D0 mX7_ahead 33 (.invokevirtual 157) 3 36 := ⟨by decide +kernel, rfl⟩
theorem dX7_ahead_36 : DKi mX7_ahead 36 (nI 0) 37 := Or.inl ⟨0, by decide +kernel, by decide, rfl⟩
theorem dX7_ahead_37 : DSi mX7_ahead 37 5 39 := ⟨by decide, Or.inr ⟨by decide +kernel, rfl⟩⟩
theorem dX7_ahead_39 : DLa mX7_ahead 39 0 40 := Or.inl ⟨0, by decide +kernel, rfl, rfl⟩
theorem dX7_ahead_40 : DKi mX7_ahead 40 (nI 0) 41 := Or.inl ⟨0, by decide +kernel, by decide, rfl⟩
theorem dX7_ahead_41 : DLi mX7_ahead 41 1 42 := Or.inl ⟨1, by decide +kernel, rfl, rfl⟩
theorem dX7_ahead_42 : D0 mX7_ahead 42 (.invokevirtual 160) 3 45 := ⟨by decide +kernel, rfl⟩
theorem dX7_ahead_45 : DSi mX7_ahead 45 6 47 := ⟨by decide, Or.inr ⟨by decide +kernel, rfl⟩⟩
theorem dX7_ahead_47 : DLi mX7_ahead 47 6 49 := Or.inr ⟨by decide +kernel, rfl⟩
theorem dX7_ahead_49 : DSi mX7_ahead 49 7 51 := ⟨by decide, Or.inr ⟨by decide +kernel, rfl⟩⟩
theorem dX7_ahead_51 : DKi mX7_ahead 51 (nI 1) 52 := Or.inl ⟨1, by decide +kernel, by decide, rfl⟩
theorem dX7_ahead_52 : DSi mX7_ahead 52 8 54 := ⟨by decide, Or.inr ⟨by decide +kernel, rfl⟩⟩
theorem dX7_ahead_54 : DLi mX7_ahead 54 8 56 := Or.inr ⟨by decide +kernel, rfl⟩
theorem dX7_ahead_56 : DKi mX7_ahead 56 (nI 8) 58 := Or.inr (Or.inl ⟨8, by decide +kernel, by decide, rfl⟩)
theorem dX7_ahead_58 : DCge mX7_ahead 58 100 61 := ⟨42, by decide +kernel, by decide, rfl⟩
theorem dX7_ahead_61 : DLa mX7_ahead 61 0 62 := Or.inl ⟨0, by decide +kernel, rfl, rfl⟩
theorem dX7_ahead_62 : DLi mX7_ahead 62 8 64 := Or.inr ⟨by decide +kernel, rfl⟩
theorem dX7_ahead_64 : DLi mX7_ahead 64 1 65 := Or.inl ⟨1, by decide +kernel, rfl, rfl⟩
theorem dX7_ahead_65 : D0 mX7_ahead 65 (.invokevirtual 160) 3 68 := ⟨by decide +kernel, rfl⟩
theorem dX7_ahead_68 : DSi mX7_ahead 68 9 70 := ⟨by decide, Or.inr ⟨by decide +kernel, rfl⟩⟩
theorem dX7_ahead_70 : DLi mX7_ahead 70 9 72 := Or.inr ⟨by decide +kernel, rfl⟩
theorem dX7_ahead_72 : DLi mX7_ahead 72 6 74 := Or.inr ⟨by decide +kernel, rfl⟩
theorem dX7_ahead_74 : DCle mX7_ahead 74 85 77 := ⟨11, by decide +kernel, by decide, rfl⟩
theorem dX7_ahead_77 : DLi mX7_ahead 77 9 79 := Or.inr ⟨by decide +kernel, rfl⟩
theorem dX7_ahead_79 : DSi mX7_ahead 79 6 81 := ⟨by decide, Or.inr ⟨by decide +kernel, rfl⟩⟩
theorem dX7_ahead_81 : DLi mX7_ahead 81 8 83 := Or.inr ⟨by decide +kernel, rfl⟩
theorem dX7_ahead_83 : DSi mX7_ahead 83 5 85 := ⟨by decide, Or.inr ⟨by decide +kernel, rfl⟩⟩
theorem dX7_ahead_85 : DLi mX7_ahead 85 7 87 := Or.inr ⟨by decide +kernel, rfl⟩
theorem dX7_ahead_87 : DLi mX7_ahead 87 9 89 := Or.inr ⟨by decide +kernel, rfl⟩
theorem dX7_ahead_89 : D0 mX7_ahead 89 (.invokestatic 170) 3 92 := ⟨by decide +kernel, rfl⟩
theorem dX7_ahead_92 : DSi mX7_ahead 92 7 94 := ⟨by decide, Or.inr ⟨by decide +kernel, rfl⟩⟩
theorem dX7_ahead_94 : DIn mX7_ahead 94 8 (nI 1) 97 := ⟨by decide, 1, by decide +kernel, by decide, rfl⟩
theorem dX7_ahead_97 : DG mX7_ahead 97 54 := ⟨(-43), by decide +kernel, by decide⟩
theorem dX7_ahead_100 : DLi mX7_ahead 100 4 102 := Or.inr ⟨by decide +kernel, rfl⟩
theorem dX7_ahead_102 : DFne mX7_ahead 102 110 105 := ⟨8, by decide +kernel, by decide, rfl⟩
theorem dX7_ahead_105 : DLi mX7_ahead 105 5 107 := Or.inr ⟨by decide +kernel, rfl⟩
theorem dX7_ahead_107 : DG mX7_ahead 107 115 := ⟨8, by decide +kernel, by decide⟩
theorem dX7_ahead_110 : DLi mX7_ahead 110 6 112 := Or.inr ⟨by decide +kernel, rfl⟩
theorem dX7_ahead_112 : DLi mX7_ahead 112 7 114 := Or.inr ⟨by decide +kernel, rfl⟩
theorem dX7_ahead_114 : D0 mX7_ahead 114 (.isub) 1 115 := ⟨by decide +kernel, rfl⟩
theorem dX7_ahead_115 : D0 mX7_ahead 115 (.ireturn) 1 116 := ⟨by decide +kernel, rfl⟩
theorem dX7_next_0 : DLi mX7_next 0 1 1 := Or.inl ⟨1, by decide +kernel, rfl, rfl⟩
theorem dX7_next_1 : DKi mX7_next 1 (nI 7) 3 := Or.inr (Or.inl ⟨7, by decide +kernel, by decide, rfl⟩)
theorem dX7_next_3 : D0 mX7_next 3 (.invokestatic 63) 3 6 := ⟨by decide +kernel, rfl⟩
theorem dX7_next_6 : DFeq mX7_next 6 31 9 := ⟨25, by decide +kernel, by decide, rfl⟩
theorem dX7_next_9 : DLi mX7_next 9 2 10 := Or.inl ⟨2, by decide +kernel, rfl, rfl⟩
theorem dX7_next_10 : D0 mX7_next 10 (.invokestatic 149) 3 13 := ⟨by decide +kernel, rfl⟩
theorem dX7_next_13 : DFeq mX7_next 13 31 16 := ⟨18, by decide +kernel, by decide, rfl⟩
theorem dX7_next_16 : DLi mX7_next 16 3 17 := Or.inl ⟨3, by decide +kernel, rfl, rfl⟩
theorem dX7_next_17 : D0 mX7_next 17 (.invokestatic 149) 3 20 := ⟨by decide +kernel, rfl⟩
theorem dX7_next_20 : DFeq mX7_next 20 31 23 := ⟨11, by decide +kernel, by decide, rfl⟩
theorem dX7_next_23 : DLi mX7_next 23 4 25 := Or.inr ⟨by decide +kernel, rfl⟩
theorem dX7_next_25 : D0 mX7_next 25 (.invokestatic 89) 3 28 := ⟨by decide +kernel, rfl⟩
theorem dX7_next_28 : DFne mX7_next 28 34 31 := ⟨6, by decide +kernel, by decide, rfl⟩
theorem dX7_next_31 : DKi mX7_next 31 ((-2)) 33 := Or.inr (Or.inl ⟨(-2), by decide +kernel, by decide, rfl⟩)
theorem dX7_next_33 : D0 mX7_next 33 (.ireturn) 1 34 := ⟨by decide +kernel, rfl⟩
theorem dX7_next_34 : DLa mX7_next 34 0 35 := Or.inl ⟨0, by decide +kernel, rfl, rfl⟩
theorem dX7_next_35 : D0 mX7_next 35 (.getfield 21) 3 38 := ⟨by decide +kernel, rfl⟩
theorem dX7_next_38 : DLi mX7_next 38 4 40 := Or.inr ⟨by decide +kernel, rfl⟩
theorem dX7_next_40 : D0 mX7_next 40 (.invokevirtual 175) 3 43 := ⟨by decide +kernel, rfl⟩
theorem dX7_next_43 : DKi mX7_next 43 (nI 100) 45 := Or.inr (Or.inl ⟨100, by decide +kernel, by decide, rfl⟩)
theorem dX7_next_45 : DSi mX7_next 45 5 47 := ⟨by decide, Or.inr ⟨by decide +kernel, rfl⟩⟩
theorem dX7_next_47 : DKi mX7_next 47 (nI 0) 48 := Or.inl ⟨0, by decide +kernel, by decide, rfl⟩
theorem dX7_next_48 : DSi mX7_next 48 6 50 := ⟨by decide, Or.inr ⟨by decide +kernel, rfl⟩⟩
theorem dX7_next_50 : DLi mX7_next 50 6 52 := Or.inr ⟨by decide +kernel, rfl⟩
theorem dX7_next_52 : DKi mX7_next 52 (nI 8) 54 := Or.inr (Or.inl ⟨8, by decide +kernel, by decide, rfl⟩)
theorem dX7_next_54 : DCge mX7_next 54 95 57 := ⟨41, by decide +kernel, by decide, rfl⟩
theorem dX7_next_57 : DLa mX7_next 57 0 58 := Or.inl ⟨0, by decide +kernel, rfl, rfl⟩
theorem dX7_next_58 : D0 mX7_next 58 (.getfield 12) 3 61 := ⟨by decide +kernel, rfl⟩
theorem dX7_next_61 : DLi mX7_next 61 1 62 := Or.inl ⟨1, by decide +kernel, rfl, rfl⟩
theorem dX7_next_62 : DLi mX7_next 62 2 63 := Or.inl ⟨2, by decide +kernel, rfl, rfl⟩
theorem dX7_next_63 : DLi mX7_next 63 3 64 := Or.inl ⟨3, by decide +kernel, rfl, rfl⟩
theorem dX7_next_64 : DLi mX7_next 64 6 66 := Or.inr ⟨by decide +kernel, rfl⟩
theorem dX7_next_66 : D0 mX7_next 66 (.invokevirtual 179) 3 69 := ⟨by decide +kernel, rfl⟩
theorem dX7_next_69 : DFeq mX7_next 69 89 72 := ⟨20, by decide +kernel, by decide, rfl⟩
theorem dX7_next_72 : DLi mX7_next 72 5 74 := Or.inr ⟨by decide +kernel, rfl⟩
theorem dX7_next_74 : DLa mX7_next 74 0 75 := Or.inl ⟨0, by decide +kernel, rfl, rfl⟩
theorem dX7_next_75 : D0 mX7_next 75 (.getfield 21) 3 78 := ⟨by decide +kernel, rfl⟩
theorem dX7_next_78 : D0 mX7_next 78 (.getfield 183) 3 81 := ⟨by decide +kernel, rfl⟩
theorem dX7_next_81 : DLi mX7_next 81 6 83 := Or.inr ⟨by decide +kernel, rfl⟩
theorem dX7_next_83 : D0 mX7_next 83 (.iaload) 1 84 := ⟨by decide +kernel, rfl⟩
theorem dX7_next_84 : D0 mX7_next 84 (.invokestatic 170) 3 87 := ⟨by decide +kernel, rfl⟩
theorem dX7_next_87 : DSi mX7_next 87 5 89 := ⟨by decide, Or.inr ⟨by decide +kernel, rfl⟩⟩
theorem dX7_next_89 : DIn mX7_next 89 6 (nI 1) 92 := ⟨by decide, 1, by decide +kernel, by decide, rfl⟩
theorem dX7_next_92 : DG mX7_next 92 50 := ⟨(-42), by decide +kernel, by decide⟩
theorem dX7_next_95 : DLi mX7_next 95 5 97 := Or.inr ⟨by decide +kernel, rfl⟩
theorem dX7_next_97 : DKi mX7_next 97 (nI 100) 99 := Or.inr (Or.inl ⟨100, by decide +kernel, by decide, rfl⟩)
theorem dX7_next_99 : DCge mX7_next 99 107 102 := ⟨8, by decide +kernel, by decide, rfl⟩
theorem dX7_next_102 : DLi mX7_next 102 5 104 := Or.inr ⟨by decide +kernel, rfl⟩
theorem dX7_next_104 : DG mX7_next 104 108 := ⟨4, by decide +kernel, by decide⟩
theorem dX7_next_107 : DKi mX7_next 107 ((-1)) 108 := Or.inl ⟨(-1), by decide +kernel, by decide, rfl⟩
theorem dX7_next_108 : D0 mX7_next 108 (.ireturn) 1 109 := ⟨by decide +kernel, rfl⟩
theorem dX7_likely_0 : DLi mX7_likely 0 1 1 := Or.inl ⟨1, by decide +kernel, rfl, rfl⟩
theorem dX7_likely_1 : DKi mX7_likely 1 (nI 7) 3 := Or.inr (Or.inl ⟨7, by decide +kernel, by decide, rfl⟩)
theorem dX7_likely_3 : D0 mX7_likely 3 (.invokestatic 63) 3 6 := ⟨by decide +kernel, rfl⟩
theorem dX7_likely_6 : DFeq mX7_likely 6 64 9 := ⟨58, by decide +kernel, by decide, rfl⟩
theorem dX7_likely_9 : DLi mX7_likely 9 2 10 := Or.inl ⟨2, by decide +kernel, rfl, rfl⟩
theorem dX7_likely_10 : D0 mX7_likely 10 (.invokestatic 149) 3 13 := ⟨by decide +kernel, rfl⟩
theorem dX7_likely_13 : DFeq mX7_likely 13 64 16 := ⟨51, by decide +kernel, by decide, rfl⟩
theorem dX7_likely_16 : DLi mX7_likely 16 3 17 := Or.inl ⟨3, by decide +kernel, rfl, rfl⟩
theorem dX7_likely_17 : D0 mX7_likely 17 (.invokestatic 149) 3 20 := ⟨by decide +kernel, rfl⟩
theorem dX7_likely_20 : DFeq mX7_likely 20 64 23 := ⟨44, by decide +kernel, by decide, rfl⟩
theorem dX7_likely_23 : DLi mX7_likely 23 4 25 := Or.inr ⟨by decide +kernel, rfl⟩
theorem dX7_likely_25 : D0 mX7_likely 25 (.invokestatic 89) 3 28 := ⟨by decide +kernel, rfl⟩
theorem dX7_likely_28 : DFeq mX7_likely 28 64 31 := ⟨36, by decide +kernel, by decide, rfl⟩
theorem dX7_likely_31 : DLi mX7_likely 31 5 33 := Or.inr ⟨by decide +kernel, rfl⟩
theorem dX7_likely_33 : DKi mX7_likely 33 (nI 12) 35 := Or.inr (Or.inl ⟨12, by decide +kernel, by decide, rfl⟩)
theorem dX7_likely_35 : D0 mX7_likely 35 (.invokestatic 63) 3 38 := ⟨by decide +kernel, rfl⟩
theorem dX7_likely_38 : DFeq mX7_likely 38 64 41 := ⟨26, by decide +kernel, by decide, rfl⟩
theorem dX7_likely_41 : DLi mX7_likely 41 6 43 := Or.inr ⟨by decide +kernel, rfl⟩
theorem dX7_likely_43 : DKi mX7_likely 43 (nI 16) 45 := Or.inr (Or.inl ⟨16, by decide +kernel, by decide, rfl⟩)
theorem dX7_likely_45 : D0 mX7_likely 45 (.invokestatic 63) 3 48 := ⟨by decide +kernel, rfl⟩
theorem dX7_likely_48 : DFeq mX7_likely 48 64 51 := ⟨16, by decide +kernel, by decide, rfl⟩
theorem dX7_likely_51 : DLi mX7_likely 51 7 53 := Or.inr ⟨by decide +kernel, rfl⟩
theorem dX7_likely_53 : DKi mX7_likely 53 (nI 1) 54 := Or.inl ⟨1, by decide +kernel, by decide, rfl⟩
theorem dX7_likely_54 : D0 mX7_likely 54 (.invokestatic 63) 3 57 := ⟨by decide +kernel, rfl⟩
theorem dX7_likely_57 : DFeq mX7_likely 57 64 60 := ⟨7, by decide +kernel, by decide, rfl⟩
theorem dX7_likely_60 : DKi mX7_likely 60 (nI 1) 61 := Or.inl ⟨1, by decide +kernel, by decide, rfl⟩
theorem dX7_likely_61 : DG mX7_likely 61 65 := ⟨4, by decide +kernel, by decide⟩
theorem dX7_likely_64 : DKi mX7_likely 64 (nI 0) 65 := Or.inl ⟨0, by decide +kernel, by decide, rfl⟩
theorem dX7_likely_65 : DSi mX7_likely 65 8 67 := ⟨by decide, Or.inr ⟨by decide +kernel, rfl⟩⟩
theorem dX7_likely_67 : DLi mX7_likely 67 8 69 := Or.inr ⟨by decide +kernel, rfl⟩
theorem dX7_likely_69 : DFne mX7_likely 69 76 72 := ⟨7, by decide +kernel, by decide, rfl⟩
theorem dX7_likely_72 : DKl mX7_likely 72 ((-9223372036854775806)) 75 := Or.inr ⟨155, by decide +kernel, bt320, rfl⟩
theorem dX7_likely_75 : D0 mX7_likely 75 (.lreturn) 1 76 := ⟨by decide +kernel, rfl⟩
theorem dX7_likely_76 : DLa mX7_likely 76 0 77 := Or.inl ⟨0, by decide +kernel, rfl, rfl⟩
theorem dX7_likely_77 : D0 mX7_likely 77 (.getfield 28) 3 80 := ⟨by decide +kernel, rfl⟩
theorem dX7_likely_80 : DLa mX7_likely 80 0 81 := Or.inl ⟨0, by decide +kernel, rfl, rfl⟩
theorem dX7_likely_81 : D0 mX7_likely 81 (.getfield 21) 3 84 := ⟨by decide +kernel, rfl⟩
theorem dX7_likely_84 : D0 mX7_likely 84 (.getfield 100) 3 87 := ⟨by decide +kernel, rfl⟩
theorem dX7_likely_87 : DLi mX7_likely 87 4 89 := Or.inr ⟨by decide +kernel, rfl⟩
theorem dX7_likely_89 : D0 mX7_likely 89 (.iaload) 1 90 := ⟨by decide +kernel, rfl⟩
theorem dX7_likely_90 : D0 mX7_likely 90 (.invokevirtual 186) 3 93 := ⟨by decide +kernel, rfl⟩
theorem dX7_likely_93 : DKi mX7_likely 93 (nI 0) 94 := Or.inl ⟨0, by decide +kernel, by decide, rfl⟩
theorem dX7_likely_94 : DSi mX7_likely 94 9 96 := ⟨by decide, Or.inr ⟨by decide +kernel, rfl⟩⟩
theorem dX7_likely_96 : DLi mX7_likely 96 9 98 := Or.inr ⟨by decide +kernel, rfl⟩
theorem dX7_likely_98 : DLi mX7_likely 98 5 100 := Or.inr ⟨by decide +kernel, rfl⟩
theorem dX7_likely_100 : DCge mX7_likely 100 160 103 := ⟨60, by decide +kernel, by decide, rfl⟩
theorem dX7_likely_103 : DLa mX7_likely 103 0 104 := Or.inl ⟨0, by decide +kernel, rfl, rfl⟩
theorem dX7_likely_104 : D0 mX7_likely 104 (.getfield 28) 3 107 := ⟨by decide +kernel, rfl⟩
theorem dX7_likely_107 : DLi mX7_likely 107 6 109 := Or.inr ⟨by decide +kernel, rfl⟩
theorem dX7_likely_109 : D0 mX7_likely 109 (.invokevirtual 189) 3 112 := ⟨by decide +kernel, rfl⟩
theorem dX7_likely_112 : DKi mX7_likely 112 (nI 0) 113 := Or.inl ⟨0, by decide +kernel, by decide, rfl⟩
theorem dX7_likely_113 : DSi mX7_likely 113 10 115 := ⟨by decide, Or.inr ⟨by decide +kernel, rfl⟩⟩
theorem dX7_likely_115 : DLi mX7_likely 115 10 117 := Or.inr ⟨by decide +kernel, rfl⟩
theorem dX7_likely_117 : DKi mX7_likely 117 (nI 8) 119 := Or.inr (Or.inl ⟨8, by decide +kernel, by decide, rfl⟩)
theorem dX7_likely_119 : DCge mX7_likely 119 154 122 := ⟨35, by decide +kernel, by decide, rfl⟩
theorem dX7_likely_122 : DLa mX7_likely 122 0 123 := Or.inl ⟨0, by decide +kernel, rfl, rfl⟩
theorem dX7_likely_123 : D0 mX7_likely 123 (.getfield 12) 3 126 := ⟨by decide +kernel, rfl⟩
theorem dX7_likely_126 : DLi mX7_likely 126 1 127 := Or.inl ⟨1, by decide +kernel, rfl, rfl⟩
theorem dX7_likely_127 : DLi mX7_likely 127 2 128 := Or.inl ⟨2, by decide +kernel, rfl, rfl⟩
theorem dX7_likely_128 : DLi mX7_likely 128 3 129 := Or.inl ⟨3, by decide +kernel, rfl, rfl⟩
theorem dX7_likely_129 : DLi mX7_likely 129 10 131 := Or.inr ⟨by decide +kernel, rfl⟩
theorem dX7_likely_131 : D0 mX7_likely 131 (.invokevirtual 179) 3 134 := ⟨by decide +kernel, rfl⟩
theorem dX7_likely_134 : DFeq mX7_likely 134 148 137 := ⟨14, by decide +kernel, by decide, rfl⟩
theorem dX7_likely_137 : DLa mX7_likely 137 0 138 := Or.inl ⟨0, by decide +kernel, rfl, rfl⟩
theorem dX7_likely_138 : D0 mX7_likely 138 (.getfield 28) 3 141 := ⟨by decide +kernel, rfl⟩
theorem dX7_likely_141 : D0 mX7_likely 141 (.getfield 192) 3 144 := ⟨by decide +kernel, rfl⟩
theorem dX7_likely_144 : DLi mX7_likely 144 10 146 := Or.inr ⟨by decide +kernel, rfl⟩
theorem dX7_likely_146 : DKl mX7_likely 146 (lN 0) 147 := Or.inl ⟨0, by decide +kernel, rfl, rfl⟩
theorem dX7_likely_147 : D0 mX7_likely 147 (.lastore) 1 148 := ⟨by decide +kernel, rfl⟩
theorem dX7_likely_148 : DIn mX7_likely 148 10 (nI 1) 151 := ⟨by decide, 1, by decide +kernel, by decide, rfl⟩
theorem dX7_likely_151 : DG mX7_likely 151 115 := ⟨(-36), by decide +kernel, by decide⟩
theorem dX7_likely_154 : DIn mX7_likely 154 9 (nI 1) 157 := ⟨by decide, 1, by decide +kernel, by decide, rfl⟩
theorem dX7_likely_157 : DG mX7_likely 157 96 := ⟨(-61), by decide +kernel, by decide⟩
theorem dX7_likely_160 : DLa mX7_likely 160 0 161 := Or.inl ⟨0, by decide +kernel, rfl, rfl⟩
theorem dX7_likely_161 : D0 mX7_likely 161 (.getfield 28) 3 164 := ⟨by decide +kernel, rfl⟩
theorem dX7_likely_164 : D0 mX7_likely 164 (.getfield 196) 3 167 := ⟨by decide +kernel, rfl⟩
theorem dX7_likely_167 : DLa mX7_likely 167 0 168 := Or.inl ⟨0, by decide +kernel, rfl, rfl⟩
theorem dX7_likely_168 : D0 mX7_likely 168 (.getfield 28) 3 171 := ⟨by decide +kernel, rfl⟩
theorem dX7_likely_171 : D0 mX7_likely 171 (.invokevirtual 200) 3 174 := ⟨by decide +kernel, rfl⟩
theorem dX7_likely_174 : D0 mX7_likely 174 (.lsub) 1 175 := ⟨by decide +kernel, rfl⟩
theorem dX7_likely_175 : DLa mX7_likely 175 0 176 := Or.inl ⟨0, by decide +kernel, rfl, rfl⟩
theorem dX7_likely_176 : D0 mX7_likely 176 (.getfield 28) 3 179 := ⟨by decide +kernel, rfl⟩
theorem dX7_likely_179 : D0 mX7_likely 179 (.getfield 196) 3 182 := ⟨by decide +kernel, rfl⟩
theorem dX7_likely_182 : DLi mX7_likely 182 7 184 := Or.inr ⟨by decide +kernel, rfl⟩
theorem dX7_likely_184 : D0 mX7_likely 184 (.invokestatic 163) 3 187 := ⟨by decide +kernel, rfl⟩
theorem dX7_likely_187 : D0 mX7_likely 187 (.lreturn) 1 188 := ⟨by decide +kernel, rfl⟩
theorem dX7_soon_0 : DLi mX7_soon 0 1 1 := Or.inl ⟨1, by decide +kernel, rfl, rfl⟩
theorem dX7_soon_1 : DKi mX7_soon 1 (nI 7) 3 := Or.inr (Or.inl ⟨7, by decide +kernel, by decide, rfl⟩)
theorem dX7_soon_3 : D0 mX7_soon 3 (.invokestatic 63) 3 6 := ⟨by decide +kernel, rfl⟩
theorem dX7_soon_6 : DFeq mX7_soon 6 25 9 := ⟨19, by decide +kernel, by decide, rfl⟩
theorem dX7_soon_9 : DLi mX7_soon 9 2 10 := Or.inl ⟨2, by decide +kernel, rfl, rfl⟩
theorem dX7_soon_10 : DKi mX7_soon 10 (nI 7) 12 := Or.inr (Or.inl ⟨7, by decide +kernel, by decide, rfl⟩)
theorem dX7_soon_12 : D0 mX7_soon 12 (.invokestatic 63) 3 15 := ⟨by decide +kernel, rfl⟩
theorem dX7_soon_15 : DFeq mX7_soon 15 25 18 := ⟨10, by decide +kernel, by decide, rfl⟩
theorem dX7_soon_18 : DLi mX7_soon 18 3 19 := Or.inl ⟨3, by decide +kernel, rfl, rfl⟩
theorem dX7_soon_19 : D0 mX7_soon 19 (.invokestatic 89) 3 22 := ⟨by decide +kernel, rfl⟩
theorem dX7_soon_22 : DFne mX7_soon 22 28 25 := ⟨6, by decide +kernel, by decide, rfl⟩
theorem dX7_soon_25 : DKi mX7_soon 25 ((-2)) 27 := Or.inr (Or.inl ⟨(-2), by decide +kernel, by decide, rfl⟩)
theorem dX7_soon_27 : D0 mX7_soon 27 (.ireturn) 1 28 := ⟨by decide +kernel, rfl⟩
theorem dX7_soon_28 : DLa mX7_soon 28 0 29 := Or.inl ⟨0, by decide +kernel, rfl, rfl⟩
theorem dX7_soon_29 : DLi mX7_soon 29 1 30 := Or.inl ⟨1, by decide +kernel, rfl, rfl⟩
theorem dX7_soon_30 : DLi mX7_soon 30 2 31 := Or.inl ⟨2, by decide +kernel, rfl, rfl⟩
theorem dX7_soon_31 : DLi mX7_soon 31 3 32 := Or.inl ⟨3, by decide +kernel, rfl, rfl⟩
theorem dX7_soon_32 : D0 mX7_soon 32 (.invokevirtual 204) 3 35 := ⟨by decide +kernel, rfl⟩
theorem dX7_soon_35 : D0 mX7_soon 35 (.ireturn) 1 36 := ⟨by decide +kernel, rfl⟩
theorem dX7_carried_0 : DLi mX7_carried 0 1 1 := Or.inl ⟨1, by decide +kernel, rfl, rfl⟩
theorem dX7_carried_1 : DKi mX7_carried 1 (nI 7) 3 := Or.inr (Or.inl ⟨7, by decide +kernel, by decide, rfl⟩)
theorem dX7_carried_3 : D0 mX7_carried 3 (.invokestatic 63) 3 6 := ⟨by decide +kernel, rfl⟩
theorem dX7_carried_6 : DFeq mX7_carried 6 25 9 := ⟨19, by decide +kernel, by decide, rfl⟩
theorem dX7_carried_9 : DLi mX7_carried 9 2 10 := Or.inl ⟨2, by decide +kernel, rfl, rfl⟩
theorem dX7_carried_10 : DKi mX7_carried 10 (nI 7) 12 := Or.inr (Or.inl ⟨7, by decide +kernel, by decide, rfl⟩)
theorem dX7_carried_12 : D0 mX7_carried 12 (.invokestatic 63) 3 15 := ⟨by decide +kernel, rfl⟩
theorem dX7_carried_15 : DFeq mX7_carried 15 25 18 := ⟨10, by decide +kernel, by decide, rfl⟩
theorem dX7_carried_18 : DLi mX7_carried 18 3 19 := Or.inl ⟨3, by decide +kernel, rfl, rfl⟩
theorem dX7_carried_19 : D0 mX7_carried 19 (.invokestatic 89) 3 22 := ⟨by decide +kernel, rfl⟩
theorem dX7_carried_22 : DFne mX7_carried 22 28 25 := ⟨6, by decide +kernel, by decide, rfl⟩
theorem dX7_carried_25 : DKi mX7_carried 25 ((-2)) 27 := Or.inr (Or.inl ⟨(-2), by decide +kernel, by decide, rfl⟩)
theorem dX7_carried_27 : D0 mX7_carried 27 (.ireturn) 1 28 := ⟨by decide +kernel, rfl⟩
theorem dX7_carried_28 : DLa mX7_carried 28 0 29 := Or.inl ⟨0, by decide +kernel, rfl, rfl⟩
theorem dX7_carried_29 : DLi mX7_carried 29 1 30 := Or.inl ⟨1, by decide +kernel, rfl, rfl⟩
theorem dX7_carried_30 : DLi mX7_carried 30 2 31 := Or.inl ⟨2, by decide +kernel, rfl, rfl⟩
theorem dX7_carried_31 : DLi mX7_carried 31 3 32 := Or.inl ⟨3, by decide +kernel, rfl, rfl⟩
theorem dX7_carried_32 : D0 mX7_carried 32 (.invokevirtual 204) 3 35 := ⟨by decide +kernel, rfl⟩
theorem dX7_carried_35 : DKi mX7_carried 35 ((-1)) 36 := Or.inl ⟨(-1), by decide +kernel, by decide, rfl⟩
theorem dX7_carried_36 : DCne mX7_carried 36 43 39 := ⟨7, by decide +kernel, by decide, rfl⟩
theorem dX7_carried_39 : DKi mX7_carried 39 ((-1)) 40 := Or.inl ⟨(-1), by decide +kernel, by decide, rfl⟩
theorem dX7_carried_40 : DG mX7_carried 40 51 := ⟨11, by decide +kernel, by decide⟩
theorem dX7_carried_43 : DLa mX7_carried 43 0 44 := Or.inl ⟨0, by decide +kernel, rfl, rfl⟩
theorem dX7_carried_44 : D0 mX7_carried 44 (.getfield 35) 3 47 := ⟨by decide +kernel, rfl⟩
theorem dX7_carried_47 : DLi mX7_carried 47 2 48 := Or.inl ⟨2, by decide +kernel, rfl, rfl⟩
theorem dX7_carried_48 : D0 mX7_carried 48 (.invokevirtual 207) 3 51 := ⟨by decide +kernel, rfl⟩
theorem dX7_carried_51 : D0 mX7_carried 51 (.ireturn) 1 52 := ⟨by decide +kernel, rfl⟩
theorem dX7_meet_0 : DLi mX7_meet 0 1 1 := Or.inl ⟨1, by decide +kernel, rfl, rfl⟩
theorem dX7_meet_1 : DKi mX7_meet 1 (nI 7) 3 := Or.inr (Or.inl ⟨7, by decide +kernel, by decide, rfl⟩)
theorem dX7_meet_3 : D0 mX7_meet 3 (.invokestatic 63) 3 6 := ⟨by decide +kernel, rfl⟩
theorem dX7_meet_6 : DFeq mX7_meet 6 39 9 := ⟨33, by decide +kernel, by decide, rfl⟩
theorem dX7_meet_9 : DLi mX7_meet 9 2 10 := Or.inl ⟨2, by decide +kernel, rfl, rfl⟩
theorem dX7_meet_10 : DKi mX7_meet 10 (nI 7) 12 := Or.inr (Or.inl ⟨7, by decide +kernel, by decide, rfl⟩)
theorem dX7_meet_12 : D0 mX7_meet 12 (.invokestatic 63) 3 15 := ⟨by decide +kernel, rfl⟩
theorem dX7_meet_15 : DFeq mX7_meet 15 39 18 := ⟨24, by decide +kernel, by decide, rfl⟩
theorem dX7_meet_18 : DLi mX7_meet 18 1 19 := Or.inl ⟨1, by decide +kernel, rfl, rfl⟩
theorem dX7_meet_19 : DLi mX7_meet 19 2 20 := Or.inl ⟨2, by decide +kernel, rfl, rfl⟩
theorem dX7_meet_20 : DCeq mX7_meet 20 39 23 := ⟨19, by decide +kernel, by decide, rfl⟩
theorem dX7_meet_23 : DLi mX7_meet 23 3 24 := Or.inl ⟨3, by decide +kernel, rfl, rfl⟩
theorem dX7_meet_24 : D0 mX7_meet 24 (.invokestatic 89) 3 27 := ⟨by decide +kernel, rfl⟩
theorem dX7_meet_27 : DFeq mX7_meet 27 39 30 := ⟨12, by decide +kernel, by decide, rfl⟩
theorem dX7_meet_30 : DLi mX7_meet 30 4 32 := Or.inr ⟨by decide +kernel, rfl⟩
theorem dX7_meet_32 : DKi mX7_meet 32 (nI 1) 33 := Or.inl ⟨1, by decide +kernel, by decide, rfl⟩
theorem dX7_meet_33 : D0 mX7_meet 33 (.invokestatic 63) 3 36 := ⟨by decide +kernel, rfl⟩
theorem dX7_meet_36 : DFne mX7_meet 36 42 39 := ⟨6, by decide +kernel, by decide, rfl⟩
theorem dX7_meet_39 : DKi mX7_meet 39 ((-2)) 41 := Or.inr (Or.inl ⟨(-2), by decide +kernel, by decide, rfl⟩)
theorem dX7_meet_41 : D0 mX7_meet 41 (.ireturn) 1 42 := ⟨by decide +kernel, rfl⟩
theorem dX7_meet_42 : DLa mX7_meet 42 0 43 := Or.inl ⟨0, by decide +kernel, rfl, rfl⟩
theorem dX7_meet_43 : D0 mX7_meet 43 (.getfield 35) 3 46 := ⟨by decide +kernel, rfl⟩
theorem dX7_meet_46 : DLi mX7_meet 46 1 47 := Or.inl ⟨1, by decide +kernel, rfl, rfl⟩
theorem dX7_meet_47 : D0 mX7_meet 47 (.invokevirtual 210) 3 50 := ⟨by decide +kernel, rfl⟩
theorem dX7_meet_50 : DLa mX7_meet 50 0 51 := Or.inl ⟨0, by decide +kernel, rfl, rfl⟩
theorem dX7_meet_51 : D0 mX7_meet 51 (.getfield 39) 3 54 := ⟨by decide +kernel, rfl⟩
theorem dX7_meet_54 : DLi mX7_meet 54 2 55 := Or.inl ⟨2, by decide +kernel, rfl, rfl⟩
theorem dX7_meet_55 : D0 mX7_meet 55 (.invokevirtual 210) 3 58 := ⟨by decide +kernel, rfl⟩
theorem dX7_meet_58 : DLi mX7_meet 58 3 59 := Or.inl ⟨3, by decide +kernel, rfl, rfl⟩
theorem dX7_meet_59 : DSi mX7_meet 59 5 61 := ⟨by decide, Or.inr ⟨by decide +kernel, rfl⟩⟩
theorem dX7_meet_61 : DLi mX7_meet 61 5 63 := Or.inr ⟨by decide +kernel, rfl⟩
theorem dX7_meet_63 : DKi mX7_meet 63 (nI 100) 65 := Or.inr (Or.inl ⟨100, by decide +kernel, by decide, rfl⟩)
theorem dX7_meet_65 : DCge mX7_meet 65 169 68 := ⟨104, by decide +kernel, by decide, rfl⟩
theorem dX7_meet_68 : DLa mX7_meet 68 0 69 := Or.inl ⟨0, by decide +kernel, rfl, rfl⟩
theorem dX7_meet_69 : D0 mX7_meet 69 (.getfield 35) 3 72 := ⟨by decide +kernel, rfl⟩
theorem dX7_meet_72 : DLa mX7_meet 72 0 73 := Or.inl ⟨0, by decide +kernel, rfl, rfl⟩
theorem dX7_meet_73 : D0 mX7_meet 73 (.getfield 12) 3 76 := ⟨by decide +kernel, rfl⟩
theorem dX7_meet_76 : DLa mX7_meet 76 0 77 := Or.inl ⟨0, by decide +kernel, rfl, rfl⟩
theorem dX7_meet_77 : D0 mX7_meet 77 (.getfield 21) 3 80 := ⟨by decide +kernel, rfl⟩
theorem dX7_meet_80 : D0 mX7_meet 80 (.getfield 100) 3 83 := ⟨by decide +kernel, rfl⟩
theorem dX7_meet_83 : DLi mX7_meet 83 5 85 := Or.inr ⟨by decide +kernel, rfl⟩
theorem dX7_meet_85 : D0 mX7_meet 85 (.iaload) 1 86 := ⟨by decide +kernel, rfl⟩
theorem dX7_meet_86 : D0 mX7_meet 86 (.invokevirtual 211) 3 89 := ⟨by decide +kernel, rfl⟩
theorem dX7_meet_89 : DLa mX7_meet 89 0 90 := Or.inl ⟨0, by decide +kernel, rfl, rfl⟩
theorem dX7_meet_90 : D0 mX7_meet 90 (.getfield 39) 3 93 := ⟨by decide +kernel, rfl⟩
theorem dX7_meet_93 : DLa mX7_meet 93 0 94 := Or.inl ⟨0, by decide +kernel, rfl, rfl⟩
theorem dX7_meet_94 : D0 mX7_meet 94 (.getfield 12) 3 97 := ⟨by decide +kernel, rfl⟩
theorem dX7_meet_97 : DLa mX7_meet 97 0 98 := Or.inl ⟨0, by decide +kernel, rfl, rfl⟩
theorem dX7_meet_98 : D0 mX7_meet 98 (.getfield 21) 3 101 := ⟨by decide +kernel, rfl⟩
theorem dX7_meet_101 : D0 mX7_meet 101 (.getfield 100) 3 104 := ⟨by decide +kernel, rfl⟩
theorem dX7_meet_104 : DLi mX7_meet 104 5 106 := Or.inr ⟨by decide +kernel, rfl⟩
theorem dX7_meet_106 : D0 mX7_meet 106 (.iaload) 1 107 := ⟨by decide +kernel, rfl⟩
theorem dX7_meet_107 : D0 mX7_meet 107 (.invokevirtual 211) 3 110 := ⟨by decide +kernel, rfl⟩
theorem dX7_meet_110 : DKi mX7_meet 110 (nI 0) 111 := Or.inl ⟨0, by decide +kernel, by decide, rfl⟩
theorem dX7_meet_111 : DSi mX7_meet 111 6 113 := ⟨by decide, Or.inr ⟨by decide +kernel, rfl⟩⟩
theorem dX7_meet_113 : DLi mX7_meet 113 6 115 := Or.inr ⟨by decide +kernel, rfl⟩
theorem dX7_meet_115 : DKi mX7_meet 115 (nI 8) 117 := Or.inr (Or.inl ⟨8, by decide +kernel, by decide, rfl⟩)
theorem dX7_meet_117 : DCge mX7_meet 117 163 120 := ⟨46, by decide +kernel, by decide, rfl⟩
theorem dX7_meet_120 : DLa mX7_meet 120 0 121 := Or.inl ⟨0, by decide +kernel, rfl, rfl⟩
theorem dX7_meet_121 : D0 mX7_meet 121 (.getfield 35) 3 124 := ⟨by decide +kernel, rfl⟩
theorem dX7_meet_124 : DLi mX7_meet 124 6 126 := Or.inr ⟨by decide +kernel, rfl⟩
theorem dX7_meet_126 : D0 mX7_meet 126 (.invokevirtual 214) 3 129 := ⟨by decide +kernel, rfl⟩
theorem dX7_meet_129 : DFeq mX7_meet 129 157 132 := ⟨28, by decide +kernel, by decide, rfl⟩
theorem dX7_meet_132 : DLa mX7_meet 132 0 133 := Or.inl ⟨0, by decide +kernel, rfl, rfl⟩
theorem dX7_meet_133 : D0 mX7_meet 133 (.getfield 39) 3 136 := ⟨by decide +kernel, rfl⟩
theorem dX7_meet_136 : DLi mX7_meet 136 6 138 := Or.inr ⟨by decide +kernel, rfl⟩
theorem dX7_meet_138 : D0 mX7_meet 138 (.invokevirtual 214) 3 141 := ⟨by decide +kernel, rfl⟩
theorem dX7_meet_141 : DFeq mX7_meet 141 157 144 := ⟨16, by decide +kernel, by decide, rfl⟩
theorem dX7_meet_144 : DLi mX7_meet 144 4 146 := Or.inr ⟨by decide +kernel, rfl⟩
theorem dX7_meet_146 : DFne mX7_meet 146 154 149 := ⟨8, by decide +kernel, by decide, rfl⟩
theorem dX7_meet_149 : DLi mX7_meet 149 5 151 := Or.inr ⟨by decide +kernel, rfl⟩
theorem dX7_meet_151 : DG mX7_meet 151 156 := ⟨5, by decide +kernel, by decide⟩
theorem dX7_meet_154 : DLi mX7_meet 154 6 156 := Or.inr ⟨by decide +kernel, rfl⟩
theorem dX7_meet_156 : D0 mX7_meet 156 (.ireturn) 1 157 := ⟨by decide +kernel, rfl⟩
theorem dX7_meet_157 : DIn mX7_meet 157 6 (nI 1) 160 := ⟨by decide, 1, by decide +kernel, by decide, rfl⟩
theorem dX7_meet_160 : DG mX7_meet 160 113 := ⟨(-47), by decide +kernel, by decide⟩
theorem dX7_meet_163 : DIn mX7_meet 163 5 (nI 1) 166 := ⟨by decide, 1, by decide +kernel, by decide, rfl⟩
theorem dX7_meet_166 : DG mX7_meet 166 61 := ⟨(-105), by decide +kernel, by decide⟩
theorem dX7_meet_169 : DKi mX7_meet 169 ((-1)) 170 := Or.inl ⟨(-1), by decide +kernel, by decide, rfl⟩
theorem dX7_meet_170 : D0 mX7_meet 170 (.ireturn) 1 171 := ⟨by decide +kernel, rfl⟩
theorem dX7_wish_0 : DLi mX7_wish 0 1 1 := Or.inl ⟨1, by decide +kernel, rfl, rfl⟩
theorem dX7_wish_1 : DKi mX7_wish 1 (nI 7) 3 := Or.inr (Or.inl ⟨7, by decide +kernel, by decide, rfl⟩)
theorem dX7_wish_3 : D0 mX7_wish 3 (.invokestatic 63) 3 6 := ⟨by decide +kernel, rfl⟩
theorem dX7_wish_6 : DFeq mX7_wish 6 25 9 := ⟨19, by decide +kernel, by decide, rfl⟩
theorem dX7_wish_9 : DLi mX7_wish 9 2 10 := Or.inl ⟨2, by decide +kernel, rfl, rfl⟩
theorem dX7_wish_10 : D0 mX7_wish 10 (.invokestatic 149) 3 13 := ⟨by decide +kernel, rfl⟩
theorem dX7_wish_13 : DFeq mX7_wish 13 25 16 := ⟨12, by decide +kernel, by decide, rfl⟩
theorem dX7_wish_16 : DLi mX7_wish 16 3 17 := Or.inl ⟨3, by decide +kernel, rfl, rfl⟩
theorem dX7_wish_17 : DKi mX7_wish 17 (nI 9) 19 := Or.inr (Or.inl ⟨9, by decide +kernel, by decide, rfl⟩)
theorem dX7_wish_19 : D0 mX7_wish 19 (.invokestatic 63) 3 22 := ⟨by decide +kernel, rfl⟩
theorem dX7_wish_22 : DFne mX7_wish 22 28 25 := ⟨6, by decide +kernel, by decide, rfl⟩
theorem dX7_wish_25 : DKi mX7_wish 25 ((-2)) 27 := Or.inr (Or.inl ⟨(-2), by decide +kernel, by decide, rfl⟩)
theorem dX7_wish_27 : D0 mX7_wish 27 (.ireturn) 1 28 := ⟨by decide +kernel, rfl⟩
theorem dX7_wish_28 : DLa mX7_wish 28 0 29 := Or.inl ⟨0, by decide +kernel, rfl, rfl⟩
theorem dX7_wish_29 : D0 mX7_wish 29 (.getfield 45) 3 32 := ⟨by decide +kernel, rfl⟩
theorem dX7_wish_32 : DLi mX7_wish 32 1 33 := Or.inl ⟨1, by decide +kernel, rfl, rfl⟩
theorem dX7_wish_33 : DLi mX7_wish 33 2 34 := Or.inl ⟨2, by decide +kernel, rfl, rfl⟩
theorem dX7_wish_34 : DLi mX7_wish 34 3 35 := Or.inl ⟨3, by decide +kernel, rfl, rfl⟩
theorem dX7_wish_35 : D0 mX7_wish 35 (.invokevirtual 217) 3 38 := ⟨by decide +kernel, rfl⟩
theorem dX7_wish_38 : D0 mX7_wish 38 (.ireturn) 1 39 := ⟨by decide +kernel, rfl⟩
theorem dX7_lives_0 : DLi mX7_lives 0 1 1 := Or.inl ⟨1, by decide +kernel, rfl, rfl⟩
theorem dX7_lives_1 : DKi mX7_lives 1 (nI 7) 3 := Or.inr (Or.inl ⟨7, by decide +kernel, by decide, rfl⟩)
theorem dX7_lives_3 : D0 mX7_lives 3 (.invokestatic 63) 3 6 := ⟨by decide +kernel, rfl⟩
theorem dX7_lives_6 : DFeq mX7_lives 6 21 9 := ⟨15, by decide +kernel, by decide, rfl⟩
theorem dX7_lives_9 : DLa mX7_lives 9 0 10 := Or.inl ⟨0, by decide +kernel, rfl, rfl⟩
theorem dX7_lives_10 : D0 mX7_lives 10 (.getfield 45) 3 13 := ⟨by decide +kernel, rfl⟩
theorem dX7_lives_13 : D0 mX7_lives 13 (.getfield 220) 3 16 := ⟨by decide +kernel, rfl⟩
theorem dX7_lives_16 : DLi mX7_lives 16 1 17 := Or.inl ⟨1, by decide +kernel, rfl, rfl⟩
theorem dX7_lives_17 : D0 mX7_lives 17 (.iaload) 1 18 := ⟨by decide +kernel, rfl⟩
theorem dX7_lives_18 : DG mX7_lives 18 23 := ⟨5, by decide +kernel, by decide⟩
theorem dX7_lives_21 : DKi mX7_lives 21 ((-2)) 23 := Or.inr (Or.inl ⟨(-2), by decide +kernel, by decide, rfl⟩)
theorem dX7_lives_23 : D0 mX7_lives 23 (.ireturn) 1 24 := ⟨by decide +kernel, rfl⟩
theorem dX7_joy_0 : DLi mX7_joy 0 1 1 := Or.inl ⟨1, by decide +kernel, rfl, rfl⟩
theorem dX7_joy_1 : DKi mX7_joy 1 (nI 7) 3 := Or.inr (Or.inl ⟨7, by decide +kernel, by decide, rfl⟩)
theorem dX7_joy_3 : D0 mX7_joy 3 (.invokestatic 63) 3 6 := ⟨by decide +kernel, rfl⟩
theorem dX7_joy_6 : DFeq mX7_joy 6 27 9 := ⟨21, by decide +kernel, by decide, rfl⟩
theorem dX7_joy_9 : DLi mX7_joy 9 2 10 := Or.inl ⟨2, by decide +kernel, rfl, rfl⟩
theorem dX7_joy_10 : DKi mX7_joy 10 (nI 7) 12 := Or.inr (Or.inl ⟨7, by decide +kernel, by decide, rfl⟩)
theorem dX7_joy_12 : D0 mX7_joy 12 (.invokestatic 63) 3 15 := ⟨by decide +kernel, rfl⟩
theorem dX7_joy_15 : DFeq mX7_joy 15 27 18 := ⟨12, by decide +kernel, by decide, rfl⟩
theorem dX7_joy_18 : DLi mX7_joy 18 3 19 := Or.inl ⟨3, by decide +kernel, rfl, rfl⟩
theorem dX7_joy_19 : DLi mX7_joy 19 4 21 := Or.inr ⟨by decide +kernel, rfl⟩
theorem dX7_joy_21 : D0 mX7_joy 21 (.invokestatic 152) 3 24 := ⟨by decide +kernel, rfl⟩
theorem dX7_joy_24 : DFne mX7_joy 24 30 27 := ⟨6, by decide +kernel, by decide, rfl⟩
theorem dX7_joy_27 : DKi mX7_joy 27 ((-2)) 29 := Or.inr (Or.inl ⟨(-2), by decide +kernel, by decide, rfl⟩)
theorem dX7_joy_29 : D0 mX7_joy 29 (.ireturn) 1 30 := ⟨by decide +kernel, rfl⟩
theorem dX7_joy_30 : DLa mX7_joy 30 0 31 := Or.inl ⟨0, by decide +kernel, rfl, rfl⟩
theorem dX7_joy_31 : D0 mX7_joy 31 (.getfield 21) 3 34 := ⟨by decide +kernel, rfl⟩
theorem dX7_joy_34 : DLi mX7_joy 34 3 35 := Or.inl ⟨3, by decide +kernel, rfl, rfl⟩
theorem dX7_joy_35 : DLi mX7_joy 35 4 37 := Or.inr ⟨by decide +kernel, rfl⟩
theorem dX7_joy_37 : D0 mX7_joy 37 (.invokevirtual 157) 3 40 := ⟨by decide +kernel, rfl⟩
theorem dX7_joy_40 : DLa mX7_joy 40 0 41 := Or.inl ⟨0, by decide +kernel, rfl, rfl⟩
theorem dX7_joy_41 : D0 mX7_joy 41 (.getfield 45) 3 44 := ⟨by decide +kernel, rfl⟩
theorem dX7_joy_44 : DLi mX7_joy 44 1 45 := Or.inl ⟨1, by decide +kernel, rfl, rfl⟩
theorem dX7_joy_45 : DLi mX7_joy 45 2 46 := Or.inl ⟨2, by decide +kernel, rfl, rfl⟩
theorem dX7_joy_46 : DLa mX7_joy 46 0 47 := Or.inl ⟨0, by decide +kernel, rfl, rfl⟩
theorem dX7_joy_47 : D0 mX7_joy 47 (.getfield 12) 3 50 := ⟨by decide +kernel, rfl⟩
theorem dX7_joy_50 : DLa mX7_joy 50 0 51 := Or.inl ⟨0, by decide +kernel, rfl, rfl⟩
theorem dX7_joy_51 : D0 mX7_joy 51 (.getfield 21) 3 54 := ⟨by decide +kernel, rfl⟩
theorem dX7_joy_54 : D0 mX7_joy 54 (.getfield 167) 3 57 := ⟨by decide +kernel, rfl⟩
theorem dX7_joy_57 : D0 mX7_joy 57 (.invokevirtual 223) 3 60 := ⟨by decide +kernel, rfl⟩
theorem dX7_joy_60 : D0 mX7_joy 60 (.ireturn) 1 61 := ⟨by decide +kernel, rfl⟩
theorem dX7_swap_0 : DLi mX7_swap 0 1 1 := Or.inl ⟨1, by decide +kernel, rfl, rfl⟩
theorem dX7_swap_1 : DLi mX7_swap 1 2 2 := Or.inl ⟨2, by decide +kernel, rfl, rfl⟩
theorem dX7_swap_2 : D0 mX7_swap 2 (.invokestatic 152) 3 5 := ⟨by decide +kernel, rfl⟩
theorem dX7_swap_5 : DFne mX7_swap 5 11 8 := ⟨6, by decide +kernel, by decide, rfl⟩
theorem dX7_swap_8 : DKi mX7_swap 8 ((-2)) 10 := Or.inr (Or.inl ⟨(-2), by decide +kernel, by decide, rfl⟩)
theorem dX7_swap_10 : D0 mX7_swap 10 (.ireturn) 1 11 := ⟨by decide +kernel, rfl⟩
theorem dX7_swap_11 : DLa mX7_swap 11 0 12 := Or.inl ⟨0, by decide +kernel, rfl, rfl⟩
theorem dX7_swap_12 : DLi mX7_swap 12 1 13 := Or.inl ⟨1, by decide +kernel, rfl, rfl⟩
theorem dX7_swap_13 : DLi mX7_swap 13 2 14 := Or.inl ⟨2, by decide +kernel, rfl, rfl⟩
theorem dX7_swap_14 : D0 mX7_swap 14 (.invokevirtual 227) 3 17 := ⟨by decide +kernel, rfl⟩
theorem dX7_swap_17 : DLa mX7_swap 17 0 18 := Or.inl ⟨0, by decide +kernel, rfl, rfl⟩
theorem dX7_swap_18 : D0 mX7_swap 18 (.getfield 45) 3 21 := ⟨by decide +kernel, rfl⟩
theorem dX7_swap_21 : D0 mX7_swap 21 (.invokevirtual 230) 3 24 := ⟨by decide +kernel, rfl⟩
theorem dX7_swap_24 : D0 mX7_swap 24 (.ireturn) 1 25 := ⟨by decide +kernel, rfl⟩
theorem dX7_best_0 : DLi mX7_best 0 1 1 := Or.inl ⟨1, by decide +kernel, rfl, rfl⟩
theorem dX7_best_1 : DKi mX7_best 1 ((-1)) 2 := Or.inl ⟨(-1), by decide +kernel, by decide, rfl⟩
theorem dX7_best_2 : DCeq mX7_best 2 14 5 := ⟨12, by decide +kernel, by decide, rfl⟩
theorem dX7_best_5 : DLi mX7_best 5 1 6 := Or.inl ⟨1, by decide +kernel, rfl, rfl⟩
theorem dX7_best_6 : DKi mX7_best 6 (nI 7) 8 := Or.inr (Or.inl ⟨7, by decide +kernel, by decide, rfl⟩)
theorem dX7_best_8 : D0 mX7_best 8 (.invokestatic 63) 3 11 := ⟨by decide +kernel, rfl⟩
theorem dX7_best_11 : DFeq mX7_best 11 22 14 := ⟨11, by decide +kernel, by decide, rfl⟩
theorem dX7_best_14 : DLi mX7_best 14 2 15 := Or.inl ⟨2, by decide +kernel, rfl, rfl⟩
theorem dX7_best_15 : DLi mX7_best 15 3 16 := Or.inl ⟨3, by decide +kernel, rfl, rfl⟩
theorem dX7_best_16 : D0 mX7_best 16 (.invokestatic 152) 3 19 := ⟨by decide +kernel, rfl⟩
theorem dX7_best_19 : DFne mX7_best 19 25 22 := ⟨6, by decide +kernel, by decide, rfl⟩
theorem dX7_best_22 : DKi mX7_best 22 ((-2)) 24 := Or.inr (Or.inl ⟨(-2), by decide +kernel, by decide, rfl⟩)
theorem dX7_best_24 : D0 mX7_best 24 (.ireturn) 1 25 := ⟨by decide +kernel, rfl⟩
theorem dX7_best_25 : DLa mX7_best 25 0 26 := Or.inl ⟨0, by decide +kernel, rfl, rfl⟩
theorem dX7_best_26 : DLi mX7_best 26 2 27 := Or.inl ⟨2, by decide +kernel, rfl, rfl⟩
theorem dX7_best_27 : DLi mX7_best 27 3 28 := Or.inl ⟨3, by decide +kernel, rfl, rfl⟩
theorem dX7_best_28 : D0 mX7_best 28 (.invokevirtual 227) 3 31 := ⟨by decide +kernel, rfl⟩
theorem dX7_best_31 : DLa mX7_best 31 0 32 := Or.inl ⟨0, by decide +kernel, rfl, rfl⟩
theorem dX7_best_32 : D0 mX7_best 32 (.getfield 45) 3 35 := ⟨by decide +kernel, rfl⟩
theorem dX7_best_35 : D0 mX7_best 35 (.invokevirtual 233) 3 38 := ⟨by decide +kernel, rfl⟩
theorem dX7_best_38 : DLi mX7_best 38 1 39 := Or.inl ⟨1, by decide +kernel, rfl, rfl⟩
theorem dX7_best_39 : DKi mX7_best 39 ((-1)) 40 := Or.inl ⟨(-1), by decide +kernel, by decide, rfl⟩
theorem dX7_best_40 : DCne mX7_best 40 53 43 := ⟨13, by decide +kernel, by decide, rfl⟩
theorem dX7_best_43 : DLa mX7_best 43 0 44 := Or.inl ⟨0, by decide +kernel, rfl, rfl⟩
theorem dX7_best_44 : D0 mX7_best 44 (.getfield 45) 3 47 := ⟨by decide +kernel, rfl⟩
theorem dX7_best_47 : D0 mX7_best 47 (.invokevirtual 236) 3 50 := ⟨by decide +kernel, rfl⟩
theorem dX7_best_50 : DG mX7_best 50 62 := ⟨12, by decide +kernel, by decide⟩
theorem dX7_best_53 : DLa mX7_best 53 0 54 := Or.inl ⟨0, by decide +kernel, rfl, rfl⟩
theorem dX7_best_54 : D0 mX7_best 54 (.getfield 45) 3 57 := ⟨by decide +kernel, rfl⟩
theorem dX7_best_57 : D0 mX7_best 57 (.getfield 239) 3 60 := ⟨by decide +kernel, rfl⟩
theorem dX7_best_60 : DLi mX7_best 60 1 61 := Or.inl ⟨1, by decide +kernel, rfl, rfl⟩
theorem dX7_best_61 : D0 mX7_best 61 (.iaload) 1 62 := ⟨by decide +kernel, rfl⟩
theorem dX7_best_62 : D0 mX7_best 62 (.ireturn) 1 63 := ⟨by decide +kernel, rfl⟩
theorem dX7_envy_0 : DLi mX7_envy 0 1 1 := Or.inl ⟨1, by decide +kernel, rfl, rfl⟩
theorem dX7_envy_1 : DLi mX7_envy 1 2 2 := Or.inl ⟨2, by decide +kernel, rfl, rfl⟩
theorem dX7_envy_2 : D0 mX7_envy 2 (.invokestatic 152) 3 5 := ⟨by decide +kernel, rfl⟩
theorem dX7_envy_5 : DFne mX7_envy 5 11 8 := ⟨6, by decide +kernel, by decide, rfl⟩
theorem dX7_envy_8 : DKi mX7_envy 8 ((-2)) 10 := Or.inr (Or.inl ⟨(-2), by decide +kernel, by decide, rfl⟩)
theorem dX7_envy_10 : D0 mX7_envy 10 (.ireturn) 1 11 := ⟨by decide +kernel, rfl⟩
theorem dX7_envy_11 : DLa mX7_envy 11 0 12 := Or.inl ⟨0, by decide +kernel, rfl, rfl⟩
theorem dX7_envy_12 : DLi mX7_envy 12 1 13 := Or.inl ⟨1, by decide +kernel, rfl, rfl⟩
theorem dX7_envy_13 : DLi mX7_envy 13 2 14 := Or.inl ⟨2, by decide +kernel, rfl, rfl⟩
theorem dX7_envy_14 : D0 mX7_envy 14 (.invokevirtual 227) 3 17 := ⟨by decide +kernel, rfl⟩
theorem dX7_envy_17 : DLa mX7_envy 17 0 18 := Or.inl ⟨0, by decide +kernel, rfl, rfl⟩
theorem dX7_envy_18 : D0 mX7_envy 18 (.getfield 45) 3 21 := ⟨by decide +kernel, rfl⟩
theorem dX7_envy_21 : D0 mX7_envy 21 (.invokevirtual 242) 3 24 := ⟨by decide +kernel, rfl⟩
theorem dX7_envy_24 : D0 mX7_envy 24 (.ireturn) 1 25 := ⟨by decide +kernel, rfl⟩
theorem dX7_reaped_0 : DLi mX7_reaped 0 1 1 := Or.inl ⟨1, by decide +kernel, rfl, rfl⟩
theorem dX7_reaped_1 : DKi mX7_reaped 1 (nI 7) 3 := Or.inr (Or.inl ⟨7, by decide +kernel, by decide, rfl⟩)
theorem dX7_reaped_3 : D0 mX7_reaped 3 (.invokestatic 63) 3 6 := ⟨by decide +kernel, rfl⟩
theorem dX7_reaped_6 : DFeq mX7_reaped 6 23 9 := ⟨17, by decide +kernel, by decide, rfl⟩
theorem dX7_reaped_9 : DLi mX7_reaped 9 2 10 := Or.inl ⟨2, by decide +kernel, rfl, rfl⟩
theorem dX7_reaped_10 : DKi mX7_reaped 10 ((-1)) 11 := Or.inl ⟨(-1), by decide +kernel, by decide, rfl⟩
theorem dX7_reaped_11 : DCeq mX7_reaped 11 26 14 := ⟨15, by decide +kernel, by decide, rfl⟩
theorem dX7_reaped_14 : DLi mX7_reaped 14 2 15 := Or.inl ⟨2, by decide +kernel, rfl, rfl⟩
theorem dX7_reaped_15 : DKi mX7_reaped 15 (nI 12) 17 := Or.inr (Or.inl ⟨12, by decide +kernel, by decide, rfl⟩)
theorem dX7_reaped_17 : D0 mX7_reaped 17 (.invokestatic 63) 3 20 := ⟨by decide +kernel, rfl⟩
theorem dX7_reaped_20 : DFne mX7_reaped 20 26 23 := ⟨6, by decide +kernel, by decide, rfl⟩
theorem dX7_reaped_23 : DKi mX7_reaped 23 ((-5)) 25 := Or.inr (Or.inl ⟨(-5), by decide +kernel, by decide, rfl⟩)
theorem dX7_reaped_25 : D0 mX7_reaped 25 (.ireturn) 1 26 := ⟨by decide +kernel, rfl⟩
theorem dX7_reaped_26 : DLa mX7_reaped 26 0 27 := Or.inl ⟨0, by decide +kernel, rfl, rfl⟩
theorem dX7_reaped_27 : D0 mX7_reaped 27 (.getfield 52) 3 30 := ⟨by decide +kernel, rfl⟩
theorem dX7_reaped_30 : D0 mX7_reaped 30 (.getfield 245) 3 33 := ⟨by decide +kernel, rfl⟩
theorem dX7_reaped_33 : DLi mX7_reaped 33 1 34 := Or.inl ⟨1, by decide +kernel, rfl, rfl⟩
theorem dX7_reaped_34 : D0 mX7_reaped 34 (.iaload) 1 35 := ⟨by decide +kernel, rfl⟩
theorem dX7_reaped_35 : DSi mX7_reaped 35 3 36 := ⟨by decide, Or.inl ⟨3, by decide +kernel, rfl, rfl⟩⟩
theorem dX7_reaped_36 : DLa mX7_reaped 36 0 37 := Or.inl ⟨0, by decide +kernel, rfl, rfl⟩
theorem dX7_reaped_37 : D0 mX7_reaped 37 (.getfield 52) 3 40 := ⟨by decide +kernel, rfl⟩
theorem dX7_reaped_40 : D0 mX7_reaped 40 (.getfield 245) 3 43 := ⟨by decide +kernel, rfl⟩
theorem dX7_reaped_43 : DLi mX7_reaped 43 1 44 := Or.inl ⟨1, by decide +kernel, rfl, rfl⟩
theorem dX7_reaped_44 : DLi mX7_reaped 44 2 45 := Or.inl ⟨2, by decide +kernel, rfl, rfl⟩
theorem dX7_reaped_45 : D0 mX7_reaped 45 (.iastore) 1 46 := ⟨by decide +kernel, rfl⟩
theorem dX7_reaped_46 : DLi mX7_reaped 46 3 47 := Or.inl ⟨3, by decide +kernel, rfl, rfl⟩
theorem dX7_reaped_47 : D0 mX7_reaped 47 (.ireturn) 1 48 := ⟨by decide +kernel, rfl⟩
theorem dX7_history_0 : DLi mX7_history 0 1 1 := Or.inl ⟨1, by decide +kernel, rfl, rfl⟩
theorem dX7_history_1 : D0 mX7_history 1 (.invokestatic 89) 3 4 := ⟨by decide +kernel, rfl⟩
theorem dX7_history_4 : DFeq mX7_history 4 32 7 := ⟨28, by decide +kernel, by decide, rfl⟩
theorem dX7_history_7 : DLi mX7_history 7 2 8 := Or.inl ⟨2, by decide +kernel, rfl, rfl⟩
theorem dX7_history_8 : DKi mX7_history 8 (nI 12) 10 := Or.inr (Or.inl ⟨12, by decide +kernel, by decide, rfl⟩)
theorem dX7_history_10 : D0 mX7_history 10 (.invokestatic 63) 3 13 := ⟨by decide +kernel, rfl⟩
theorem dX7_history_13 : DFeq mX7_history 13 32 16 := ⟨19, by decide +kernel, by decide, rfl⟩
theorem dX7_history_16 : DLi mX7_history 16 1 17 := Or.inl ⟨1, by decide +kernel, rfl, rfl⟩
theorem dX7_history_17 : DLi mX7_history 17 2 18 := Or.inl ⟨2, by decide +kernel, rfl, rfl⟩
theorem dX7_history_18 : D0 mX7_history 18 (.iadd) 1 19 := ⟨by decide +kernel, rfl⟩
theorem dX7_history_19 : DKi mX7_history 19 (nI 100) 21 := Or.inr (Or.inl ⟨100, by decide +kernel, by decide, rfl⟩)
theorem dX7_history_21 : DCgt mX7_history 21 32 24 := ⟨11, by decide +kernel, by decide, rfl⟩
theorem dX7_history_24 : DLi mX7_history 24 3 25 := Or.inl ⟨3, by decide +kernel, rfl, rfl⟩
theorem dX7_history_25 : DKi mX7_history 25 (nI 3) 26 := Or.inl ⟨3, by decide +kernel, by decide, rfl⟩
theorem dX7_history_26 : D0 mX7_history 26 (.invokestatic 63) 3 29 := ⟨by decide +kernel, rfl⟩
theorem dX7_history_29 : DFne mX7_history 29 35 32 := ⟨6, by decide +kernel, by decide, rfl⟩
theorem dX7_history_32 : DKi mX7_history 32 ((-2)) 34 := Or.inr (Or.inl ⟨(-2), by decide +kernel, by decide, rfl⟩)
theorem dX7_history_34 : D0 mX7_history 34 (.ireturn) 1 35 := ⟨by decide +kernel, rfl⟩
theorem dX7_history_35 : DLa mX7_history 35 0 36 := Or.inl ⟨0, by decide +kernel, rfl, rfl⟩
theorem dX7_history_36 : D0 mX7_history 36 (.getfield 52) 3 39 := ⟨by decide +kernel, rfl⟩
theorem dX7_history_39 : DLa mX7_history 39 0 40 := Or.inl ⟨0, by decide +kernel, rfl, rfl⟩
theorem dX7_history_40 : D0 mX7_history 40 (.getfield 12) 3 43 := ⟨by decide +kernel, rfl⟩
theorem dX7_history_43 : DLi mX7_history 43 1 44 := Or.inl ⟨1, by decide +kernel, rfl, rfl⟩
theorem dX7_history_44 : DFne mX7_history 44 57 47 := ⟨13, by decide +kernel, by decide, rfl⟩
theorem dX7_history_47 : DLa mX7_history 47 0 48 := Or.inl ⟨0, by decide +kernel, rfl, rfl⟩
theorem dX7_history_48 : D0 mX7_history 48 (.getfield 21) 3 51 := ⟨by decide +kernel, rfl⟩
theorem dX7_history_51 : D0 mX7_history 51 (.getfield 248) 3 54 := ⟨by decide +kernel, rfl⟩
theorem dX7_history_54 : DG mX7_history 54 68 := ⟨14, by decide +kernel, by decide⟩
theorem dX7_history_57 : DLa mX7_history 57 0 58 := Or.inl ⟨0, by decide +kernel, rfl, rfl⟩
theorem dX7_history_58 : D0 mX7_history 58 (.getfield 21) 3 61 := ⟨by decide +kernel, rfl⟩
theorem dX7_history_61 : D0 mX7_history 61 (.getfield 100) 3 64 := ⟨by decide +kernel, rfl⟩
theorem dX7_history_64 : DLi mX7_history 64 1 65 := Or.inl ⟨1, by decide +kernel, rfl, rfl⟩
theorem dX7_history_65 : DKi mX7_history 65 (nI 1) 66 := Or.inl ⟨1, by decide +kernel, by decide, rfl⟩
theorem dX7_history_66 : D0 mX7_history 66 (.isub) 1 67 := ⟨by decide +kernel, rfl⟩
theorem dX7_history_67 : D0 mX7_history 67 (.iaload) 1 68 := ⟨by decide +kernel, rfl⟩
theorem dX7_history_68 : DLi mX7_history 68 2 69 := Or.inl ⟨2, by decide +kernel, rfl, rfl⟩
theorem dX7_history_69 : D0 mX7_history 69 (.invokevirtual 250) 3 72 := ⟨by decide +kernel, rfl⟩
theorem dX7_history_72 : DLi mX7_history 72 3 73 := Or.inl ⟨3, by decide +kernel, rfl, rfl⟩
theorem dX7_history_73 : DFne mX7_history 73 84 76 := ⟨11, by decide +kernel, by decide, rfl⟩
theorem dX7_history_76 : DLa mX7_history 76 0 77 := Or.inl ⟨0, by decide +kernel, rfl, rfl⟩
theorem dX7_history_77 : D0 mX7_history 77 (.getfield 52) 3 80 := ⟨by decide +kernel, rfl⟩
theorem dX7_history_80 : D0 mX7_history 80 (.getfield 254) 3 83 := ⟨by decide +kernel, rfl⟩
theorem dX7_history_83 : D0 mX7_history 83 (.ireturn) 1 84 := ⟨by decide +kernel, rfl⟩
theorem dX7_history_84 : DLi mX7_history 84 3 85 := Or.inl ⟨3, by decide +kernel, rfl, rfl⟩
theorem dX7_history_85 : DKi mX7_history 85 (nI 1) 86 := Or.inl ⟨1, by decide +kernel, by decide, rfl⟩
theorem dX7_history_86 : DCne mX7_history 86 97 89 := ⟨11, by decide +kernel, by decide, rfl⟩
theorem dX7_history_89 : DLa mX7_history 89 0 90 := Or.inl ⟨0, by decide +kernel, rfl, rfl⟩
theorem dX7_history_90 : D0 mX7_history 90 (.getfield 52) 3 93 := ⟨by decide +kernel, rfl⟩
theorem dX7_history_93 : D0 mX7_history 93 (.getfield 257) 3 96 := ⟨by decide +kernel, rfl⟩
theorem dX7_history_96 : D0 mX7_history 96 (.ireturn) 1 97 := ⟨by decide +kernel, rfl⟩
theorem dX7_history_97 : DLa mX7_history 97 0 98 := Or.inl ⟨0, by decide +kernel, rfl, rfl⟩
theorem dX7_history_98 : D0 mX7_history 98 (.getfield 52) 3 101 := ⟨by decide +kernel, rfl⟩
theorem dX7_history_101 : D0 mX7_history 101 (.getfield 254) 3 104 := ⟨by decide +kernel, rfl⟩
theorem dX7_history_104 : DFne mX7_history 104 110 107 := ⟨6, by decide +kernel, by decide, rfl⟩
theorem dX7_history_107 : DKi mX7_history 107 ((-3)) 109 := Or.inr (Or.inl ⟨(-3), by decide +kernel, by decide, rfl⟩)
theorem dX7_history_109 : D0 mX7_history 109 (.ireturn) 1 110 := ⟨by decide +kernel, rfl⟩
theorem dX7_history_110 : DLi mX7_history 110 3 111 := Or.inl ⟨3, by decide +kernel, rfl, rfl⟩
theorem dX7_history_111 : DKi mX7_history 111 (nI 2) 112 := Or.inl ⟨2, by decide +kernel, by decide, rfl⟩
theorem dX7_history_112 : DCne mX7_history 112 125 115 := ⟨13, by decide +kernel, by decide, rfl⟩
theorem dX7_history_115 : DLa mX7_history 115 0 116 := Or.inl ⟨0, by decide +kernel, rfl, rfl⟩
theorem dX7_history_116 : D0 mX7_history 116 (.getfield 52) 3 119 := ⟨by decide +kernel, rfl⟩
theorem dX7_history_119 : D0 mX7_history 119 (.getfield 260) 3 122 := ⟨by decide +kernel, rfl⟩
theorem dX7_history_122 : DG mX7_history 122 132 := ⟨10, by decide +kernel, by decide⟩
theorem dX7_history_125 : DLa mX7_history 125 0 126 := Or.inl ⟨0, by decide +kernel, rfl, rfl⟩
theorem dX7_history_126 : D0 mX7_history 126 (.getfield 52) 3 129 := ⟨by decide +kernel, rfl⟩
theorem dX7_history_129 : D0 mX7_history 129 (.getfield 263) 3 132 := ⟨by decide +kernel, rfl⟩
theorem dX7_history_132 : D0 mX7_history 132 (.ireturn) 1 133 := ⟨by decide +kernel, rfl⟩
theorem dX7_waits_0 : DLi mX7_waits 0 1 1 := Or.inl ⟨1, by decide +kernel, rfl, rfl⟩
theorem dX7_waits_1 : DKi mX7_waits 1 (nI 7) 3 := Or.inr (Or.inl ⟨7, by decide +kernel, by decide, rfl⟩)
theorem dX7_waits_3 : D0 mX7_waits 3 (.invokestatic 63) 3 6 := ⟨by decide +kernel, rfl⟩
theorem dX7_waits_6 : DFeq mX7_waits 6 16 9 := ⟨10, by decide +kernel, by decide, rfl⟩
theorem dX7_waits_9 : DLi mX7_waits 9 2 10 := Or.inl ⟨2, by decide +kernel, rfl, rfl⟩
theorem dX7_waits_10 : D0 mX7_waits 10 (.invokestatic 89) 3 13 := ⟨by decide +kernel, rfl⟩
theorem dX7_waits_13 : DFne mX7_waits 13 19 16 := ⟨6, by decide +kernel, by decide, rfl⟩
theorem dX7_waits_16 : DKi mX7_waits 16 ((-2)) 18 := Or.inr (Or.inl ⟨(-2), by decide +kernel, by decide, rfl⟩)
theorem dX7_waits_18 : D0 mX7_waits 18 (.ireturn) 1 19 := ⟨by decide +kernel, rfl⟩
theorem dX7_waits_19 : DLa mX7_waits 19 0 20 := Or.inl ⟨0, by decide +kernel, rfl, rfl⟩
theorem dX7_waits_20 : D0 mX7_waits 20 (.getfield 21) 3 23 := ⟨by decide +kernel, rfl⟩
theorem dX7_waits_23 : DLi mX7_waits 23 2 24 := Or.inl ⟨2, by decide +kernel, rfl, rfl⟩
theorem dX7_waits_24 : D0 mX7_waits 24 (.invokevirtual 175) 3 27 := ⟨by decide +kernel, rfl⟩
theorem dX7_waits_27 : DLa mX7_waits 27 0 28 := Or.inl ⟨0, by decide +kernel, rfl, rfl⟩
theorem dX7_waits_28 : DLi mX7_waits 28 1 29 := Or.inl ⟨1, by decide +kernel, rfl, rfl⟩
theorem dX7_waits_29 : DLi mX7_waits 29 2 30 := Or.inl ⟨2, by decide +kernel, rfl, rfl⟩
theorem dX7_waits_30 : D0 mX7_waits 30 (.invokevirtual 266) 3 33 := ⟨by decide +kernel, rfl⟩
theorem dX7_waits_33 : D0 mX7_waits 33 (.ireturn) 1 34 := ⟨by decide +kernel, rfl⟩
theorem dX7_dig_0 : DLi mX7_dig 0 1 1 := Or.inl ⟨1, by decide +kernel, rfl, rfl⟩
theorem dX7_dig_1 : D0 mX7_dig 1 (.invokestatic 89) 3 4 := ⟨by decide +kernel, rfl⟩
theorem dX7_dig_4 : DFeq mX7_dig 4 16 7 := ⟨12, by decide +kernel, by decide, rfl⟩
theorem dX7_dig_7 : DLi mX7_dig 7 2 8 := Or.inl ⟨2, by decide +kernel, rfl, rfl⟩
theorem dX7_dig_8 : DKi mX7_dig 8 (nI 99) 10 := Or.inr (Or.inl ⟨99, by decide +kernel, by decide, rfl⟩)
theorem dX7_dig_10 : D0 mX7_dig 10 (.invokestatic 63) 3 13 := ⟨by decide +kernel, rfl⟩
theorem dX7_dig_13 : DFne mX7_dig 13 19 16 := ⟨6, by decide +kernel, by decide, rfl⟩
theorem dX7_dig_16 : DKi mX7_dig 16 ((-2)) 18 := Or.inr (Or.inl ⟨(-2), by decide +kernel, by decide, rfl⟩)
theorem dX7_dig_18 : D0 mX7_dig 18 (.ireturn) 1 19 := ⟨by decide +kernel, rfl⟩
theorem dX7_dig_19 : DLa mX7_dig 19 0 20 := Or.inl ⟨0, by decide +kernel, rfl, rfl⟩
theorem dX7_dig_20 : D0 mX7_dig 20 (.getfield 21) 3 23 := ⟨by decide +kernel, rfl⟩
theorem dX7_dig_23 : DLi mX7_dig 23 1 24 := Or.inl ⟨1, by decide +kernel, rfl, rfl⟩
theorem dX7_dig_24 : D0 mX7_dig 24 (.invokevirtual 175) 3 27 := ⟨by decide +kernel, rfl⟩
theorem dX7_dig_27 : DKi mX7_dig 27 ((-1)) 28 := Or.inl ⟨(-1), by decide +kernel, by decide, rfl⟩
theorem dX7_dig_28 : DSi mX7_dig 28 3 29 := ⟨by decide, Or.inl ⟨3, by decide +kernel, rfl, rfl⟩⟩
theorem dX7_dig_29 : DLi mX7_dig 29 2 30 := Or.inl ⟨2, by decide +kernel, rfl, rfl⟩
theorem dX7_dig_30 : DKi mX7_dig 30 (nI 1) 31 := Or.inl ⟨1, by decide +kernel, by decide, rfl⟩
theorem dX7_dig_31 : D0 mX7_dig 31 (.iadd) 1 32 := ⟨by decide +kernel, rfl⟩
theorem dX7_dig_32 : DSi mX7_dig 32 4 34 := ⟨by decide, Or.inr ⟨by decide +kernel, rfl⟩⟩
theorem dX7_dig_34 : DKi mX7_dig 34 (nI 0) 35 := Or.inl ⟨0, by decide +kernel, by decide, rfl⟩
theorem dX7_dig_35 : DSi mX7_dig 35 5 37 := ⟨by decide, Or.inr ⟨by decide +kernel, rfl⟩⟩
theorem dX7_dig_37 : DLi mX7_dig 37 5 39 := Or.inr ⟨by decide +kernel, rfl⟩
theorem dX7_dig_39 : DKi mX7_dig 39 (nI 8) 41 := Or.inr (Or.inl ⟨8, by decide +kernel, by decide, rfl⟩)
theorem dX7_dig_41 : DCge mX7_dig 41 79 44 := ⟨38, by decide +kernel, by decide, rfl⟩
theorem dX7_dig_44 : DLa mX7_dig 44 0 45 := Or.inl ⟨0, by decide +kernel, rfl, rfl⟩
theorem dX7_dig_45 : DLi mX7_dig 45 5 47 := Or.inr ⟨by decide +kernel, rfl⟩
theorem dX7_dig_47 : DLi mX7_dig 47 1 48 := Or.inl ⟨1, by decide +kernel, rfl, rfl⟩
theorem dX7_dig_48 : D0 mX7_dig 48 (.invokevirtual 266) 3 51 := ⟨by decide +kernel, rfl⟩
theorem dX7_dig_51 : DSi mX7_dig 51 6 53 := ⟨by decide, Or.inr ⟨by decide +kernel, rfl⟩⟩
theorem dX7_dig_53 : DLi mX7_dig 53 6 55 := Or.inr ⟨by decide +kernel, rfl⟩
theorem dX7_dig_55 : DKi mX7_dig 55 ((-1)) 56 := Or.inl ⟨(-1), by decide +kernel, by decide, rfl⟩
theorem dX7_dig_56 : DCeq mX7_dig 56 73 59 := ⟨17, by decide +kernel, by decide, rfl⟩
theorem dX7_dig_59 : DLi mX7_dig 59 6 61 := Or.inr ⟨by decide +kernel, rfl⟩
theorem dX7_dig_61 : DLi mX7_dig 61 4 63 := Or.inr ⟨by decide +kernel, rfl⟩
theorem dX7_dig_63 : DCge mX7_dig 63 73 66 := ⟨10, by decide +kernel, by decide, rfl⟩
theorem dX7_dig_66 : DLi mX7_dig 66 6 68 := Or.inr ⟨by decide +kernel, rfl⟩
theorem dX7_dig_68 : DSi mX7_dig 68 4 70 := ⟨by decide, Or.inr ⟨by decide +kernel, rfl⟩⟩
theorem dX7_dig_70 : DLi mX7_dig 70 5 72 := Or.inr ⟨by decide +kernel, rfl⟩
theorem dX7_dig_72 : DSi mX7_dig 72 3 73 := ⟨by decide, Or.inl ⟨3, by decide +kernel, rfl, rfl⟩⟩
theorem dX7_dig_73 : DIn mX7_dig 73 5 (nI 1) 76 := ⟨by decide, 1, by decide +kernel, by decide, rfl⟩
theorem dX7_dig_76 : DG mX7_dig 76 37 := ⟨(-39), by decide +kernel, by decide⟩
theorem dX7_dig_79 : DLi mX7_dig 79 3 80 := Or.inl ⟨3, by decide +kernel, rfl, rfl⟩
theorem dX7_dig_80 : D0 mX7_dig 80 (.ireturn) 1 81 := ⟨by decide +kernel, rfl⟩
theorem dX7_sheet_0 : DLi mX7_sheet 0 1 1 := Or.inl ⟨1, by decide +kernel, rfl, rfl⟩
theorem dX7_sheet_1 : D0 mX7_sheet 1 (.invokestatic 118) 3 4 := ⟨by decide +kernel, rfl⟩
theorem dX7_sheet_4 : DFeq mX7_sheet 4 20 7 := ⟨16, by decide +kernel, by decide, rfl⟩
theorem dX7_sheet_7 : DLi mX7_sheet 7 2 8 := Or.inl ⟨2, by decide +kernel, rfl, rfl⟩
theorem dX7_sheet_8 : D0 mX7_sheet 8 (.invokestatic 269) 3 11 := ⟨by decide +kernel, rfl⟩
theorem dX7_sheet_11 : DFeq mX7_sheet 11 20 14 := ⟨9, by decide +kernel, by decide, rfl⟩
theorem dX7_sheet_14 : DLi mX7_sheet 14 3 15 := Or.inl ⟨3, by decide +kernel, rfl, rfl⟩
theorem dX7_sheet_15 : DKi mX7_sheet 15 (nI 60) 17 := Or.inr (Or.inl ⟨60, by decide +kernel, by decide, rfl⟩)
theorem dX7_sheet_17 : DCle mX7_sheet 17 23 20 := ⟨6, by decide +kernel, by decide, rfl⟩
theorem dX7_sheet_20 : DKi mX7_sheet 20 ((-2)) 22 := Or.inr (Or.inl ⟨(-2), by decide +kernel, by decide, rfl⟩)
theorem dX7_sheet_22 : D0 mX7_sheet 22 (.ireturn) 1 23 := ⟨by decide +kernel, rfl⟩
theorem dX7_sheet_23 : DLi mX7_sheet 23 3 24 := Or.inl ⟨3, by decide +kernel, rfl, rfl⟩
theorem dX7_sheet_24 : DFge mX7_sheet 24 33 27 := ⟨9, by decide +kernel, by decide, rfl⟩
theorem dX7_sheet_27 : DLa mX7_sheet 27 0 28 := Or.inl ⟨0, by decide +kernel, rfl, rfl⟩
theorem dX7_sheet_28 : DKi mX7_sheet 28 (nI 5) 29 := Or.inl ⟨5, by decide +kernel, by decide, rfl⟩
theorem dX7_sheet_29 : D0 mX7_sheet 29 (.invokevirtual 125) 3 32 := ⟨by decide +kernel, rfl⟩
theorem dX7_sheet_32 : D0 mX7_sheet 32 (.ireturn) 1 33 := ⟨by decide +kernel, rfl⟩
theorem dX7_sheet_33 : DLa mX7_sheet 33 0 34 := Or.inl ⟨0, by decide +kernel, rfl, rfl⟩
theorem dX7_sheet_34 : D0 mX7_sheet 34 (.getfield 58) 3 37 := ⟨by decide +kernel, rfl⟩
theorem dX7_sheet_37 : DLi mX7_sheet 37 1 38 := Or.inl ⟨1, by decide +kernel, rfl, rfl⟩
theorem dX7_sheet_38 : D0 mX7_sheet 38 (.aaload) 1 39 := ⟨by decide +kernel, rfl⟩
theorem dX7_sheet_39 : DLi mX7_sheet 39 2 40 := Or.inl ⟨2, by decide +kernel, rfl, rfl⟩
theorem dX7_sheet_40 : DLi mX7_sheet 40 3 41 := Or.inl ⟨3, by decide +kernel, rfl, rfl⟩
theorem dX7_sheet_41 : D0 mX7_sheet 41 (.invokevirtual 272) 3 44 := ⟨by decide +kernel, rfl⟩
theorem dX7_sheet_44 : DLi mX7_sheet 44 3 45 := Or.inl ⟨3, by decide +kernel, rfl, rfl⟩
theorem dX7_sheet_45 : D0 mX7_sheet 45 (.ireturn) 1 46 := ⟨by decide +kernel, rfl⟩
theorem dX7_lose_0 : DLi mX7_lose 0 1 1 := Or.inl ⟨1, by decide +kernel, rfl, rfl⟩
theorem dX7_lose_1 : D0 mX7_lose 1 (.invokestatic 118) 3 4 := ⟨by decide +kernel, rfl⟩
theorem dX7_lose_4 : DFne mX7_lose 4 10 7 := ⟨6, by decide +kernel, by decide, rfl⟩
theorem dX7_lose_7 : DKi mX7_lose 7 ((-2)) 9 := Or.inr (Or.inl ⟨(-2), by decide +kernel, by decide, rfl⟩)
theorem dX7_lose_9 : D0 mX7_lose 9 (.ireturn) 1 10 := ⟨by decide +kernel, rfl⟩
theorem dX7_lose_10 : DLa mX7_lose 10 0 11 := Or.inl ⟨0, by decide +kernel, rfl, rfl⟩
theorem dX7_lose_11 : D0 mX7_lose 11 (.getfield 58) 3 14 := ⟨by decide +kernel, rfl⟩
theorem dX7_lose_14 : DLi mX7_lose 14 1 15 := Or.inl ⟨1, by decide +kernel, rfl, rfl⟩
theorem dX7_lose_15 : D0 mX7_lose 15 (.aaload) 1 16 := ⟨by decide +kernel, rfl⟩
theorem dX7_lose_16 : DSa mX7_lose 16 2 17 := ⟨by decide, Or.inl ⟨2, by decide +kernel, rfl, rfl⟩⟩
theorem dX7_lose_17 : DLa mX7_lose 17 2 18 := Or.inl ⟨2, by decide +kernel, rfl, rfl⟩
theorem dX7_lose_18 : D0 mX7_lose 18 (.getfield 121) 3 21 := ⟨by decide +kernel, rfl⟩
theorem dX7_lose_21 : DFeq mX7_lose 21 30 24 := ⟨9, by decide +kernel, by decide, rfl⟩
theorem dX7_lose_24 : DLa mX7_lose 24 0 25 := Or.inl ⟨0, by decide +kernel, rfl, rfl⟩
theorem dX7_lose_25 : DKi mX7_lose 25 (nI 1) 26 := Or.inl ⟨1, by decide +kernel, by decide, rfl⟩
theorem dX7_lose_26 : D0 mX7_lose 26 (.invokevirtual 125) 3 29 := ⟨by decide +kernel, rfl⟩
theorem dX7_lose_29 : D0 mX7_lose 29 (.ireturn) 1 30 := ⟨by decide +kernel, rfl⟩
theorem dX7_lose_30 : DLa mX7_lose 30 2 31 := Or.inl ⟨2, by decide +kernel, rfl, rfl⟩
theorem dX7_lose_31 : DKi mX7_lose 31 (nI 1) 32 := Or.inl ⟨1, by decide +kernel, by decide, rfl⟩
theorem dX7_lose_32 : D0 mX7_lose 32 (.putfield 121) 3 35 := ⟨by decide +kernel, rfl⟩
theorem dX7_lose_35 : DLa mX7_lose 35 2 36 := Or.inl ⟨2, by decide +kernel, rfl, rfl⟩
theorem dX7_lose_36 : D0 mX7_lose 36 (.getfield 128) 3 39 := ⟨by decide +kernel, rfl⟩
theorem dX7_lose_39 : D0 mX7_lose 39 (.ireturn) 1 40 := ⟨by decide +kernel, rfl⟩
theorem dX7_put_0 : DLi mX7_put 0 1 1 := Or.inl ⟨1, by decide +kernel, rfl, rfl⟩
theorem dX7_put_1 : D0 mX7_put 1 (.invokestatic 118) 3 4 := ⟨by decide +kernel, rfl⟩
theorem dX7_put_4 : DFeq mX7_put 4 14 7 := ⟨10, by decide +kernel, by decide, rfl⟩
theorem dX7_put_7 : DLi mX7_put 7 2 8 := Or.inl ⟨2, by decide +kernel, rfl, rfl⟩
theorem dX7_put_8 : D0 mX7_put 8 (.invokestatic 269) 3 11 := ⟨by decide +kernel, rfl⟩
theorem dX7_put_11 : DFne mX7_put 11 17 14 := ⟨6, by decide +kernel, by decide, rfl⟩
theorem dX7_put_14 : DKi mX7_put 14 ((-2)) 16 := Or.inr (Or.inl ⟨(-2), by decide +kernel, by decide, rfl⟩)
theorem dX7_put_16 : D0 mX7_put 16 (.ireturn) 1 17 := ⟨by decide +kernel, rfl⟩
theorem dX7_put_17 : DLa mX7_put 17 0 18 := Or.inl ⟨0, by decide +kernel, rfl, rfl⟩
theorem dX7_put_18 : D0 mX7_put 18 (.getfield 58) 3 21 := ⟨by decide +kernel, rfl⟩
theorem dX7_put_21 : DLi mX7_put 21 1 22 := Or.inl ⟨1, by decide +kernel, rfl, rfl⟩
theorem dX7_put_22 : D0 mX7_put 22 (.aaload) 1 23 := ⟨by decide +kernel, rfl⟩
theorem dX7_put_23 : DLi mX7_put 23 2 24 := Or.inl ⟨2, by decide +kernel, rfl, rfl⟩
theorem dX7_put_24 : DLi mX7_put 24 3 25 := Or.inl ⟨3, by decide +kernel, rfl, rfl⟩
theorem dX7_put_25 : D0 mX7_put 25 (.invokevirtual 275) 3 28 := ⟨by decide +kernel, rfl⟩
theorem dX7_put_28 : DSi mX7_put 28 5 30 := ⟨by decide, Or.inr ⟨by decide +kernel, rfl⟩⟩
theorem dX7_put_30 : DLi mX7_put 30 5 32 := Or.inr ⟨by decide +kernel, rfl⟩
theorem dX7_put_32 : DFeq mX7_put 32 42 35 := ⟨10, by decide +kernel, by decide, rfl⟩
theorem dX7_put_35 : DLa mX7_put 35 0 36 := Or.inl ⟨0, by decide +kernel, rfl, rfl⟩
theorem dX7_put_36 : DLi mX7_put 36 5 38 := Or.inr ⟨by decide +kernel, rfl⟩
theorem dX7_put_38 : D0 mX7_put 38 (.invokevirtual 125) 3 41 := ⟨by decide +kernel, rfl⟩
theorem dX7_put_41 : D0 mX7_put 41 (.ireturn) 1 42 := ⟨by decide +kernel, rfl⟩
theorem dX7_put_42 : DLa mX7_put 42 0 43 := Or.inl ⟨0, by decide +kernel, rfl, rfl⟩
theorem dX7_put_43 : D0 mX7_put 43 (.getfield 58) 3 46 := ⟨by decide +kernel, rfl⟩
theorem dX7_put_46 : DLi mX7_put 46 1 47 := Or.inl ⟨1, by decide +kernel, rfl, rfl⟩
theorem dX7_put_47 : D0 mX7_put 47 (.aaload) 1 48 := ⟨by decide +kernel, rfl⟩
theorem dX7_put_48 : DLi mX7_put 48 3 49 := Or.inl ⟨3, by decide +kernel, rfl, rfl⟩
theorem dX7_put_49 : DLi mX7_put 49 4 51 := Or.inr ⟨by decide +kernel, rfl⟩
theorem dX7_put_51 : D0 mX7_put 51 (.invokevirtual 278) 3 54 := ⟨by decide +kernel, rfl⟩
theorem dX7_put_54 : DKi mX7_put 54 (nI 1) 55 := Or.inl ⟨1, by decide +kernel, by decide, rfl⟩
theorem dX7_put_55 : D0 mX7_put 55 (.ireturn) 1 56 := ⟨by decide +kernel, rfl⟩
theorem dX7_get_0 : DLi mX7_get 0 1 1 := Or.inl ⟨1, by decide +kernel, rfl, rfl⟩
theorem dX7_get_1 : D0 mX7_get 1 (.invokestatic 118) 3 4 := ⟨by decide +kernel, rfl⟩
theorem dX7_get_4 : DFeq mX7_get 4 14 7 := ⟨10, by decide +kernel, by decide, rfl⟩
theorem dX7_get_7 : DLi mX7_get 7 2 8 := Or.inl ⟨2, by decide +kernel, rfl, rfl⟩
theorem dX7_get_8 : D0 mX7_get 8 (.invokestatic 269) 3 11 := ⟨by decide +kernel, rfl⟩
theorem dX7_get_11 : DFne mX7_get 11 18 14 := ⟨7, by decide +kernel, by decide, rfl⟩
theorem dX7_get_14 : DKi mX7_get 14 ((-2147483648)) 17 := Or.inr (Or.inr (Or.inr (Or.inr ⟨283, by decide +kernel, bt440, rfl⟩)))
theorem dX7_get_17 : D0 mX7_get 17 (.ireturn) 1 18 := ⟨by decide +kernel, rfl⟩
theorem dX7_get_18 : DLa mX7_get 18 0 19 := Or.inl ⟨0, by decide +kernel, rfl, rfl⟩
theorem dX7_get_19 : D0 mX7_get 19 (.getfield 58) 3 22 := ⟨by decide +kernel, rfl⟩
theorem dX7_get_22 : DLi mX7_get 22 1 23 := Or.inl ⟨1, by decide +kernel, rfl, rfl⟩
theorem dX7_get_23 : D0 mX7_get 23 (.aaload) 1 24 := ⟨by decide +kernel, rfl⟩
theorem dX7_get_24 : DLi mX7_get 24 2 25 := Or.inl ⟨2, by decide +kernel, rfl, rfl⟩
theorem dX7_get_25 : DLi mX7_get 25 3 26 := Or.inl ⟨3, by decide +kernel, rfl, rfl⟩
theorem dX7_get_26 : D0 mX7_get 26 (.invokevirtual 275) 3 29 := ⟨by decide +kernel, rfl⟩
theorem dX7_get_29 : DSi mX7_get 29 4 31 := ⟨by decide, Or.inr ⟨by decide +kernel, rfl⟩⟩
theorem dX7_get_31 : DLi mX7_get 31 4 33 := Or.inr ⟨by decide +kernel, rfl⟩
theorem dX7_get_33 : DFeq mX7_get 33 46 36 := ⟨13, by decide +kernel, by decide, rfl⟩
theorem dX7_get_36 : DLa mX7_get 36 0 37 := Or.inl ⟨0, by decide +kernel, rfl, rfl⟩
theorem dX7_get_37 : DLi mX7_get 37 4 39 := Or.inr ⟨by decide +kernel, rfl⟩
theorem dX7_get_39 : D0 mX7_get 39 (.putfield 284) 3 42 := ⟨by decide +kernel, rfl⟩
theorem dX7_get_42 : DKi mX7_get 42 ((-2147483648)) 45 := Or.inr (Or.inr (Or.inr (Or.inr ⟨283, by decide +kernel, bt440, rfl⟩)))
theorem dX7_get_45 : D0 mX7_get 45 (.ireturn) 1 46 := ⟨by decide +kernel, rfl⟩
theorem dX7_get_46 : DLa mX7_get 46 0 47 := Or.inl ⟨0, by decide +kernel, rfl, rfl⟩
theorem dX7_get_47 : D0 mX7_get 47 (.getfield 58) 3 50 := ⟨by decide +kernel, rfl⟩
theorem dX7_get_50 : DLi mX7_get 50 1 51 := Or.inl ⟨1, by decide +kernel, rfl, rfl⟩
theorem dX7_get_51 : D0 mX7_get 51 (.aaload) 1 52 := ⟨by decide +kernel, rfl⟩
theorem dX7_get_52 : D0 mX7_get 52 (.getfield 131) 3 55 := ⟨by decide +kernel, rfl⟩
theorem dX7_get_55 : DLi mX7_get 55 3 56 := Or.inl ⟨3, by decide +kernel, rfl, rfl⟩
theorem dX7_get_56 : D0 mX7_get 56 (.iaload) 1 57 := ⟨by decide +kernel, rfl⟩
theorem dX7_get_57 : D0 mX7_get 57 (.ireturn) 1 58 := ⟨by decide +kernel, rfl⟩
theorem dX7_copy_0 : DLi mX7_copy 0 1 1 := Or.inl ⟨1, by decide +kernel, rfl, rfl⟩
theorem dX7_copy_1 : D0 mX7_copy 1 (.invokestatic 118) 3 4 := ⟨by decide +kernel, rfl⟩
theorem dX7_copy_4 : DFeq mX7_copy 4 14 7 := ⟨10, by decide +kernel, by decide, rfl⟩
theorem dX7_copy_7 : DLi mX7_copy 7 3 8 := Or.inl ⟨3, by decide +kernel, rfl, rfl⟩
theorem dX7_copy_8 : D0 mX7_copy 8 (.invokestatic 118) 3 11 := ⟨by decide +kernel, rfl⟩
theorem dX7_copy_11 : DFne mX7_copy 11 17 14 := ⟨6, by decide +kernel, by decide, rfl⟩
theorem dX7_copy_14 : DKi mX7_copy 14 ((-2)) 16 := Or.inr (Or.inl ⟨(-2), by decide +kernel, by decide, rfl⟩)
theorem dX7_copy_16 : D0 mX7_copy 16 (.ireturn) 1 17 := ⟨by decide +kernel, rfl⟩
theorem dX7_copy_17 : DLa mX7_copy 17 0 18 := Or.inl ⟨0, by decide +kernel, rfl, rfl⟩
theorem dX7_copy_18 : D0 mX7_copy 18 (.getfield 58) 3 21 := ⟨by decide +kernel, rfl⟩
theorem dX7_copy_21 : DLi mX7_copy 21 1 22 := Or.inl ⟨1, by decide +kernel, rfl, rfl⟩
theorem dX7_copy_22 : D0 mX7_copy 22 (.aaload) 1 23 := ⟨by decide +kernel, rfl⟩
theorem dX7_copy_23 : DSa mX7_copy 23 6 25 := ⟨by decide, Or.inr ⟨by decide +kernel, rfl⟩⟩
theorem dX7_copy_25 : DLa mX7_copy 25 0 26 := Or.inl ⟨0, by decide +kernel, rfl, rfl⟩
theorem dX7_copy_26 : D0 mX7_copy 26 (.getfield 58) 3 29 := ⟨by decide +kernel, rfl⟩
theorem dX7_copy_29 : DLi mX7_copy 29 3 30 := Or.inl ⟨3, by decide +kernel, rfl, rfl⟩
theorem dX7_copy_30 : D0 mX7_copy 30 (.aaload) 1 31 := ⟨by decide +kernel, rfl⟩
theorem dX7_copy_31 : DSa mX7_copy 31 7 33 := ⟨by decide, Or.inr ⟨by decide +kernel, rfl⟩⟩
theorem dX7_copy_33 : DLa mX7_copy 33 6 35 := Or.inr ⟨by decide +kernel, rfl⟩
theorem dX7_copy_35 : D0 mX7_copy 35 (.getfield 121) 3 38 := ⟨by decide +kernel, rfl⟩
theorem dX7_copy_38 : DFne mX7_copy 38 49 41 := ⟨11, by decide +kernel, by decide, rfl⟩
theorem dX7_copy_41 : DLa mX7_copy 41 7 43 := Or.inr ⟨by decide +kernel, rfl⟩
theorem dX7_copy_43 : D0 mX7_copy 43 (.getfield 121) 3 46 := ⟨by decide +kernel, rfl⟩
theorem dX7_copy_46 : DFeq mX7_copy 46 55 49 := ⟨9, by decide +kernel, by decide, rfl⟩
theorem dX7_copy_49 : DLa mX7_copy 49 0 50 := Or.inl ⟨0, by decide +kernel, rfl, rfl⟩
theorem dX7_copy_50 : DKi mX7_copy 50 (nI 1) 51 := Or.inl ⟨1, by decide +kernel, by decide, rfl⟩
theorem dX7_copy_51 : D0 mX7_copy 51 (.invokevirtual 125) 3 54 := ⟨by decide +kernel, rfl⟩
theorem dX7_copy_54 : D0 mX7_copy 54 (.ireturn) 1 55 := ⟨by decide +kernel, rfl⟩
theorem dX7_copy_55 : DLa mX7_copy 55 6 57 := Or.inr ⟨by decide +kernel, rfl⟩
theorem dX7_copy_57 : D0 mX7_copy 57 (.getfield 287) 3 60 := ⟨by decide +kernel, rfl⟩
theorem dX7_copy_60 : DLa mX7_copy 60 7 62 := Or.inr ⟨by decide +kernel, rfl⟩
theorem dX7_copy_62 : D0 mX7_copy 62 (.getfield 287) 3 65 := ⟨by decide +kernel, rfl⟩
theorem dX7_copy_65 : DCeq mX7_copy 65 74 68 := ⟨9, by decide +kernel, by decide, rfl⟩
theorem dX7_copy_68 : DLa mX7_copy 68 0 69 := Or.inl ⟨0, by decide +kernel, rfl, rfl⟩
theorem dX7_copy_69 : DKi mX7_copy 69 (nI 4) 70 := Or.inl ⟨4, by decide +kernel, by decide, rfl⟩
theorem dX7_copy_70 : D0 mX7_copy 70 (.invokevirtual 125) 3 73 := ⟨by decide +kernel, rfl⟩
theorem dX7_copy_73 : D0 mX7_copy 73 (.ireturn) 1 74 := ⟨by decide +kernel, rfl⟩
theorem dX7_copy_74 : DLa mX7_copy 74 6 76 := Or.inr ⟨by decide +kernel, rfl⟩
theorem dX7_copy_76 : DLi mX7_copy 76 2 77 := Or.inl ⟨2, by decide +kernel, rfl, rfl⟩
theorem dX7_copy_77 : DLi mX7_copy 77 5 79 := Or.inr ⟨by decide +kernel, rfl⟩
theorem dX7_copy_79 : D0 mX7_copy 79 (.invokevirtual 290) 3 82 := ⟨by decide +kernel, rfl⟩
theorem dX7_copy_82 : DFeq mX7_copy 82 97 85 := ⟨15, by decide +kernel, by decide, rfl⟩
theorem dX7_copy_85 : DLa mX7_copy 85 7 87 := Or.inr ⟨by decide +kernel, rfl⟩
theorem dX7_copy_87 : DLi mX7_copy 87 4 89 := Or.inr ⟨by decide +kernel, rfl⟩
theorem dX7_copy_89 : DLi mX7_copy 89 5 91 := Or.inr ⟨by decide +kernel, rfl⟩
theorem dX7_copy_91 : D0 mX7_copy 91 (.invokevirtual 290) 3 94 := ⟨by decide +kernel, rfl⟩
theorem dX7_copy_94 : DFne mX7_copy 94 103 97 := ⟨9, by decide +kernel, by decide, rfl⟩
theorem dX7_copy_97 : DLa mX7_copy 97 0 98 := Or.inl ⟨0, by decide +kernel, rfl, rfl⟩
theorem dX7_copy_98 : DKi mX7_copy 98 (nI 2) 99 := Or.inl ⟨2, by decide +kernel, by decide, rfl⟩
theorem dX7_copy_99 : D0 mX7_copy 99 (.invokevirtual 125) 3 102 := ⟨by decide +kernel, rfl⟩
theorem dX7_copy_102 : D0 mX7_copy 102 (.ireturn) 1 103 := ⟨by decide +kernel, rfl⟩
theorem dX7_copy_103 : DLa mX7_copy 103 6 105 := Or.inr ⟨by decide +kernel, rfl⟩
theorem dX7_copy_105 : D0 mX7_copy 105 (.getfield 131) 3 108 := ⟨by decide +kernel, rfl⟩
theorem dX7_copy_108 : DLi mX7_copy 108 2 109 := Or.inl ⟨2, by decide +kernel, rfl, rfl⟩
theorem dX7_copy_109 : DLa mX7_copy 109 7 111 := Or.inr ⟨by decide +kernel, rfl⟩
theorem dX7_copy_111 : D0 mX7_copy 111 (.getfield 131) 3 114 := ⟨by decide +kernel, rfl⟩
theorem dX7_copy_114 : DLi mX7_copy 114 4 116 := Or.inr ⟨by decide +kernel, rfl⟩
theorem dX7_copy_116 : DLi mX7_copy 116 5 118 := Or.inr ⟨by decide +kernel, rfl⟩
theorem dX7_copy_118 : D0 mX7_copy 118 (.invokestatic 293) 3 121 := ⟨by decide +kernel, rfl⟩
theorem dX7_copy_121 : DKi mX7_copy 121 (nI 1) 122 := Or.inl ⟨1, by decide +kernel, by decide, rfl⟩
theorem dX7_copy_122 : D0 mX7_copy 122 (.ireturn) 1 123 := ⟨by decide +kernel, rfl⟩
end
section
theorem dX7_write_0 : DLi mX7_write 0 1 1 := Or.inl ⟨1, by decide +kernel, rfl, rfl⟩
theorem dX7_write_1 : D0 mX7_write 1 (.invokestatic 89) 3 4 := ⟨by decide +kernel, rfl⟩
theorem dX7_write_4 : DFeq mX7_write 4 14 7 := ⟨10, by decide +kernel, by decide, rfl⟩
theorem dX7_write_7 : DLi mX7_write 7 2 8 := Or.inl ⟨2, by decide +kernel, rfl, rfl⟩
theorem dX7_write_8 : D0 mX7_write 8 (.invokestatic 118) 3 11 := ⟨by decide +kernel, rfl⟩
theorem dX7_write_11 : DFne mX7_write 11 17 14 := ⟨6, by decide +kernel, by decide, rfl⟩
theorem dX7_write_14 : DKi mX7_write 14 ((-2)) 16 := Or.inr (Or.inl ⟨(-2), by decide +kernel, by decide, rfl⟩)
theorem dX7_write_16 : D0 mX7_write 16 (.ireturn) 1 17 := ⟨by decide +kernel, rfl⟩
theorem dX7_write_17 : DLa mX7_write 17 0 18 := Or.inl ⟨0, by decide +kernel, rfl, rfl⟩
theorem dX7_write_18 : D0 mX7_write 18 (.getfield 58) 3 21 := ⟨by decide +kernel, rfl⟩
theorem dX7_write_21 : DLi mX7_write 21 2 22 := Or.inl ⟨2, by decide +kernel, rfl, rfl⟩
theorem dX7_write_22 : D0 mX7_write 22 (.aaload) 1 23 := ⟨by decide +kernel, rfl⟩
theorem dX7_write_23 : DSa mX7_write 23 3 24 := ⟨by decide, Or.inl ⟨3, by decide +kernel, rfl, rfl⟩⟩
theorem dX7_write_24 : DLa mX7_write 24 3 25 := Or.inl ⟨3, by decide +kernel, rfl, rfl⟩
theorem dX7_write_25 : D0 mX7_write 25 (.getfield 121) 3 28 := ⟨by decide +kernel, rfl⟩
theorem dX7_write_28 : DFeq mX7_write 28 37 31 := ⟨9, by decide +kernel, by decide, rfl⟩
theorem dX7_write_31 : DLa mX7_write 31 0 32 := Or.inl ⟨0, by decide +kernel, rfl, rfl⟩
theorem dX7_write_32 : DKi mX7_write 32 (nI 1) 33 := Or.inl ⟨1, by decide +kernel, by decide, rfl⟩
theorem dX7_write_33 : D0 mX7_write 33 (.invokevirtual 125) 3 36 := ⟨by decide +kernel, rfl⟩
theorem dX7_write_36 : D0 mX7_write 36 (.ireturn) 1 37 := ⟨by decide +kernel, rfl⟩
theorem dX7_write_37 : DLa mX7_write 37 3 38 := Or.inl ⟨3, by decide +kernel, rfl, rfl⟩
theorem dX7_write_38 : D0 mX7_write 38 (.getfield 128) 3 41 := ⟨by decide +kernel, rfl⟩
theorem dX7_write_41 : DKi mX7_write 41 (nI 100) 43 := Or.inr (Or.inl ⟨100, by decide +kernel, by decide, rfl⟩)
theorem dX7_write_43 : DLi mX7_write 43 1 44 := Or.inl ⟨1, by decide +kernel, rfl, rfl⟩
theorem dX7_write_44 : D0 mX7_write 44 (.isub) 1 45 := ⟨by decide +kernel, rfl⟩
theorem dX7_write_45 : D0 mX7_write 45 (.invokestatic 170) 3 48 := ⟨by decide +kernel, rfl⟩
theorem dX7_write_48 : DSi mX7_write 48 4 50 := ⟨by decide, Or.inr ⟨by decide +kernel, rfl⟩⟩
theorem dX7_write_50 : DKi mX7_write 50 (nI 0) 51 := Or.inl ⟨0, by decide +kernel, by decide, rfl⟩
theorem dX7_write_51 : DSi mX7_write 51 5 53 := ⟨by decide, Or.inr ⟨by decide +kernel, rfl⟩⟩
theorem dX7_write_53 : DLi mX7_write 53 5 55 := Or.inr ⟨by decide +kernel, rfl⟩
theorem dX7_write_55 : DLi mX7_write 55 4 57 := Or.inr ⟨by decide +kernel, rfl⟩
theorem dX7_write_57 : DCge mX7_write 57 84 60 := ⟨27, by decide +kernel, by decide, rfl⟩
theorem dX7_write_60 : DLa mX7_write 60 3 61 := Or.inl ⟨3, by decide +kernel, rfl, rfl⟩
theorem dX7_write_61 : DLi mX7_write 61 5 63 := Or.inr ⟨by decide +kernel, rfl⟩
theorem dX7_write_63 : DLa mX7_write 63 0 64 := Or.inl ⟨0, by decide +kernel, rfl, rfl⟩
theorem dX7_write_64 : D0 mX7_write 64 (.getfield 21) 3 67 := ⟨by decide +kernel, rfl⟩
theorem dX7_write_67 : D0 mX7_write 67 (.getfield 100) 3 70 := ⟨by decide +kernel, rfl⟩
theorem dX7_write_70 : DLi mX7_write 70 1 71 := Or.inl ⟨1, by decide +kernel, rfl, rfl⟩
theorem dX7_write_71 : DLi mX7_write 71 5 73 := Or.inr ⟨by decide +kernel, rfl⟩
theorem dX7_write_73 : D0 mX7_write 73 (.iadd) 1 74 := ⟨by decide +kernel, rfl⟩
theorem dX7_write_74 : D0 mX7_write 74 (.iaload) 1 75 := ⟨by decide +kernel, rfl⟩
theorem dX7_write_75 : D0 mX7_write 75 (.invokevirtual 278) 3 78 := ⟨by decide +kernel, rfl⟩
theorem dX7_write_78 : DIn mX7_write 78 5 (nI 1) 81 := ⟨by decide, 1, by decide +kernel, by decide, rfl⟩
theorem dX7_write_81 : DG mX7_write 81 53 := ⟨(-28), by decide +kernel, by decide⟩
theorem dX7_write_84 : DLi mX7_write 84 4 86 := Or.inr ⟨by decide +kernel, rfl⟩
theorem dX7_write_86 : D0 mX7_write 86 (.ireturn) 1 87 := ⟨by decide +kernel, rfl⟩
theorem dX7_count_0 : DLi mX7_count 0 1 1 := Or.inl ⟨1, by decide +kernel, rfl, rfl⟩
theorem dX7_count_1 : decode (mC mX7_count) 1 = .ok (.tableswitch 120 0 8 #[51, 59, 67, 75, 83, 91, 99, 107, 115], 51) := by decide +kernel
theorem dX7_count_52 : DLa mX7_count 52 0 53 := Or.inl ⟨0, by decide +kernel, rfl, rfl⟩
theorem dX7_count_53 : D0 mX7_count 53 (.getfield 21) 3 56 := ⟨by decide +kernel, rfl⟩
theorem dX7_count_56 : D0 mX7_count 56 (.getfield 115) 3 59 := ⟨by decide +kernel, rfl⟩
theorem dX7_count_59 : D0 mX7_count 59 (.ireturn) 1 60 := ⟨by decide +kernel, rfl⟩
theorem dX7_count_60 : DLa mX7_count 60 0 61 := Or.inl ⟨0, by decide +kernel, rfl, rfl⟩
theorem dX7_count_61 : D0 mX7_count 61 (.getfield 21) 3 64 := ⟨by decide +kernel, rfl⟩
theorem dX7_count_64 : D0 mX7_count 64 (.invokevirtual 299) 3 67 := ⟨by decide +kernel, rfl⟩
theorem dX7_count_67 : D0 mX7_count 67 (.ireturn) 1 68 := ⟨by decide +kernel, rfl⟩
theorem dX7_count_68 : DLa mX7_count 68 0 69 := Or.inl ⟨0, by decide +kernel, rfl, rfl⟩
theorem dX7_count_69 : D0 mX7_count 69 (.getfield 12) 3 72 := ⟨by decide +kernel, rfl⟩
theorem dX7_count_72 : D0 mX7_count 72 (.getfield 302) 3 75 := ⟨by decide +kernel, rfl⟩
theorem dX7_count_75 : D0 mX7_count 75 (.ireturn) 1 76 := ⟨by decide +kernel, rfl⟩
theorem dX7_count_76 : DLa mX7_count 76 0 77 := Or.inl ⟨0, by decide +kernel, rfl, rfl⟩
theorem dX7_count_77 : D0 mX7_count 77 (.getfield 12) 3 80 := ⟨by decide +kernel, rfl⟩
theorem dX7_count_80 : D0 mX7_count 80 (.getfield 93) 3 83 := ⟨by decide +kernel, rfl⟩
theorem dX7_count_83 : D0 mX7_count 83 (.ireturn) 1 84 := ⟨by decide +kernel, rfl⟩
theorem dX7_count_84 : DLa mX7_count 84 0 85 := Or.inl ⟨0, by decide +kernel, rfl, rfl⟩
theorem dX7_count_85 : D0 mX7_count 85 (.getfield 12) 3 88 := ⟨by decide +kernel, rfl⟩
theorem dX7_count_88 : D0 mX7_count 88 (.invokevirtual 305) 3 91 := ⟨by decide +kernel, rfl⟩
theorem dX7_count_91 : D0 mX7_count 91 (.ireturn) 1 92 := ⟨by decide +kernel, rfl⟩
theorem dX7_count_92 : DLa mX7_count 92 0 93 := Or.inl ⟨0, by decide +kernel, rfl, rfl⟩
theorem dX7_count_93 : D0 mX7_count 93 (.getfield 21) 3 96 := ⟨by decide +kernel, rfl⟩
theorem dX7_count_96 : D0 mX7_count 96 (.getfield 308) 3 99 := ⟨by decide +kernel, rfl⟩
theorem dX7_count_99 : D0 mX7_count 99 (.ireturn) 1 100 := ⟨by decide +kernel, rfl⟩
theorem dX7_count_100 : DLa mX7_count 100 0 101 := Or.inl ⟨0, by decide +kernel, rfl, rfl⟩
theorem dX7_count_101 : D0 mX7_count 101 (.getfield 21) 3 104 := ⟨by decide +kernel, rfl⟩
theorem dX7_count_104 : D0 mX7_count 104 (.getfield 311) 3 107 := ⟨by decide +kernel, rfl⟩
theorem dX7_count_107 : D0 mX7_count 107 (.ireturn) 1 108 := ⟨by decide +kernel, rfl⟩
theorem dX7_count_108 : DLa mX7_count 108 0 109 := Or.inl ⟨0, by decide +kernel, rfl, rfl⟩
theorem dX7_count_109 : D0 mX7_count 109 (.getfield 45) 3 112 := ⟨by decide +kernel, rfl⟩
theorem dX7_count_112 : D0 mX7_count 112 (.invokevirtual 314) 3 115 := ⟨by decide +kernel, rfl⟩
theorem dX7_count_115 : D0 mX7_count 115 (.ireturn) 1 116 := ⟨by decide +kernel, rfl⟩
theorem dX7_count_116 : DLa mX7_count 116 0 117 := Or.inl ⟨0, by decide +kernel, rfl, rfl⟩
theorem dX7_count_117 : D0 mX7_count 117 (.getfield 284) 3 120 := ⟨by decide +kernel, rfl⟩
theorem dX7_count_120 : D0 mX7_count 120 (.ireturn) 1 121 := ⟨by decide +kernel, rfl⟩
theorem dX7_count_121 : DKi mX7_count 121 ((-2)) 123 := Or.inr (Or.inl ⟨(-2), by decide +kernel, by decide, rfl⟩)
theorem dX7_count_123 : D0 mX7_count 123 (.ireturn) 1 124 := ⟨by decide +kernel, rfl⟩
theorem dX7_digest_0 : DKl mX7_digest 0 (lN 17) 3 := Or.inr ⟨317, by decide +kernel, bt463, rfl⟩
theorem dX7_digest_3 : DSl mX7_digest 3 1 4 := ⟨by decide, Or.inl ⟨1, by decide +kernel, rfl, rfl⟩⟩
theorem dX7_digest_4 : DKi mX7_digest 4 (nI 0) 5 := Or.inl ⟨0, by decide +kernel, by decide, rfl⟩
theorem dX7_digest_5 : DSi mX7_digest 5 3 6 := ⟨by decide, Or.inl ⟨3, by decide +kernel, rfl, rfl⟩⟩
theorem dX7_digest_6 : DLi mX7_digest 6 3 7 := Or.inl ⟨3, by decide +kernel, rfl, rfl⟩
theorem dX7_digest_7 : DKi mX7_digest 7 (nI 8) 9 := Or.inr (Or.inl ⟨8, by decide +kernel, by decide, rfl⟩)
theorem dX7_digest_9 : DCge mX7_digest 9 31 12 := ⟨22, by decide +kernel, by decide, rfl⟩
theorem dX7_digest_12 : DKl mX7_digest 12 (lN 31) 15 := Or.inr ⟨319, by decide +kernel, bt464, rfl⟩
theorem dX7_digest_15 : DLl mX7_digest 15 1 16 := Or.inl ⟨1, by decide +kernel, rfl, rfl⟩
theorem dX7_digest_16 : D0 mX7_digest 16 (.lmul) 1 17 := ⟨by decide +kernel, rfl⟩
theorem dX7_digest_17 : DLa mX7_digest 17 0 18 := Or.inl ⟨0, by decide +kernel, rfl, rfl⟩
theorem dX7_digest_18 : DLi mX7_digest 18 3 19 := Or.inl ⟨3, by decide +kernel, rfl, rfl⟩
theorem dX7_digest_19 : D0 mX7_digest 19 (.invokevirtual 321) 3 22 := ⟨by decide +kernel, rfl⟩
theorem dX7_digest_22 : D0 mX7_digest 22 (.i2l) 1 23 := ⟨by decide +kernel, rfl⟩
theorem dX7_digest_23 : D0 mX7_digest 23 (.ladd) 1 24 := ⟨by decide +kernel, rfl⟩
theorem dX7_digest_24 : DSl mX7_digest 24 1 25 := ⟨by decide, Or.inl ⟨1, by decide +kernel, rfl, rfl⟩⟩
theorem dX7_digest_25 : DIn mX7_digest 25 3 (nI 1) 28 := ⟨by decide, 1, by decide +kernel, by decide, rfl⟩
theorem dX7_digest_28 : DG mX7_digest 28 6 := ⟨(-22), by decide +kernel, by decide⟩
theorem dX7_digest_31 : DKl mX7_digest 31 (lN 31) 34 := Or.inr ⟨319, by decide +kernel, bt464, rfl⟩
theorem dX7_digest_34 : DLl mX7_digest 34 1 35 := Or.inl ⟨1, by decide +kernel, rfl, rfl⟩
theorem dX7_digest_35 : D0 mX7_digest 35 (.lmul) 1 36 := ⟨by decide +kernel, rfl⟩
theorem dX7_digest_36 : DLa mX7_digest 36 0 37 := Or.inl ⟨0, by decide +kernel, rfl, rfl⟩
theorem dX7_digest_37 : D0 mX7_digest 37 (.getfield 12) 3 40 := ⟨by decide +kernel, rfl⟩
theorem dX7_digest_40 : D0 mX7_digest 40 (.getfield 75) 3 43 := ⟨by decide +kernel, rfl⟩
theorem dX7_digest_43 : D0 mX7_digest 43 (.i2l) 1 44 := ⟨by decide +kernel, rfl⟩
theorem dX7_digest_44 : D0 mX7_digest 44 (.ladd) 1 45 := ⟨by decide +kernel, rfl⟩
theorem dX7_digest_45 : DSl mX7_digest 45 1 46 := ⟨by decide, Or.inl ⟨1, by decide +kernel, rfl, rfl⟩⟩
theorem dX7_digest_46 : DLa mX7_digest 46 0 47 := Or.inl ⟨0, by decide +kernel, rfl, rfl⟩
theorem dX7_digest_47 : DLl mX7_digest 47 1 48 := Or.inl ⟨1, by decide +kernel, rfl, rfl⟩
theorem dX7_digest_48 : D0 mX7_digest 48 (.invokevirtual 324) 3 51 := ⟨by decide +kernel, rfl⟩
theorem dX7_digest_51 : DSl mX7_digest 51 1 52 := ⟨by decide, Or.inl ⟨1, by decide +kernel, rfl, rfl⟩⟩
theorem dX7_digest_52 : DKl mX7_digest 52 (lN 31) 55 := Or.inr ⟨319, by decide +kernel, bt464, rfl⟩
theorem dX7_digest_55 : DLl mX7_digest 55 1 56 := Or.inl ⟨1, by decide +kernel, rfl, rfl⟩
theorem dX7_digest_56 : D0 mX7_digest 56 (.lmul) 1 57 := ⟨by decide +kernel, rfl⟩
theorem dX7_digest_57 : DLa mX7_digest 57 0 58 := Or.inl ⟨0, by decide +kernel, rfl, rfl⟩
theorem dX7_digest_58 : D0 mX7_digest 58 (.getfield 21) 3 61 := ⟨by decide +kernel, rfl⟩
theorem dX7_digest_61 : D0 mX7_digest 61 (.getfield 100) 3 64 := ⟨by decide +kernel, rfl⟩
theorem dX7_digest_64 : DKi mX7_digest 64 (nI 0) 65 := Or.inl ⟨0, by decide +kernel, by decide, rfl⟩
theorem dX7_digest_65 : D0 mX7_digest 65 (.iaload) 1 66 := ⟨by decide +kernel, rfl⟩
theorem dX7_digest_66 : D0 mX7_digest 66 (.i2l) 1 67 := ⟨by decide +kernel, rfl⟩
theorem dX7_digest_67 : D0 mX7_digest 67 (.ladd) 1 68 := ⟨by decide +kernel, rfl⟩
theorem dX7_digest_68 : DSl mX7_digest 68 1 69 := ⟨by decide, Or.inl ⟨1, by decide +kernel, rfl, rfl⟩⟩
theorem dX7_digest_69 : DKl mX7_digest 69 (lN 31) 72 := Or.inr ⟨319, by decide +kernel, bt464, rfl⟩
theorem dX7_digest_72 : DLl mX7_digest 72 1 73 := Or.inl ⟨1, by decide +kernel, rfl, rfl⟩
theorem dX7_digest_73 : D0 mX7_digest 73 (.lmul) 1 74 := ⟨by decide +kernel, rfl⟩
theorem dX7_digest_74 : DLa mX7_digest 74 0 75 := Or.inl ⟨0, by decide +kernel, rfl, rfl⟩
theorem dX7_digest_75 : D0 mX7_digest 75 (.getfield 21) 3 78 := ⟨by decide +kernel, rfl⟩
theorem dX7_digest_78 : D0 mX7_digest 78 (.getfield 100) 3 81 := ⟨by decide +kernel, rfl⟩
theorem dX7_digest_81 : DKi mX7_digest 81 (nI 25) 83 := Or.inr (Or.inl ⟨25, by decide +kernel, by decide, rfl⟩)
theorem dX7_digest_83 : D0 mX7_digest 83 (.iaload) 1 84 := ⟨by decide +kernel, rfl⟩
theorem dX7_digest_84 : D0 mX7_digest 84 (.i2l) 1 85 := ⟨by decide +kernel, rfl⟩
theorem dX7_digest_85 : D0 mX7_digest 85 (.ladd) 1 86 := ⟨by decide +kernel, rfl⟩
theorem dX7_digest_86 : DSl mX7_digest 86 1 87 := ⟨by decide, Or.inl ⟨1, by decide +kernel, rfl, rfl⟩⟩
theorem dX7_digest_87 : DKl mX7_digest 87 (lN 31) 90 := Or.inr ⟨319, by decide +kernel, bt464, rfl⟩
theorem dX7_digest_90 : DLl mX7_digest 90 1 91 := Or.inl ⟨1, by decide +kernel, rfl, rfl⟩
theorem dX7_digest_91 : D0 mX7_digest 91 (.lmul) 1 92 := ⟨by decide +kernel, rfl⟩
theorem dX7_digest_92 : DLa mX7_digest 92 0 93 := Or.inl ⟨0, by decide +kernel, rfl, rfl⟩
theorem dX7_digest_93 : D0 mX7_digest 93 (.getfield 21) 3 96 := ⟨by decide +kernel, rfl⟩
theorem dX7_digest_96 : D0 mX7_digest 96 (.getfield 100) 3 99 := ⟨by decide +kernel, rfl⟩
theorem dX7_digest_99 : DKi mX7_digest 99 (nI 50) 101 := Or.inr (Or.inl ⟨50, by decide +kernel, by decide, rfl⟩)
theorem dX7_digest_101 : D0 mX7_digest 101 (.iaload) 1 102 := ⟨by decide +kernel, rfl⟩
theorem dX7_digest_102 : D0 mX7_digest 102 (.i2l) 1 103 := ⟨by decide +kernel, rfl⟩
theorem dX7_digest_103 : D0 mX7_digest 103 (.ladd) 1 104 := ⟨by decide +kernel, rfl⟩
theorem dX7_digest_104 : DSl mX7_digest 104 1 105 := ⟨by decide, Or.inl ⟨1, by decide +kernel, rfl, rfl⟩⟩
theorem dX7_digest_105 : DKl mX7_digest 105 (lN 31) 108 := Or.inr ⟨319, by decide +kernel, bt464, rfl⟩
theorem dX7_digest_108 : DLl mX7_digest 108 1 109 := Or.inl ⟨1, by decide +kernel, rfl, rfl⟩
theorem dX7_digest_109 : D0 mX7_digest 109 (.lmul) 1 110 := ⟨by decide +kernel, rfl⟩
theorem dX7_digest_110 : DLa mX7_digest 110 0 111 := Or.inl ⟨0, by decide +kernel, rfl, rfl⟩
theorem dX7_digest_111 : D0 mX7_digest 111 (.getfield 21) 3 114 := ⟨by decide +kernel, rfl⟩
theorem dX7_digest_114 : D0 mX7_digest 114 (.getfield 100) 3 117 := ⟨by decide +kernel, rfl⟩
theorem dX7_digest_117 : DKi mX7_digest 117 (nI 75) 119 := Or.inr (Or.inl ⟨75, by decide +kernel, by decide, rfl⟩)
theorem dX7_digest_119 : D0 mX7_digest 119 (.iaload) 1 120 := ⟨by decide +kernel, rfl⟩
theorem dX7_digest_120 : D0 mX7_digest 120 (.i2l) 1 121 := ⟨by decide +kernel, rfl⟩
theorem dX7_digest_121 : D0 mX7_digest 121 (.ladd) 1 122 := ⟨by decide +kernel, rfl⟩
theorem dX7_digest_122 : DSl mX7_digest 122 1 123 := ⟨by decide, Or.inl ⟨1, by decide +kernel, rfl, rfl⟩⟩
theorem dX7_digest_123 : DKl mX7_digest 123 (lN 31) 126 := Or.inr ⟨319, by decide +kernel, bt464, rfl⟩
theorem dX7_digest_126 : DLl mX7_digest 126 1 127 := Or.inl ⟨1, by decide +kernel, rfl, rfl⟩
theorem dX7_digest_127 : D0 mX7_digest 127 (.lmul) 1 128 := ⟨by decide +kernel, rfl⟩
theorem dX7_digest_128 : DLa mX7_digest 128 0 129 := Or.inl ⟨0, by decide +kernel, rfl, rfl⟩
theorem dX7_digest_129 : D0 mX7_digest 129 (.getfield 21) 3 132 := ⟨by decide +kernel, rfl⟩
theorem dX7_digest_132 : D0 mX7_digest 132 (.getfield 100) 3 135 := ⟨by decide +kernel, rfl⟩
theorem dX7_digest_135 : DKi mX7_digest 135 (nI 99) 137 := Or.inr (Or.inl ⟨99, by decide +kernel, by decide, rfl⟩)
theorem dX7_digest_137 : D0 mX7_digest 137 (.iaload) 1 138 := ⟨by decide +kernel, rfl⟩
theorem dX7_digest_138 : D0 mX7_digest 138 (.i2l) 1 139 := ⟨by decide +kernel, rfl⟩
theorem dX7_digest_139 : D0 mX7_digest 139 (.ladd) 1 140 := ⟨by decide +kernel, rfl⟩
theorem dX7_digest_140 : DSl mX7_digest 140 1 141 := ⟨by decide, Or.inl ⟨1, by decide +kernel, rfl, rfl⟩⟩
theorem dX7_digest_141 : DLa mX7_digest 141 0 142 := Or.inl ⟨0, by decide +kernel, rfl, rfl⟩
theorem dX7_digest_142 : DLl mX7_digest 142 1 143 := Or.inl ⟨1, by decide +kernel, rfl, rfl⟩
theorem dX7_digest_143 : D0 mX7_digest 143 (.invokevirtual 328) 3 146 := ⟨by decide +kernel, rfl⟩
theorem dX7_digest_146 : DSl mX7_digest 146 1 147 := ⟨by decide, Or.inl ⟨1, by decide +kernel, rfl, rfl⟩⟩
theorem dX7_digest_147 : DKi mX7_digest 147 (nI 0) 148 := Or.inl ⟨0, by decide +kernel, by decide, rfl⟩
theorem dX7_digest_148 : DSi mX7_digest 148 3 149 := ⟨by decide, Or.inl ⟨3, by decide +kernel, rfl, rfl⟩⟩
theorem dX7_digest_149 : DLi mX7_digest 149 3 150 := Or.inl ⟨3, by decide +kernel, rfl, rfl⟩
theorem dX7_digest_150 : DKi mX7_digest 150 (nI 5) 151 := Or.inl ⟨5, by decide +kernel, by decide, rfl⟩
theorem dX7_digest_151 : DCge mX7_digest 151 194 154 := ⟨43, by decide +kernel, by decide, rfl⟩
theorem dX7_digest_154 : DKl mX7_digest 154 (lN 31) 157 := Or.inr ⟨319, by decide +kernel, bt464, rfl⟩
theorem dX7_digest_157 : DLl mX7_digest 157 1 158 := Or.inl ⟨1, by decide +kernel, rfl, rfl⟩
theorem dX7_digest_158 : D0 mX7_digest 158 (.lmul) 1 159 := ⟨by decide +kernel, rfl⟩
theorem dX7_digest_159 : DLa mX7_digest 159 0 160 := Or.inl ⟨0, by decide +kernel, rfl, rfl⟩
theorem dX7_digest_160 : DLi mX7_digest 160 3 161 := Or.inl ⟨3, by decide +kernel, rfl, rfl⟩
theorem dX7_digest_161 : DKi mX7_digest 161 (nI 0) 162 := Or.inl ⟨0, by decide +kernel, by decide, rfl⟩
theorem dX7_digest_162 : DKi mX7_digest 162 (nI 99) 164 := Or.inr (Or.inl ⟨99, by decide +kernel, by decide, rfl⟩)
theorem dX7_digest_164 : DKi mX7_digest 164 (nI 0) 165 := Or.inl ⟨0, by decide +kernel, by decide, rfl⟩
theorem dX7_digest_165 : D0 mX7_digest 165 (.invokevirtual 331) 3 168 := ⟨by decide +kernel, rfl⟩
theorem dX7_digest_168 : D0 mX7_digest 168 (.i2l) 1 169 := ⟨by decide +kernel, rfl⟩
theorem dX7_digest_169 : D0 mX7_digest 169 (.ladd) 1 170 := ⟨by decide +kernel, rfl⟩
theorem dX7_digest_170 : DSl mX7_digest 170 1 171 := ⟨by decide, Or.inl ⟨1, by decide +kernel, rfl, rfl⟩⟩
theorem dX7_digest_171 : DKl mX7_digest 171 (lN 31) 174 := Or.inr ⟨319, by decide +kernel, bt464, rfl⟩
theorem dX7_digest_174 : DLl mX7_digest 174 1 175 := Or.inl ⟨1, by decide +kernel, rfl, rfl⟩
theorem dX7_digest_175 : D0 mX7_digest 175 (.lmul) 1 176 := ⟨by decide +kernel, rfl⟩
theorem dX7_digest_176 : DLa mX7_digest 176 0 177 := Or.inl ⟨0, by decide +kernel, rfl, rfl⟩
theorem dX7_digest_177 : DLi mX7_digest 177 3 178 := Or.inl ⟨3, by decide +kernel, rfl, rfl⟩
theorem dX7_digest_178 : DKi mX7_digest 178 (nI 0) 179 := Or.inl ⟨0, by decide +kernel, by decide, rfl⟩
theorem dX7_digest_179 : DKi mX7_digest 179 (nI 99) 181 := Or.inr (Or.inl ⟨99, by decide +kernel, by decide, rfl⟩)
theorem dX7_digest_181 : DKi mX7_digest 181 (nI 1) 182 := Or.inl ⟨1, by decide +kernel, by decide, rfl⟩
theorem dX7_digest_182 : D0 mX7_digest 182 (.invokevirtual 331) 3 185 := ⟨by decide +kernel, rfl⟩
theorem dX7_digest_185 : D0 mX7_digest 185 (.i2l) 1 186 := ⟨by decide +kernel, rfl⟩
theorem dX7_digest_186 : D0 mX7_digest 186 (.ladd) 1 187 := ⟨by decide +kernel, rfl⟩
theorem dX7_digest_187 : DSl mX7_digest 187 1 188 := ⟨by decide, Or.inl ⟨1, by decide +kernel, rfl, rfl⟩⟩
theorem dX7_digest_188 : DIn mX7_digest 188 3 (nI 1) 191 := ⟨by decide, 1, by decide +kernel, by decide, rfl⟩
theorem dX7_digest_191 : DG mX7_digest 191 149 := ⟨(-42), by decide +kernel, by decide⟩
theorem dX7_digest_194 : DLa mX7_digest 194 0 195 := Or.inl ⟨0, by decide +kernel, rfl, rfl⟩
theorem dX7_digest_195 : DLl mX7_digest 195 1 196 := Or.inl ⟨1, by decide +kernel, rfl, rfl⟩
theorem dX7_digest_196 : D0 mX7_digest 196 (.invokevirtual 335) 3 199 := ⟨by decide +kernel, rfl⟩
theorem dX7_digest_199 : DSl mX7_digest 199 1 200 := ⟨by decide, Or.inl ⟨1, by decide +kernel, rfl, rfl⟩⟩
theorem dX7_digest_200 : DKi mX7_digest 200 (nI 0) 201 := Or.inl ⟨0, by decide +kernel, by decide, rfl⟩
theorem dX7_digest_201 : DSi mX7_digest 201 3 202 := ⟨by decide, Or.inl ⟨3, by decide +kernel, rfl, rfl⟩⟩
theorem dX7_digest_202 : DLi mX7_digest 202 3 203 := Or.inl ⟨3, by decide +kernel, rfl, rfl⟩
theorem dX7_digest_203 : DKi mX7_digest 203 (nI 4) 204 := Or.inl ⟨4, by decide +kernel, by decide, rfl⟩
theorem dX7_digest_204 : DCge mX7_digest 204 230 207 := ⟨26, by decide +kernel, by decide, rfl⟩
theorem dX7_digest_207 : DKl mX7_digest 207 (lN 31) 210 := Or.inr ⟨319, by decide +kernel, bt464, rfl⟩
theorem dX7_digest_210 : DLl mX7_digest 210 1 211 := Or.inl ⟨1, by decide +kernel, rfl, rfl⟩
theorem dX7_digest_211 : D0 mX7_digest 211 (.lmul) 1 212 := ⟨by decide +kernel, rfl⟩
theorem dX7_digest_212 : DLa mX7_digest 212 0 213 := Or.inl ⟨0, by decide +kernel, rfl, rfl⟩
theorem dX7_digest_213 : DKi mX7_digest 213 (nI 20) 215 := Or.inr (Or.inl ⟨20, by decide +kernel, by decide, rfl⟩)
theorem dX7_digest_215 : DKi mX7_digest 215 (nI 6) 217 := Or.inr (Or.inl ⟨6, by decide +kernel, by decide, rfl⟩)
theorem dX7_digest_217 : DLi mX7_digest 217 3 218 := Or.inl ⟨3, by decide +kernel, rfl, rfl⟩
theorem dX7_digest_218 : D0 mX7_digest 218 (.invokevirtual 338) 3 221 := ⟨by decide +kernel, rfl⟩
theorem dX7_digest_221 : D0 mX7_digest 221 (.i2l) 1 222 := ⟨by decide +kernel, rfl⟩
theorem dX7_digest_222 : D0 mX7_digest 222 (.ladd) 1 223 := ⟨by decide +kernel, rfl⟩
theorem dX7_digest_223 : DSl mX7_digest 223 1 224 := ⟨by decide, Or.inl ⟨1, by decide +kernel, rfl, rfl⟩⟩
theorem dX7_digest_224 : DIn mX7_digest 224 3 (nI 1) 227 := ⟨by decide, 1, by decide +kernel, by decide, rfl⟩
theorem dX7_digest_227 : DG mX7_digest 227 202 := ⟨(-25), by decide +kernel, by decide⟩
theorem dX7_digest_230 : DKl mX7_digest 230 (lN 31) 233 := Or.inr ⟨319, by decide +kernel, bt464, rfl⟩
theorem dX7_digest_233 : DLl mX7_digest 233 1 234 := Or.inl ⟨1, by decide +kernel, rfl, rfl⟩
theorem dX7_digest_234 : D0 mX7_digest 234 (.lmul) 1 235 := ⟨by decide +kernel, rfl⟩
theorem dX7_digest_235 : DLa mX7_digest 235 0 236 := Or.inl ⟨0, by decide +kernel, rfl, rfl⟩
theorem dX7_digest_236 : DKi mX7_digest 236 (nI 0) 237 := Or.inl ⟨0, by decide +kernel, by decide, rfl⟩
theorem dX7_digest_237 : DKi mX7_digest 237 (nI 50) 239 := Or.inr (Or.inl ⟨50, by decide +kernel, by decide, rfl⟩)
theorem dX7_digest_239 : D0 mX7_digest 239 (.invokevirtual 341) 3 242 := ⟨by decide +kernel, rfl⟩
theorem dX7_digest_242 : D0 mX7_digest 242 (.i2l) 1 243 := ⟨by decide +kernel, rfl⟩
theorem dX7_digest_243 : D0 mX7_digest 243 (.ladd) 1 244 := ⟨by decide +kernel, rfl⟩
theorem dX7_digest_244 : DSl mX7_digest 244 1 245 := ⟨by decide, Or.inl ⟨1, by decide +kernel, rfl, rfl⟩⟩
theorem dX7_digest_245 : DKl mX7_digest 245 (lN 31) 248 := Or.inr ⟨319, by decide +kernel, bt464, rfl⟩
theorem dX7_digest_248 : DLl mX7_digest 248 1 249 := Or.inl ⟨1, by decide +kernel, rfl, rfl⟩
theorem dX7_digest_249 : D0 mX7_digest 249 (.lmul) 1 250 := ⟨by decide +kernel, rfl⟩
theorem dX7_digest_250 : DLa mX7_digest 250 0 251 := Or.inl ⟨0, by decide +kernel, rfl, rfl⟩
theorem dX7_digest_251 : DKi mX7_digest 251 (nI 0) 252 := Or.inl ⟨0, by decide +kernel, by decide, rfl⟩
theorem dX7_digest_252 : DKi mX7_digest 252 (nI 4) 253 := Or.inl ⟨4, by decide +kernel, by decide, rfl⟩
theorem dX7_digest_253 : DKi mX7_digest 253 (nI 10) 255 := Or.inr (Or.inl ⟨10, by decide +kernel, by decide, rfl⟩)
theorem dX7_digest_255 : DKi mX7_digest 255 (nI 0) 256 := Or.inl ⟨0, by decide +kernel, by decide, rfl⟩
theorem dX7_digest_256 : D0 mX7_digest 256 (.invokevirtual 344) 3 259 := ⟨by decide +kernel, rfl⟩
theorem dX7_digest_259 : D0 mX7_digest 259 (.i2l) 1 260 := ⟨by decide +kernel, rfl⟩
theorem dX7_digest_260 : D0 mX7_digest 260 (.ladd) 1 261 := ⟨by decide +kernel, rfl⟩
theorem dX7_digest_261 : DSl mX7_digest 261 1 262 := ⟨by decide, Or.inl ⟨1, by decide +kernel, rfl, rfl⟩⟩
theorem dX7_digest_262 : DKl mX7_digest 262 (lN 31) 265 := Or.inr ⟨319, by decide +kernel, bt464, rfl⟩
theorem dX7_digest_265 : DLl mX7_digest 265 1 266 := Or.inl ⟨1, by decide +kernel, rfl, rfl⟩
theorem dX7_digest_266 : D0 mX7_digest 266 (.lmul) 1 267 := ⟨by decide +kernel, rfl⟩
theorem dX7_digest_267 : DLa mX7_digest 267 0 268 := Or.inl ⟨0, by decide +kernel, rfl, rfl⟩
theorem dX7_digest_268 : DKi mX7_digest 268 (nI 0) 269 := Or.inl ⟨0, by decide +kernel, by decide, rfl⟩
theorem dX7_digest_269 : DKi mX7_digest 269 (nI 4) 270 := Or.inl ⟨4, by decide +kernel, by decide, rfl⟩
theorem dX7_digest_270 : DKi mX7_digest 270 (nI 10) 272 := Or.inr (Or.inl ⟨10, by decide +kernel, by decide, rfl⟩)
theorem dX7_digest_272 : DKi mX7_digest 272 (nI 1) 273 := Or.inl ⟨1, by decide +kernel, by decide, rfl⟩
theorem dX7_digest_273 : D0 mX7_digest 273 (.invokevirtual 344) 3 276 := ⟨by decide +kernel, rfl⟩
theorem dX7_digest_276 : D0 mX7_digest 276 (.i2l) 1 277 := ⟨by decide +kernel, rfl⟩
theorem dX7_digest_277 : D0 mX7_digest 277 (.ladd) 1 278 := ⟨by decide +kernel, rfl⟩
theorem dX7_digest_278 : D0 mX7_digest 278 (.lreturn) 1 279 := ⟨by decide +kernel, rfl⟩
theorem dX7_digestPlaces_0 : DLl mX7_digestPlaces 0 1 1 := Or.inl ⟨1, by decide +kernel, rfl, rfl⟩
theorem dX7_digestPlaces_1 : DSl mX7_digestPlaces 1 3 2 := ⟨by decide, Or.inl ⟨3, by decide +kernel, rfl, rfl⟩⟩
theorem dX7_digestPlaces_2 : DKi mX7_digestPlaces 2 (nI 0) 3 := Or.inl ⟨0, by decide +kernel, by decide, rfl⟩
theorem dX7_digestPlaces_3 : DSi mX7_digestPlaces 3 5 5 := ⟨by decide, Or.inr ⟨by decide +kernel, rfl⟩⟩
theorem dX7_digestPlaces_5 : DLi mX7_digestPlaces 5 5 7 := Or.inr ⟨by decide +kernel, rfl⟩
theorem dX7_digestPlaces_7 : DKi mX7_digestPlaces 7 (nI 8) 9 := Or.inr (Or.inl ⟨8, by decide +kernel, by decide, rfl⟩)
theorem dX7_digestPlaces_9 : DCge mX7_digestPlaces 9 63 12 := ⟨54, by decide +kernel, by decide, rfl⟩
theorem dX7_digestPlaces_12 : DKl mX7_digestPlaces 12 (lN 31) 15 := Or.inr ⟨319, by decide +kernel, bt464, rfl⟩
theorem dX7_digestPlaces_15 : DLl mX7_digestPlaces 15 3 16 := Or.inl ⟨3, by decide +kernel, rfl, rfl⟩
theorem dX7_digestPlaces_16 : D0 mX7_digestPlaces 16 (.lmul) 1 17 := ⟨by decide +kernel, rfl⟩
theorem dX7_digestPlaces_17 : DLa mX7_digestPlaces 17 0 18 := Or.inl ⟨0, by decide +kernel, rfl, rfl⟩
theorem dX7_digestPlaces_18 : DLi mX7_digestPlaces 18 5 20 := Or.inr ⟨by decide +kernel, rfl⟩
theorem dX7_digestPlaces_20 : DKi mX7_digestPlaces 20 (nI 0) 21 := Or.inl ⟨0, by decide +kernel, by decide, rfl⟩
theorem dX7_digestPlaces_21 : D0 mX7_digestPlaces 21 (.invokevirtual 347) 3 24 := ⟨by decide +kernel, rfl⟩
theorem dX7_digestPlaces_24 : D0 mX7_digestPlaces 24 (.i2l) 1 25 := ⟨by decide +kernel, rfl⟩
theorem dX7_digestPlaces_25 : D0 mX7_digestPlaces 25 (.ladd) 1 26 := ⟨by decide +kernel, rfl⟩
theorem dX7_digestPlaces_26 : DSl mX7_digestPlaces 26 3 27 := ⟨by decide, Or.inl ⟨3, by decide +kernel, rfl, rfl⟩⟩
theorem dX7_digestPlaces_27 : DKl mX7_digestPlaces 27 (lN 31) 30 := Or.inr ⟨319, by decide +kernel, bt464, rfl⟩
theorem dX7_digestPlaces_30 : DLl mX7_digestPlaces 30 3 31 := Or.inl ⟨3, by decide +kernel, rfl, rfl⟩
theorem dX7_digestPlaces_31 : D0 mX7_digestPlaces 31 (.lmul) 1 32 := ⟨by decide +kernel, rfl⟩
theorem dX7_digestPlaces_32 : DLa mX7_digestPlaces 32 0 33 := Or.inl ⟨0, by decide +kernel, rfl, rfl⟩
theorem dX7_digestPlaces_33 : DLi mX7_digestPlaces 33 5 35 := Or.inr ⟨by decide +kernel, rfl⟩
theorem dX7_digestPlaces_35 : DKi mX7_digestPlaces 35 (nI 1) 36 := Or.inl ⟨1, by decide +kernel, by decide, rfl⟩
theorem dX7_digestPlaces_36 : D0 mX7_digestPlaces 36 (.invokevirtual 347) 3 39 := ⟨by decide +kernel, rfl⟩
theorem dX7_digestPlaces_39 : D0 mX7_digestPlaces 39 (.i2l) 1 40 := ⟨by decide +kernel, rfl⟩
theorem dX7_digestPlaces_40 : D0 mX7_digestPlaces 40 (.ladd) 1 41 := ⟨by decide +kernel, rfl⟩
theorem dX7_digestPlaces_41 : DSl mX7_digestPlaces 41 3 42 := ⟨by decide, Or.inl ⟨3, by decide +kernel, rfl, rfl⟩⟩
theorem dX7_digestPlaces_42 : DKl mX7_digestPlaces 42 (lN 31) 45 := Or.inr ⟨319, by decide +kernel, bt464, rfl⟩
theorem dX7_digestPlaces_45 : DLl mX7_digestPlaces 45 3 46 := Or.inl ⟨3, by decide +kernel, rfl, rfl⟩
theorem dX7_digestPlaces_46 : D0 mX7_digestPlaces 46 (.lmul) 1 47 := ⟨by decide +kernel, rfl⟩
theorem dX7_digestPlaces_47 : DLa mX7_digestPlaces 47 0 48 := Or.inl ⟨0, by decide +kernel, rfl, rfl⟩
theorem dX7_digestPlaces_48 : DLi mX7_digestPlaces 48 5 50 := Or.inr ⟨by decide +kernel, rfl⟩
theorem dX7_digestPlaces_50 : DKi mX7_digestPlaces 50 (nI 2) 51 := Or.inl ⟨2, by decide +kernel, by decide, rfl⟩
theorem dX7_digestPlaces_51 : D0 mX7_digestPlaces 51 (.invokevirtual 347) 3 54 := ⟨by decide +kernel, rfl⟩
theorem dX7_digestPlaces_54 : D0 mX7_digestPlaces 54 (.i2l) 1 55 := ⟨by decide +kernel, rfl⟩
theorem dX7_digestPlaces_55 : D0 mX7_digestPlaces 55 (.ladd) 1 56 := ⟨by decide +kernel, rfl⟩
theorem dX7_digestPlaces_56 : DSl mX7_digestPlaces 56 3 57 := ⟨by decide, Or.inl ⟨3, by decide +kernel, rfl, rfl⟩⟩
theorem dX7_digestPlaces_57 : DIn mX7_digestPlaces 57 5 (nI 1) 60 := ⟨by decide, 1, by decide +kernel, by decide, rfl⟩
theorem dX7_digestPlaces_60 : DG mX7_digestPlaces 60 5 := ⟨(-55), by decide +kernel, by decide⟩
theorem dX7_digestPlaces_63 : DLl mX7_digestPlaces 63 3 64 := Or.inl ⟨3, by decide +kernel, rfl, rfl⟩
theorem dX7_digestPlaces_64 : D0 mX7_digestPlaces 64 (.lreturn) 1 65 := ⟨by decide +kernel, rfl⟩
theorem dX7_digestRows_0 : DLl mX7_digestRows 0 1 1 := Or.inl ⟨1, by decide +kernel, rfl, rfl⟩
theorem dX7_digestRows_1 : DSl mX7_digestRows 1 3 2 := ⟨by decide, Or.inl ⟨3, by decide +kernel, rfl, rfl⟩⟩
theorem dX7_digestRows_2 : DKi mX7_digestRows 2 (nI 0) 3 := Or.inl ⟨0, by decide +kernel, by decide, rfl⟩
theorem dX7_digestRows_3 : DSi mX7_digestRows 3 5 5 := ⟨by decide, Or.inr ⟨by decide +kernel, rfl⟩⟩
theorem dX7_digestRows_5 : DLi mX7_digestRows 5 5 7 := Or.inr ⟨by decide +kernel, rfl⟩
theorem dX7_digestRows_7 : DKi mX7_digestRows 7 (nI 8) 9 := Or.inr (Or.inl ⟨8, by decide +kernel, by decide, rfl⟩)
theorem dX7_digestRows_9 : DCge mX7_digestRows 9 118 12 := ⟨109, by decide +kernel, by decide, rfl⟩
theorem dX7_digestRows_12 : DKl mX7_digestRows 12 (lN 31) 15 := Or.inr ⟨319, by decide +kernel, bt464, rfl⟩
theorem dX7_digestRows_15 : DLl mX7_digestRows 15 3 16 := Or.inl ⟨3, by decide +kernel, rfl, rfl⟩
theorem dX7_digestRows_16 : D0 mX7_digestRows 16 (.lmul) 1 17 := ⟨by decide +kernel, rfl⟩
theorem dX7_digestRows_17 : DLa mX7_digestRows 17 0 18 := Or.inl ⟨0, by decide +kernel, rfl, rfl⟩
theorem dX7_digestRows_18 : DLi mX7_digestRows 18 5 20 := Or.inr ⟨by decide +kernel, rfl⟩
theorem dX7_digestRows_20 : DKi mX7_digestRows 20 (nI 50) 22 := Or.inr (Or.inl ⟨50, by decide +kernel, by decide, rfl⟩)
theorem dX7_digestRows_22 : DKi mX7_digestRows 22 (nI 1) 23 := Or.inl ⟨1, by decide +kernel, by decide, rfl⟩
theorem dX7_digestRows_23 : D0 mX7_digestRows 23 (.invokevirtual 350) 3 26 := ⟨by decide +kernel, rfl⟩
theorem dX7_digestRows_26 : D0 mX7_digestRows 26 (.i2l) 1 27 := ⟨by decide +kernel, rfl⟩
theorem dX7_digestRows_27 : D0 mX7_digestRows 27 (.ladd) 1 28 := ⟨by decide +kernel, rfl⟩
theorem dX7_digestRows_28 : DSl mX7_digestRows 28 3 29 := ⟨by decide, Or.inl ⟨3, by decide +kernel, rfl, rfl⟩⟩
theorem dX7_digestRows_29 : DKl mX7_digestRows 29 (lN 31) 32 := Or.inr ⟨319, by decide +kernel, bt464, rfl⟩
theorem dX7_digestRows_32 : DLl mX7_digestRows 32 3 33 := Or.inl ⟨3, by decide +kernel, rfl, rfl⟩
theorem dX7_digestRows_33 : D0 mX7_digestRows 33 (.lmul) 1 34 := ⟨by decide +kernel, rfl⟩
theorem dX7_digestRows_34 : DLa mX7_digestRows 34 0 35 := Or.inl ⟨0, by decide +kernel, rfl, rfl⟩
theorem dX7_digestRows_35 : DLi mX7_digestRows 35 5 37 := Or.inr ⟨by decide +kernel, rfl⟩
theorem dX7_digestRows_37 : DKi mX7_digestRows 37 (nI 50) 39 := Or.inr (Or.inl ⟨50, by decide +kernel, by decide, rfl⟩)
theorem dX7_digestRows_39 : DKi mX7_digestRows 39 (nI 2) 40 := Or.inl ⟨2, by decide +kernel, by decide, rfl⟩
theorem dX7_digestRows_40 : D0 mX7_digestRows 40 (.invokevirtual 350) 3 43 := ⟨by decide +kernel, rfl⟩
theorem dX7_digestRows_43 : D0 mX7_digestRows 43 (.i2l) 1 44 := ⟨by decide +kernel, rfl⟩
theorem dX7_digestRows_44 : D0 mX7_digestRows 44 (.ladd) 1 45 := ⟨by decide +kernel, rfl⟩
theorem dX7_digestRows_45 : DSl mX7_digestRows 45 3 46 := ⟨by decide, Or.inl ⟨3, by decide +kernel, rfl, rfl⟩⟩
theorem dX7_digestRows_46 : DKl mX7_digestRows 46 (lN 31) 49 := Or.inr ⟨319, by decide +kernel, bt464, rfl⟩
theorem dX7_digestRows_49 : DLl mX7_digestRows 49 3 50 := Or.inl ⟨3, by decide +kernel, rfl, rfl⟩
theorem dX7_digestRows_50 : D0 mX7_digestRows 50 (.lmul) 1 51 := ⟨by decide +kernel, rfl⟩
theorem dX7_digestRows_51 : DLa mX7_digestRows 51 0 52 := Or.inl ⟨0, by decide +kernel, rfl, rfl⟩
theorem dX7_digestRows_52 : DLi mX7_digestRows 52 5 54 := Or.inr ⟨by decide +kernel, rfl⟩
theorem dX7_digestRows_54 : DKi mX7_digestRows 54 (nI 0) 55 := Or.inl ⟨0, by decide +kernel, by decide, rfl⟩
theorem dX7_digestRows_55 : DKi mX7_digestRows 55 (nI 99) 57 := Or.inr (Or.inl ⟨99, by decide +kernel, by decide, rfl⟩)
theorem dX7_digestRows_57 : D0 mX7_digestRows 57 (.invokevirtual 353) 3 60 := ⟨by decide +kernel, rfl⟩
theorem dX7_digestRows_60 : D0 mX7_digestRows 60 (.i2l) 1 61 := ⟨by decide +kernel, rfl⟩
theorem dX7_digestRows_61 : D0 mX7_digestRows 61 (.ladd) 1 62 := ⟨by decide +kernel, rfl⟩
theorem dX7_digestRows_62 : DSl mX7_digestRows 62 3 63 := ⟨by decide, Or.inl ⟨3, by decide +kernel, rfl, rfl⟩⟩
theorem dX7_digestRows_63 : DKl mX7_digestRows 63 (lN 31) 66 := Or.inr ⟨319, by decide +kernel, bt464, rfl⟩
theorem dX7_digestRows_66 : DLl mX7_digestRows 66 3 67 := Or.inl ⟨3, by decide +kernel, rfl, rfl⟩
theorem dX7_digestRows_67 : D0 mX7_digestRows 67 (.lmul) 1 68 := ⟨by decide +kernel, rfl⟩
theorem dX7_digestRows_68 : DLa mX7_digestRows 68 0 69 := Or.inl ⟨0, by decide +kernel, rfl, rfl⟩
theorem dX7_digestRows_69 : DLi mX7_digestRows 69 5 71 := Or.inr ⟨by decide +kernel, rfl⟩
theorem dX7_digestRows_71 : DKi mX7_digestRows 71 (nI 0) 72 := Or.inl ⟨0, by decide +kernel, by decide, rfl⟩
theorem dX7_digestRows_72 : DKi mX7_digestRows 72 (nI 10) 74 := Or.inr (Or.inl ⟨10, by decide +kernel, by decide, rfl⟩)
theorem dX7_digestRows_74 : D0 mX7_digestRows 74 (.invokevirtual 356) 3 77 := ⟨by decide +kernel, rfl⟩
theorem dX7_digestRows_77 : D0 mX7_digestRows 77 (.i2l) 1 78 := ⟨by decide +kernel, rfl⟩
theorem dX7_digestRows_78 : D0 mX7_digestRows 78 (.ladd) 1 79 := ⟨by decide +kernel, rfl⟩
theorem dX7_digestRows_79 : DSl mX7_digestRows 79 3 80 := ⟨by decide, Or.inl ⟨3, by decide +kernel, rfl, rfl⟩⟩
theorem dX7_digestRows_80 : DKl mX7_digestRows 80 (lN 31) 83 := Or.inr ⟨319, by decide +kernel, bt464, rfl⟩
theorem dX7_digestRows_83 : DLl mX7_digestRows 83 3 84 := Or.inl ⟨3, by decide +kernel, rfl, rfl⟩
theorem dX7_digestRows_84 : D0 mX7_digestRows 84 (.lmul) 1 85 := ⟨by decide +kernel, rfl⟩
theorem dX7_digestRows_85 : DLa mX7_digestRows 85 0 86 := Or.inl ⟨0, by decide +kernel, rfl, rfl⟩
theorem dX7_digestRows_86 : DLi mX7_digestRows 86 5 88 := Or.inr ⟨by decide +kernel, rfl⟩
theorem dX7_digestRows_88 : DKi mX7_digestRows 88 (nI 0) 89 := Or.inl ⟨0, by decide +kernel, by decide, rfl⟩
theorem dX7_digestRows_89 : DKi mX7_digestRows 89 (nI 10) 91 := Or.inr (Or.inl ⟨10, by decide +kernel, by decide, rfl⟩)
theorem dX7_digestRows_91 : D0 mX7_digestRows 91 (.invokevirtual 359) 3 94 := ⟨by decide +kernel, rfl⟩
theorem dX7_digestRows_94 : D0 mX7_digestRows 94 (.i2l) 1 95 := ⟨by decide +kernel, rfl⟩
theorem dX7_digestRows_95 : D0 mX7_digestRows 95 (.ladd) 1 96 := ⟨by decide +kernel, rfl⟩
theorem dX7_digestRows_96 : DSl mX7_digestRows 96 3 97 := ⟨by decide, Or.inl ⟨3, by decide +kernel, rfl, rfl⟩⟩
theorem dX7_digestRows_97 : DKl mX7_digestRows 97 (lN 31) 100 := Or.inr ⟨319, by decide +kernel, bt464, rfl⟩
theorem dX7_digestRows_100 : DLl mX7_digestRows 100 3 101 := Or.inl ⟨3, by decide +kernel, rfl, rfl⟩
theorem dX7_digestRows_101 : D0 mX7_digestRows 101 (.lmul) 1 102 := ⟨by decide +kernel, rfl⟩
theorem dX7_digestRows_102 : DLa mX7_digestRows 102 0 103 := Or.inl ⟨0, by decide +kernel, rfl, rfl⟩
theorem dX7_digestRows_103 : DLi mX7_digestRows 103 5 105 := Or.inr ⟨by decide +kernel, rfl⟩
theorem dX7_digestRows_105 : DKi mX7_digestRows 105 (nI 0) 106 := Or.inl ⟨0, by decide +kernel, by decide, rfl⟩
theorem dX7_digestRows_106 : D0 mX7_digestRows 106 (.invokevirtual 362) 3 109 := ⟨by decide +kernel, rfl⟩
theorem dX7_digestRows_109 : D0 mX7_digestRows 109 (.i2l) 1 110 := ⟨by decide +kernel, rfl⟩
theorem dX7_digestRows_110 : D0 mX7_digestRows 110 (.ladd) 1 111 := ⟨by decide +kernel, rfl⟩
theorem dX7_digestRows_111 : DSl mX7_digestRows 111 3 112 := ⟨by decide, Or.inl ⟨3, by decide +kernel, rfl, rfl⟩⟩
theorem dX7_digestRows_112 : DIn mX7_digestRows 112 5 (nI 1) 115 := ⟨by decide, 1, by decide +kernel, by decide, rfl⟩
theorem dX7_digestRows_115 : DG mX7_digestRows 115 5 := ⟨(-110), by decide +kernel, by decide⟩
theorem dX7_digestRows_118 : DLl mX7_digestRows 118 3 119 := Or.inl ⟨3, by decide +kernel, rfl, rfl⟩
theorem dX7_digestRows_119 : D0 mX7_digestRows 119 (.lreturn) 1 120 := ⟨by decide +kernel, rfl⟩
theorem dX7_digestTenants_0 : DLl mX7_digestTenants 0 1 1 := Or.inl ⟨1, by decide +kernel, rfl, rfl⟩
theorem dX7_digestTenants_1 : DSl mX7_digestTenants 1 3 2 := ⟨by decide, Or.inl ⟨3, by decide +kernel, rfl, rfl⟩⟩
theorem dX7_digestTenants_2 : DLa mX7_digestTenants 2 0 3 := Or.inl ⟨0, by decide +kernel, rfl, rfl⟩
theorem dX7_digestTenants_3 : DKi mX7_digestTenants 3 (nI 10) 5 := Or.inr (Or.inl ⟨10, by decide +kernel, by decide, rfl⟩)
theorem dX7_digestTenants_5 : DKi mX7_digestTenants 5 (nI 30) 7 := Or.inr (Or.inl ⟨30, by decide +kernel, by decide, rfl⟩)
theorem dX7_digestTenants_7 : D0 mX7_digestTenants 7 (.invokevirtual 227) 3 10 := ⟨by decide +kernel, rfl⟩
theorem dX7_digestTenants_10 : DLa mX7_digestTenants 10 0 11 := Or.inl ⟨0, by decide +kernel, rfl, rfl⟩
theorem dX7_digestTenants_11 : D0 mX7_digestTenants 11 (.getfield 45) 3 14 := ⟨by decide +kernel, rfl⟩
theorem dX7_digestTenants_14 : D0 mX7_digestTenants 14 (.invokevirtual 233) 3 17 := ⟨by decide +kernel, rfl⟩
theorem dX7_digestTenants_17 : DKi mX7_digestTenants 17 (nI 0) 18 := Or.inl ⟨0, by decide +kernel, by decide, rfl⟩
theorem dX7_digestTenants_18 : DSi mX7_digestTenants 18 5 20 := ⟨by decide, Or.inr ⟨by decide +kernel, rfl⟩⟩
theorem dX7_digestTenants_20 : DLi mX7_digestTenants 20 5 22 := Or.inr ⟨by decide +kernel, rfl⟩
theorem dX7_digestTenants_22 : DKi mX7_digestTenants 22 (nI 8) 24 := Or.inr (Or.inl ⟨8, by decide +kernel, by decide, rfl⟩)
theorem dX7_digestTenants_24 : DCge mX7_digestTenants 24 69 27 := ⟨45, by decide +kernel, by decide, rfl⟩
theorem dX7_digestTenants_27 : DKl mX7_digestTenants 27 (lN 31) 30 := Or.inr ⟨319, by decide +kernel, bt464, rfl⟩
theorem dX7_digestTenants_30 : DLl mX7_digestTenants 30 3 31 := Or.inl ⟨3, by decide +kernel, rfl, rfl⟩
theorem dX7_digestTenants_31 : D0 mX7_digestTenants 31 (.lmul) 1 32 := ⟨by decide +kernel, rfl⟩
theorem dX7_digestTenants_32 : DLa mX7_digestTenants 32 0 33 := Or.inl ⟨0, by decide +kernel, rfl, rfl⟩
theorem dX7_digestTenants_33 : D0 mX7_digestTenants 33 (.getfield 45) 3 36 := ⟨by decide +kernel, rfl⟩
theorem dX7_digestTenants_36 : D0 mX7_digestTenants 36 (.getfield 220) 3 39 := ⟨by decide +kernel, rfl⟩
theorem dX7_digestTenants_39 : DLi mX7_digestTenants 39 5 41 := Or.inr ⟨by decide +kernel, rfl⟩
theorem dX7_digestTenants_41 : D0 mX7_digestTenants 41 (.iaload) 1 42 := ⟨by decide +kernel, rfl⟩
theorem dX7_digestTenants_42 : D0 mX7_digestTenants 42 (.i2l) 1 43 := ⟨by decide +kernel, rfl⟩
theorem dX7_digestTenants_43 : D0 mX7_digestTenants 43 (.ladd) 1 44 := ⟨by decide +kernel, rfl⟩
theorem dX7_digestTenants_44 : DSl mX7_digestTenants 44 3 45 := ⟨by decide, Or.inl ⟨3, by decide +kernel, rfl, rfl⟩⟩
theorem dX7_digestTenants_45 : DKl mX7_digestTenants 45 (lN 31) 48 := Or.inr ⟨319, by decide +kernel, bt464, rfl⟩
theorem dX7_digestTenants_48 : DLl mX7_digestTenants 48 3 49 := Or.inl ⟨3, by decide +kernel, rfl, rfl⟩
theorem dX7_digestTenants_49 : D0 mX7_digestTenants 49 (.lmul) 1 50 := ⟨by decide +kernel, rfl⟩
theorem dX7_digestTenants_50 : DLa mX7_digestTenants 50 0 51 := Or.inl ⟨0, by decide +kernel, rfl, rfl⟩
theorem dX7_digestTenants_51 : D0 mX7_digestTenants 51 (.getfield 45) 3 54 := ⟨by decide +kernel, rfl⟩
theorem dX7_digestTenants_54 : D0 mX7_digestTenants 54 (.getfield 239) 3 57 := ⟨by decide +kernel, rfl⟩
theorem dX7_digestTenants_57 : DLi mX7_digestTenants 57 5 59 := Or.inr ⟨by decide +kernel, rfl⟩
theorem dX7_digestTenants_59 : D0 mX7_digestTenants 59 (.iaload) 1 60 := ⟨by decide +kernel, rfl⟩
theorem dX7_digestTenants_60 : D0 mX7_digestTenants 60 (.i2l) 1 61 := ⟨by decide +kernel, rfl⟩
theorem dX7_digestTenants_61 : D0 mX7_digestTenants 61 (.ladd) 1 62 := ⟨by decide +kernel, rfl⟩
theorem dX7_digestTenants_62 : DSl mX7_digestTenants 62 3 63 := ⟨by decide, Or.inl ⟨3, by decide +kernel, rfl, rfl⟩⟩
theorem dX7_digestTenants_63 : DIn mX7_digestTenants 63 5 (nI 1) 66 := ⟨by decide, 1, by decide +kernel, by decide, rfl⟩
theorem dX7_digestTenants_66 : DG mX7_digestTenants 66 20 := ⟨(-46), by decide +kernel, by decide⟩
theorem dX7_digestTenants_69 : DKl mX7_digestTenants 69 (lN 31) 72 := Or.inr ⟨319, by decide +kernel, bt464, rfl⟩
theorem dX7_digestTenants_72 : DLl mX7_digestTenants 72 3 73 := Or.inl ⟨3, by decide +kernel, rfl, rfl⟩
theorem dX7_digestTenants_73 : D0 mX7_digestTenants 73 (.lmul) 1 74 := ⟨by decide +kernel, rfl⟩
theorem dX7_digestTenants_74 : DLa mX7_digestTenants 74 0 75 := Or.inl ⟨0, by decide +kernel, rfl, rfl⟩
theorem dX7_digestTenants_75 : D0 mX7_digestTenants 75 (.getfield 45) 3 78 := ⟨by decide +kernel, rfl⟩
theorem dX7_digestTenants_78 : D0 mX7_digestTenants 78 (.invokevirtual 236) 3 81 := ⟨by decide +kernel, rfl⟩
theorem dX7_digestTenants_81 : D0 mX7_digestTenants 81 (.i2l) 1 82 := ⟨by decide +kernel, rfl⟩
theorem dX7_digestTenants_82 : D0 mX7_digestTenants 82 (.ladd) 1 83 := ⟨by decide +kernel, rfl⟩
theorem dX7_digestTenants_83 : DSl mX7_digestTenants 83 3 84 := ⟨by decide, Or.inl ⟨3, by decide +kernel, rfl, rfl⟩⟩
theorem dX7_digestTenants_84 : DKl mX7_digestTenants 84 (lN 31) 87 := Or.inr ⟨319, by decide +kernel, bt464, rfl⟩
theorem dX7_digestTenants_87 : DLl mX7_digestTenants 87 3 88 := Or.inl ⟨3, by decide +kernel, rfl, rfl⟩
theorem dX7_digestTenants_88 : D0 mX7_digestTenants 88 (.lmul) 1 89 := ⟨by decide +kernel, rfl⟩
theorem dX7_digestTenants_89 : DLa mX7_digestTenants 89 0 90 := Or.inl ⟨0, by decide +kernel, rfl, rfl⟩
theorem dX7_digestTenants_90 : D0 mX7_digestTenants 90 (.getfield 45) 3 93 := ⟨by decide +kernel, rfl⟩
theorem dX7_digestTenants_93 : D0 mX7_digestTenants 93 (.invokevirtual 242) 3 96 := ⟨by decide +kernel, rfl⟩
theorem dX7_digestTenants_96 : D0 mX7_digestTenants 96 (.i2l) 1 97 := ⟨by decide +kernel, rfl⟩
theorem dX7_digestTenants_97 : D0 mX7_digestTenants 97 (.ladd) 1 98 := ⟨by decide +kernel, rfl⟩
theorem dX7_digestTenants_98 : D0 mX7_digestTenants 98 (.lreturn) 1 99 := ⟨by decide +kernel, rfl⟩
theorem dX7_within_0 : DLi mX7_within 0 0 1 := Or.inl ⟨0, by decide +kernel, rfl, rfl⟩
theorem dX7_within_1 : DFlt mX7_within 1 13 4 := ⟨12, by decide +kernel, by decide, rfl⟩
theorem dX7_within_4 : DLi mX7_within 4 0 5 := Or.inl ⟨0, by decide +kernel, rfl, rfl⟩
theorem dX7_within_5 : DLi mX7_within 5 1 6 := Or.inl ⟨1, by decide +kernel, rfl, rfl⟩
theorem dX7_within_6 : DCgt mX7_within 6 13 9 := ⟨7, by decide +kernel, by decide, rfl⟩
theorem dX7_within_9 : DKi mX7_within 9 (nI 1) 10 := Or.inl ⟨1, by decide +kernel, by decide, rfl⟩
theorem dX7_within_10 : DG mX7_within 10 14 := ⟨4, by decide +kernel, by decide⟩
theorem dX7_within_13 : DKi mX7_within 13 (nI 0) 14 := Or.inl ⟨0, by decide +kernel, by decide, rfl⟩
theorem dX7_within_14 : D0 mX7_within 14 (.ireturn) 1 15 := ⟨by decide +kernel, rfl⟩
theorem dX7_isDay_0 : DLi mX7_isDay 0 0 1 := Or.inl ⟨0, by decide +kernel, rfl, rfl⟩
theorem dX7_isDay_1 : DKi mX7_isDay 1 (nI 99) 3 := Or.inr (Or.inl ⟨99, by decide +kernel, by decide, rfl⟩)
theorem dX7_isDay_3 : D0 mX7_isDay 3 (.invokestatic 63) 3 6 := ⟨by decide +kernel, rfl⟩
theorem dX7_isDay_6 : D0 mX7_isDay 6 (.ireturn) 1 7 := ⟨by decide +kernel, rfl⟩
theorem dX7_isSpan_0 : DLi mX7_isSpan 0 0 1 := Or.inl ⟨0, by decide +kernel, rfl, rfl⟩
theorem dX7_isSpan_1 : D0 mX7_isSpan 1 (.invokestatic 89) 3 4 := ⟨by decide +kernel, rfl⟩
theorem dX7_isSpan_4 : DFeq mX7_isSpan 4 23 7 := ⟨19, by decide +kernel, by decide, rfl⟩
theorem dX7_isSpan_7 : DLi mX7_isSpan 7 1 8 := Or.inl ⟨1, by decide +kernel, rfl, rfl⟩
theorem dX7_isSpan_8 : D0 mX7_isSpan 8 (.invokestatic 89) 3 11 := ⟨by decide +kernel, rfl⟩
theorem dX7_isSpan_11 : DFeq mX7_isSpan 11 23 14 := ⟨12, by decide +kernel, by decide, rfl⟩
theorem dX7_isSpan_14 : DLi mX7_isSpan 14 0 15 := Or.inl ⟨0, by decide +kernel, rfl, rfl⟩
theorem dX7_isSpan_15 : DLi mX7_isSpan 15 1 16 := Or.inl ⟨1, by decide +kernel, rfl, rfl⟩
theorem dX7_isSpan_16 : DCgt mX7_isSpan 16 23 19 := ⟨7, by decide +kernel, by decide, rfl⟩
theorem dX7_isSpan_19 : DKi mX7_isSpan 19 (nI 1) 20 := Or.inl ⟨1, by decide +kernel, by decide, rfl⟩
theorem dX7_isSpan_20 : DG mX7_isSpan 20 24 := ⟨4, by decide +kernel, by decide⟩
theorem dX7_isSpan_23 : DKi mX7_isSpan 23 (nI 0) 24 := Or.inl ⟨0, by decide +kernel, by decide, rfl⟩
theorem dX7_isSpan_24 : D0 mX7_isSpan 24 (.ireturn) 1 25 := ⟨by decide +kernel, rfl⟩
theorem dX7_isThing_0 : DLi mX7_isThing 0 0 1 := Or.inl ⟨0, by decide +kernel, rfl, rfl⟩
theorem dX7_isThing_1 : DKi mX7_isThing 1 (nI 4) 2 := Or.inl ⟨4, by decide +kernel, by decide, rfl⟩
theorem dX7_isThing_2 : D0 mX7_isThing 2 (.invokestatic 63) 3 5 := ⟨by decide +kernel, rfl⟩
theorem dX7_isThing_5 : D0 mX7_isThing 5 (.ireturn) 1 6 := ⟨by decide +kernel, rfl⟩
theorem dX7_isSheet_0 : DLi mX7_isSheet 0 0 1 := Or.inl ⟨0, by decide +kernel, rfl, rfl⟩
theorem dX7_isSheet_1 : DKi mX7_isSheet 1 (nI 3) 2 := Or.inl ⟨3, by decide +kernel, by decide, rfl⟩
theorem dX7_isSheet_2 : D0 mX7_isSheet 2 (.invokestatic 63) 3 5 := ⟨by decide +kernel, rfl⟩
theorem dX7_isSheet_5 : D0 mX7_isSheet 5 (.ireturn) 1 6 := ⟨by decide +kernel, rfl⟩
theorem dX7_isForm_0 : DLi mX7_isForm 0 0 1 := Or.inl ⟨0, by decide +kernel, rfl, rfl⟩
theorem dX7_isForm_1 : DKi mX7_isForm 1 (nI 2) 2 := Or.inl ⟨2, by decide +kernel, by decide, rfl⟩
theorem dX7_isForm_2 : D0 mX7_isForm 2 (.invokestatic 63) 3 5 := ⟨by decide +kernel, rfl⟩
theorem dX7_isForm_5 : D0 mX7_isForm 5 (.ireturn) 1 6 := ⟨by decide +kernel, rfl⟩
theorem dX7_found_0 : DLa mX7_found 0 0 1 := Or.inl ⟨0, by decide +kernel, rfl, rfl⟩
theorem dX7_found_1 : DLi mX7_found 1 1 2 := Or.inl ⟨1, by decide +kernel, rfl, rfl⟩
theorem dX7_found_2 : D0 mX7_found 2 (.putfield 284) 3 5 := ⟨by decide +kernel, rfl⟩
theorem dX7_found_5 : DKi mX7_found 5 ((-10)) 7 := Or.inr (Or.inl ⟨(-10), by decide +kernel, by decide, rfl⟩)
theorem dX7_found_7 : DLi mX7_found 7 1 8 := Or.inl ⟨1, by decide +kernel, rfl, rfl⟩
theorem dX7_found_8 : D0 mX7_found 8 (.isub) 1 9 := ⟨by decide +kernel, rfl⟩
theorem dX7_found_9 : D0 mX7_found 9 (.ireturn) 1 10 := ⟨by decide +kernel, rfl⟩
theorem dX7_lowestTerms_0 : DLl mX7_lowestTerms 0 2 1 := Or.inl ⟨2, by decide +kernel, rfl, rfl⟩
theorem dX7_lowestTerms_1 : DSl mX7_lowestTerms 1 5 3 := ⟨by decide, Or.inr ⟨by decide +kernel, rfl⟩⟩
theorem dX7_lowestTerms_3 : DLl mX7_lowestTerms 3 0 4 := Or.inl ⟨0, by decide +kernel, rfl, rfl⟩
theorem dX7_lowestTerms_4 : DSl mX7_lowestTerms 4 7 6 := ⟨by decide, Or.inr ⟨by decide +kernel, rfl⟩⟩
theorem dX7_lowestTerms_6 : DKi mX7_lowestTerms 6 (nI 0) 7 := Or.inl ⟨0, by decide +kernel, by decide, rfl⟩
theorem dX7_lowestTerms_7 : DSi mX7_lowestTerms 7 9 9 := ⟨by decide, Or.inr ⟨by decide +kernel, rfl⟩⟩
theorem dX7_lowestTerms_9 : DLi mX7_lowestTerms 9 9 11 := Or.inr ⟨by decide +kernel, rfl⟩
theorem dX7_lowestTerms_11 : DKi mX7_lowestTerms 11 (nI 100) 13 := Or.inr (Or.inl ⟨100, by decide +kernel, by decide, rfl⟩)
theorem dX7_lowestTerms_13 : DCge mX7_lowestTerms 13 44 16 := ⟨31, by decide +kernel, by decide, rfl⟩
theorem dX7_lowestTerms_16 : DLl mX7_lowestTerms 16 7 18 := Or.inr ⟨by decide +kernel, rfl⟩
theorem dX7_lowestTerms_18 : DKl mX7_lowestTerms 18 (lN 0) 19 := Or.inl ⟨0, by decide +kernel, rfl, rfl⟩
theorem dX7_lowestTerms_19 : D0 mX7_lowestTerms 19 (.lcmp) 1 20 := ⟨by decide +kernel, rfl⟩
theorem dX7_lowestTerms_20 : DFeq mX7_lowestTerms 20 44 23 := ⟨24, by decide +kernel, by decide, rfl⟩
theorem dX7_lowestTerms_23 : DLl mX7_lowestTerms 23 5 25 := Or.inr ⟨by decide +kernel, rfl⟩
theorem dX7_lowestTerms_25 : DLl mX7_lowestTerms 25 7 27 := Or.inr ⟨by decide +kernel, rfl⟩
theorem dX7_lowestTerms_27 : D0 mX7_lowestTerms 27 (.lrem) 1 28 := ⟨by decide +kernel, rfl⟩
theorem dX7_lowestTerms_28 : DSl mX7_lowestTerms 28 10 30 := ⟨by decide, Or.inr ⟨by decide +kernel, rfl⟩⟩
theorem dX7_lowestTerms_30 : DLl mX7_lowestTerms 30 7 32 := Or.inr ⟨by decide +kernel, rfl⟩
theorem dX7_lowestTerms_32 : DSl mX7_lowestTerms 32 5 34 := ⟨by decide, Or.inr ⟨by decide +kernel, rfl⟩⟩
theorem dX7_lowestTerms_34 : DLl mX7_lowestTerms 34 10 36 := Or.inr ⟨by decide +kernel, rfl⟩
theorem dX7_lowestTerms_36 : DSl mX7_lowestTerms 36 7 38 := ⟨by decide, Or.inr ⟨by decide +kernel, rfl⟩⟩
theorem dX7_lowestTerms_38 : DIn mX7_lowestTerms 38 9 (nI 1) 41 := ⟨by decide, 1, by decide +kernel, by decide, rfl⟩
theorem dX7_lowestTerms_41 : DG mX7_lowestTerms 41 9 := ⟨(-32), by decide +kernel, by decide⟩
theorem dX7_lowestTerms_44 : DLl mX7_lowestTerms 44 5 46 := Or.inr ⟨by decide +kernel, rfl⟩
theorem dX7_lowestTerms_46 : DKl mX7_lowestTerms 46 (lN 0) 47 := Or.inl ⟨0, by decide +kernel, rfl, rfl⟩
theorem dX7_lowestTerms_47 : D0 mX7_lowestTerms 47 (.lcmp) 1 48 := ⟨by decide +kernel, rfl⟩
theorem dX7_lowestTerms_48 : DFgt mX7_lowestTerms 48 55 51 := ⟨7, by decide +kernel, by decide, rfl⟩
theorem dX7_lowestTerms_51 : DKl mX7_lowestTerms 51 ((-9223372036854775806)) 54 := Or.inr ⟨155, by decide +kernel, bt320, rfl⟩
theorem dX7_lowestTerms_54 : D0 mX7_lowestTerms 54 (.lreturn) 1 55 := ⟨by decide +kernel, rfl⟩
theorem dX7_lowestTerms_55 : DLi mX7_lowestTerms 55 4 57 := Or.inr ⟨by decide +kernel, rfl⟩
theorem dX7_lowestTerms_57 : DFne mX7_lowestTerms 57 67 60 := ⟨10, by decide +kernel, by decide, rfl⟩
theorem dX7_lowestTerms_60 : DLl mX7_lowestTerms 60 0 61 := Or.inl ⟨0, by decide +kernel, rfl, rfl⟩
theorem dX7_lowestTerms_61 : DLl mX7_lowestTerms 61 5 63 := Or.inr ⟨by decide +kernel, rfl⟩
theorem dX7_lowestTerms_63 : D0 mX7_lowestTerms 63 (.ldiv) 1 64 := ⟨by decide +kernel, rfl⟩
theorem dX7_lowestTerms_64 : DG mX7_lowestTerms 64 71 := ⟨7, by decide +kernel, by decide⟩
theorem dX7_lowestTerms_67 : DLl mX7_lowestTerms 67 2 68 := Or.inl ⟨2, by decide +kernel, rfl, rfl⟩
theorem dX7_lowestTerms_68 : DLl mX7_lowestTerms 68 5 70 := Or.inr ⟨by decide +kernel, rfl⟩
theorem dX7_lowestTerms_70 : D0 mX7_lowestTerms 70 (.ldiv) 1 71 := ⟨by decide +kernel, rfl⟩
theorem dX7_lowestTerms_71 : D0 mX7_lowestTerms 71 (.lreturn) 1 72 := ⟨by decide +kernel, rfl⟩
theorem dX7_daysWith_0 : DKi mX7_daysWith 0 (nI 0) 1 := Or.inl ⟨0, by decide +kernel, by decide, rfl⟩
theorem dX7_daysWith_1 : DSi mX7_daysWith 1 3 2 := ⟨by decide, Or.inl ⟨3, by decide +kernel, rfl, rfl⟩⟩
theorem dX7_daysWith_2 : DKi mX7_daysWith 2 (nI 0) 3 := Or.inl ⟨0, by decide +kernel, by decide, rfl⟩
theorem dX7_daysWith_3 : DSi mX7_daysWith 3 4 5 := ⟨by decide, Or.inr ⟨by decide +kernel, rfl⟩⟩
theorem dX7_daysWith_5 : DLi mX7_daysWith 5 4 7 := Or.inr ⟨by decide +kernel, rfl⟩
theorem dX7_daysWith_7 : DKi mX7_daysWith 7 (nI 8) 9 := Or.inr (Or.inl ⟨8, by decide +kernel, by decide, rfl⟩)
theorem dX7_daysWith_9 : DCge mX7_daysWith 9 50 12 := ⟨41, by decide +kernel, by decide, rfl⟩
theorem dX7_daysWith_12 : DLa mX7_daysWith 12 0 13 := Or.inl ⟨0, by decide +kernel, rfl, rfl⟩
theorem dX7_daysWith_13 : D0 mX7_daysWith 13 (.getfield 12) 3 16 := ⟨by decide +kernel, rfl⟩
theorem dX7_daysWith_16 : D0 mX7_daysWith 16 (.getfield 79) 3 19 := ⟨by decide +kernel, rfl⟩
theorem dX7_daysWith_19 : DLi mX7_daysWith 19 1 20 := Or.inl ⟨1, by decide +kernel, rfl, rfl⟩
theorem dX7_daysWith_20 : DLi mX7_daysWith 20 4 22 := Or.inr ⟨by decide +kernel, rfl⟩
theorem dX7_daysWith_22 : D0 mX7_daysWith 22 (.iadd) 1 23 := ⟨by decide +kernel, rfl⟩
theorem dX7_daysWith_23 : DKi mX7_daysWith 23 (nI 7) 25 := Or.inr (Or.inl ⟨7, by decide +kernel, by decide, rfl⟩)
theorem dX7_daysWith_25 : D0 mX7_daysWith 25 (.iand) 1 26 := ⟨by decide +kernel, rfl⟩
theorem dX7_daysWith_26 : D0 mX7_daysWith 26 (.iaload) 1 27 := ⟨by decide +kernel, rfl⟩
theorem dX7_daysWith_27 : DLi mX7_daysWith 27 2 28 := Or.inl ⟨2, by decide +kernel, rfl, rfl⟩
theorem dX7_daysWith_28 : DCne mX7_daysWith 28 44 31 := ⟨16, by decide +kernel, by decide, rfl⟩
theorem dX7_daysWith_31 : DLi mX7_daysWith 31 3 32 := Or.inl ⟨3, by decide +kernel, rfl, rfl⟩
theorem dX7_daysWith_32 : DLa mX7_daysWith 32 0 33 := Or.inl ⟨0, by decide +kernel, rfl, rfl⟩
theorem dX7_daysWith_33 : D0 mX7_daysWith 33 (.getfield 21) 3 36 := ⟨by decide +kernel, rfl⟩
theorem dX7_daysWith_36 : D0 mX7_daysWith 36 (.getfield 167) 3 39 := ⟨by decide +kernel, rfl⟩
theorem dX7_daysWith_39 : DLi mX7_daysWith 39 4 41 := Or.inr ⟨by decide +kernel, rfl⟩
theorem dX7_daysWith_41 : D0 mX7_daysWith 41 (.iaload) 1 42 := ⟨by decide +kernel, rfl⟩
theorem dX7_daysWith_42 : D0 mX7_daysWith 42 (.iadd) 1 43 := ⟨by decide +kernel, rfl⟩
theorem dX7_daysWith_43 : DSi mX7_daysWith 43 3 44 := ⟨by decide, Or.inl ⟨3, by decide +kernel, rfl, rfl⟩⟩
theorem dX7_daysWith_44 : DIn mX7_daysWith 44 4 (nI 1) 47 := ⟨by decide, 1, by decide +kernel, by decide, rfl⟩
theorem dX7_daysWith_47 : DG mX7_daysWith 47 5 := ⟨(-42), by decide +kernel, by decide⟩
theorem dX7_daysWith_50 : DLi mX7_daysWith 50 3 51 := Or.inl ⟨3, by decide +kernel, rfl, rfl⟩
theorem dX7_daysWith_51 : D0 mX7_daysWith 51 (.ireturn) 1 52 := ⟨by decide +kernel, rfl⟩
theorem dX7_walkTo_0 : DLa mX7_walkTo 0 0 1 := Or.inl ⟨0, by decide +kernel, rfl, rfl⟩
theorem dX7_walkTo_1 : D0 mX7_walkTo 1 (.getfield 35) 3 4 := ⟨by decide +kernel, rfl⟩
theorem dX7_walkTo_4 : DLi mX7_walkTo 4 1 5 := Or.inl ⟨1, by decide +kernel, rfl, rfl⟩
theorem dX7_walkTo_5 : D0 mX7_walkTo 5 (.invokevirtual 210) 3 8 := ⟨by decide +kernel, rfl⟩
theorem dX7_walkTo_8 : DLi mX7_walkTo 8 3 9 := Or.inl ⟨3, by decide +kernel, rfl, rfl⟩
theorem dX7_walkTo_9 : DSi mX7_walkTo 9 4 11 := ⟨by decide, Or.inr ⟨by decide +kernel, rfl⟩⟩
theorem dX7_walkTo_11 : DLi mX7_walkTo 11 4 13 := Or.inr ⟨by decide +kernel, rfl⟩
theorem dX7_walkTo_13 : DKi mX7_walkTo 13 (nI 100) 15 := Or.inr (Or.inl ⟨100, by decide +kernel, by decide, rfl⟩)
theorem dX7_walkTo_15 : DCge mX7_walkTo 15 59 18 := ⟨44, by decide +kernel, by decide, rfl⟩
theorem dX7_walkTo_18 : DLa mX7_walkTo 18 0 19 := Or.inl ⟨0, by decide +kernel, rfl, rfl⟩
theorem dX7_walkTo_19 : D0 mX7_walkTo 19 (.getfield 35) 3 22 := ⟨by decide +kernel, rfl⟩
theorem dX7_walkTo_22 : DLa mX7_walkTo 22 0 23 := Or.inl ⟨0, by decide +kernel, rfl, rfl⟩
theorem dX7_walkTo_23 : D0 mX7_walkTo 23 (.getfield 12) 3 26 := ⟨by decide +kernel, rfl⟩
theorem dX7_walkTo_26 : DLa mX7_walkTo 26 0 27 := Or.inl ⟨0, by decide +kernel, rfl, rfl⟩
theorem dX7_walkTo_27 : D0 mX7_walkTo 27 (.getfield 21) 3 30 := ⟨by decide +kernel, rfl⟩
theorem dX7_walkTo_30 : D0 mX7_walkTo 30 (.getfield 100) 3 33 := ⟨by decide +kernel, rfl⟩
theorem dX7_walkTo_33 : DLi mX7_walkTo 33 4 35 := Or.inr ⟨by decide +kernel, rfl⟩
theorem dX7_walkTo_35 : D0 mX7_walkTo 35 (.iaload) 1 36 := ⟨by decide +kernel, rfl⟩
theorem dX7_walkTo_36 : D0 mX7_walkTo 36 (.invokevirtual 211) 3 39 := ⟨by decide +kernel, rfl⟩
theorem dX7_walkTo_39 : DLa mX7_walkTo 39 0 40 := Or.inl ⟨0, by decide +kernel, rfl, rfl⟩
theorem dX7_walkTo_40 : D0 mX7_walkTo 40 (.getfield 35) 3 43 := ⟨by decide +kernel, rfl⟩
theorem dX7_walkTo_43 : DLi mX7_walkTo 43 2 44 := Or.inl ⟨2, by decide +kernel, rfl, rfl⟩
theorem dX7_walkTo_44 : D0 mX7_walkTo 44 (.invokevirtual 214) 3 47 := ⟨by decide +kernel, rfl⟩
theorem dX7_walkTo_47 : DFeq mX7_walkTo 47 53 50 := ⟨6, by decide +kernel, by decide, rfl⟩
theorem dX7_walkTo_50 : DLi mX7_walkTo 50 4 52 := Or.inr ⟨by decide +kernel, rfl⟩
theorem dX7_walkTo_52 : D0 mX7_walkTo 52 (.ireturn) 1 53 := ⟨by decide +kernel, rfl⟩
theorem dX7_walkTo_53 : DIn mX7_walkTo 53 4 (nI 1) 56 := ⟨by decide, 1, by decide +kernel, by decide, rfl⟩
theorem dX7_walkTo_56 : DG mX7_walkTo 56 11 := ⟨(-45), by decide +kernel, by decide⟩
theorem dX7_walkTo_59 : DKi mX7_walkTo 59 ((-1)) 60 := Or.inl ⟨(-1), by decide +kernel, by decide, rfl⟩
theorem dX7_walkTo_60 : D0 mX7_walkTo 60 (.ireturn) 1 61 := ⟨by decide +kernel, rfl⟩
theorem dX7_reckonJoys_0 : DLa mX7_reckonJoys 0 0 1 := Or.inl ⟨0, by decide +kernel, rfl, rfl⟩
theorem dX7_reckonJoys_1 : D0 mX7_reckonJoys 1 (.getfield 21) 3 4 := ⟨by decide +kernel, rfl⟩
theorem dX7_reckonJoys_4 : DLi mX7_reckonJoys 4 1 5 := Or.inl ⟨1, by decide +kernel, rfl, rfl⟩
theorem dX7_reckonJoys_5 : DLi mX7_reckonJoys 5 2 6 := Or.inl ⟨2, by decide +kernel, rfl, rfl⟩
theorem dX7_reckonJoys_6 : D0 mX7_reckonJoys 6 (.invokevirtual 157) 3 9 := ⟨by decide +kernel, rfl⟩
theorem dX7_reckonJoys_9 : DLa mX7_reckonJoys 9 0 10 := Or.inl ⟨0, by decide +kernel, rfl, rfl⟩
theorem dX7_reckonJoys_10 : D0 mX7_reckonJoys 10 (.getfield 45) 3 13 := ⟨by decide +kernel, rfl⟩
theorem dX7_reckonJoys_13 : DLa mX7_reckonJoys 13 0 14 := Or.inl ⟨0, by decide +kernel, rfl, rfl⟩
theorem dX7_reckonJoys_14 : D0 mX7_reckonJoys 14 (.getfield 12) 3 17 := ⟨by decide +kernel, rfl⟩
theorem dX7_reckonJoys_17 : DLa mX7_reckonJoys 17 0 18 := Or.inl ⟨0, by decide +kernel, rfl, rfl⟩
theorem dX7_reckonJoys_18 : D0 mX7_reckonJoys 18 (.getfield 21) 3 21 := ⟨by decide +kernel, rfl⟩
theorem dX7_reckonJoys_21 : D0 mX7_reckonJoys 21 (.getfield 167) 3 24 := ⟨by decide +kernel, rfl⟩
theorem dX7_reckonJoys_24 : D0 mX7_reckonJoys 24 (.invokevirtual 365) 3 27 := ⟨by decide +kernel, rfl⟩
theorem dX7_reckonJoys_27 : D0 mX7_reckonJoys 27 (.return_) 1 28 := ⟨by decide +kernel, rfl⟩
theorem dX7_longestWait_0 : DKi mX7_longestWait 0 (nI 0) 1 := Or.inl ⟨0, by decide +kernel, by decide, rfl⟩
theorem dX7_longestWait_1 : DSi mX7_longestWait 1 3 2 := ⟨by decide, Or.inl ⟨3, by decide +kernel, rfl, rfl⟩⟩
theorem dX7_longestWait_2 : DKi mX7_longestWait 2 (nI 0) 3 := Or.inl ⟨0, by decide +kernel, by decide, rfl⟩
theorem dX7_longestWait_3 : DSi mX7_longestWait 3 4 5 := ⟨by decide, Or.inr ⟨by decide +kernel, rfl⟩⟩
theorem dX7_longestWait_5 : DLi mX7_longestWait 5 4 7 := Or.inr ⟨by decide +kernel, rfl⟩
theorem dX7_longestWait_7 : DKi mX7_longestWait 7 (nI 8) 9 := Or.inr (Or.inl ⟨8, by decide +kernel, by decide, rfl⟩)
theorem dX7_longestWait_9 : DCge mX7_longestWait 9 103 12 := ⟨94, by decide +kernel, by decide, rfl⟩
theorem dX7_longestWait_12 : DKi mX7_longestWait 12 (nI 100) 14 := Or.inr (Or.inl ⟨100, by decide +kernel, by decide, rfl⟩)
theorem dX7_longestWait_14 : DSi mX7_longestWait 14 5 16 := ⟨by decide, Or.inr ⟨by decide +kernel, rfl⟩⟩
theorem dX7_longestWait_16 : DKi mX7_longestWait 16 (nI 0) 17 := Or.inl ⟨0, by decide +kernel, by decide, rfl⟩
theorem dX7_longestWait_17 : DSi mX7_longestWait 17 6 19 := ⟨by decide, Or.inr ⟨by decide +kernel, rfl⟩⟩
theorem dX7_longestWait_19 : DLi mX7_longestWait 19 6 21 := Or.inr ⟨by decide +kernel, rfl⟩
theorem dX7_longestWait_21 : DKi mX7_longestWait 21 (nI 8) 23 := Or.inr (Or.inl ⟨8, by decide +kernel, by decide, rfl⟩)
theorem dX7_longestWait_23 : DCge mX7_longestWait 23 79 26 := ⟨56, by decide +kernel, by decide, rfl⟩
theorem dX7_longestWait_26 : DLi mX7_longestWait 26 4 28 := Or.inr ⟨by decide +kernel, rfl⟩
theorem dX7_longestWait_28 : DLi mX7_longestWait 28 6 30 := Or.inr ⟨by decide +kernel, rfl⟩
theorem dX7_longestWait_30 : D0 mX7_longestWait 30 (.iadd) 1 31 := ⟨by decide +kernel, rfl⟩
theorem dX7_longestWait_31 : DKi mX7_longestWait 31 (nI 7) 33 := Or.inr (Or.inl ⟨7, by decide +kernel, by decide, rfl⟩)
theorem dX7_longestWait_33 : D0 mX7_longestWait 33 (.iand) 1 34 := ⟨by decide +kernel, rfl⟩
theorem dX7_longestWait_34 : DSi mX7_longestWait 34 7 36 := ⟨by decide, Or.inr ⟨by decide +kernel, rfl⟩⟩
theorem dX7_longestWait_36 : DLi mX7_longestWait 36 7 38 := Or.inr ⟨by decide +kernel, rfl⟩
theorem dX7_longestWait_38 : DLi mX7_longestWait 38 1 39 := Or.inl ⟨1, by decide +kernel, rfl, rfl⟩
theorem dX7_longestWait_39 : DCeq mX7_longestWait 39 56 42 := ⟨17, by decide +kernel, by decide, rfl⟩
theorem dX7_longestWait_42 : DLa mX7_longestWait 42 0 43 := Or.inl ⟨0, by decide +kernel, rfl, rfl⟩
theorem dX7_longestWait_43 : D0 mX7_longestWait 43 (.getfield 12) 3 46 := ⟨by decide +kernel, rfl⟩
theorem dX7_longestWait_46 : D0 mX7_longestWait 46 (.getfield 79) 3 49 := ⟨by decide +kernel, rfl⟩
theorem dX7_longestWait_49 : DLi mX7_longestWait 49 7 51 := Or.inr ⟨by decide +kernel, rfl⟩
theorem dX7_longestWait_51 : D0 mX7_longestWait 51 (.iaload) 1 52 := ⟨by decide +kernel, rfl⟩
theorem dX7_longestWait_52 : DKi mX7_longestWait 52 (nI 2) 53 := Or.inl ⟨2, by decide +kernel, by decide, rfl⟩
theorem dX7_longestWait_53 : DCne mX7_longestWait 53 73 56 := ⟨20, by decide +kernel, by decide, rfl⟩
theorem dX7_longestWait_56 : DLi mX7_longestWait 56 5 58 := Or.inr ⟨by decide +kernel, rfl⟩
theorem dX7_longestWait_58 : DLa mX7_longestWait 58 0 59 := Or.inl ⟨0, by decide +kernel, rfl, rfl⟩
theorem dX7_longestWait_59 : D0 mX7_longestWait 59 (.getfield 21) 3 62 := ⟨by decide +kernel, rfl⟩
theorem dX7_longestWait_62 : D0 mX7_longestWait 62 (.getfield 183) 3 65 := ⟨by decide +kernel, rfl⟩
theorem dX7_longestWait_65 : DLi mX7_longestWait 65 6 67 := Or.inr ⟨by decide +kernel, rfl⟩
theorem dX7_longestWait_67 : D0 mX7_longestWait 67 (.iaload) 1 68 := ⟨by decide +kernel, rfl⟩
theorem dX7_longestWait_68 : D0 mX7_longestWait 68 (.invokestatic 170) 3 71 := ⟨by decide +kernel, rfl⟩
theorem dX7_longestWait_71 : DSi mX7_longestWait 71 5 73 := ⟨by decide, Or.inr ⟨by decide +kernel, rfl⟩⟩
theorem dX7_longestWait_73 : DIn mX7_longestWait 73 6 (nI 1) 76 := ⟨by decide, 1, by decide +kernel, by decide, rfl⟩
theorem dX7_longestWait_76 : DG mX7_longestWait 76 19 := ⟨(-57), by decide +kernel, by decide⟩
theorem dX7_longestWait_79 : DLi mX7_longestWait 79 5 81 := Or.inr ⟨by decide +kernel, rfl⟩
theorem dX7_longestWait_81 : DKi mX7_longestWait 81 (nI 100) 83 := Or.inr (Or.inl ⟨100, by decide +kernel, by decide, rfl⟩)
theorem dX7_longestWait_83 : DClt mX7_longestWait 83 88 86 := ⟨5, by decide +kernel, by decide, rfl⟩
theorem dX7_longestWait_86 : DKi mX7_longestWait 86 ((-1)) 87 := Or.inl ⟨(-1), by decide +kernel, by decide, rfl⟩
theorem dX7_longestWait_87 : D0 mX7_longestWait 87 (.ireturn) 1 88 := ⟨by decide +kernel, rfl⟩
theorem dX7_longestWait_88 : DLi mX7_longestWait 88 3 89 := Or.inl ⟨3, by decide +kernel, rfl, rfl⟩
theorem dX7_longestWait_89 : DLi mX7_longestWait 89 5 91 := Or.inr ⟨by decide +kernel, rfl⟩
theorem dX7_longestWait_91 : DLi mX7_longestWait 91 2 92 := Or.inl ⟨2, by decide +kernel, rfl, rfl⟩
theorem dX7_longestWait_92 : D0 mX7_longestWait 92 (.isub) 1 93 := ⟨by decide +kernel, rfl⟩
theorem dX7_longestWait_93 : D0 mX7_longestWait 93 (.invokestatic 368) 3 96 := ⟨by decide +kernel, rfl⟩
theorem dX7_longestWait_96 : DSi mX7_longestWait 96 3 97 := ⟨by decide, Or.inl ⟨3, by decide +kernel, rfl, rfl⟩⟩
theorem dX7_longestWait_97 : DIn mX7_longestWait 97 4 (nI 1) 100 := ⟨by decide, 1, by decide +kernel, by decide, rfl⟩
theorem dX7_longestWait_100 : DG mX7_longestWait 100 5 := ⟨(-95), by decide +kernel, by decide⟩
theorem dX7_longestWait_103 : DLi mX7_longestWait 103 3 104 := Or.inl ⟨3, by decide +kernel, rfl, rfl⟩
theorem dX7_longestWait_104 : D0 mX7_longestWait 104 (.ireturn) 1 105 := ⟨by decide +kernel, rfl⟩
theorem dX8_in_0 : DLi mX8_in 0 0 1 := Or.inl ⟨0, by decide +kernel, rfl, rfl⟩
theorem dX8_in_1 : DLi mX8_in 1 1 2 := Or.inl ⟨1, by decide +kernel, rfl, rfl⟩
theorem dX8_in_2 : DClt mX8_in 2 14 5 := ⟨12, by decide +kernel, by decide, rfl⟩
theorem dX8_in_5 : DLi mX8_in 5 0 6 := Or.inl ⟨0, by decide +kernel, rfl, rfl⟩
theorem dX8_in_6 : DLi mX8_in 6 2 7 := Or.inl ⟨2, by decide +kernel, rfl, rfl⟩
theorem dX8_in_7 : DCgt mX8_in 7 14 10 := ⟨7, by decide +kernel, by decide, rfl⟩
theorem dX8_in_10 : DKi mX8_in 10 (nI 1) 11 := Or.inl ⟨1, by decide +kernel, by decide, rfl⟩
theorem dX8_in_11 : DG mX8_in 11 15 := ⟨4, by decide +kernel, by decide⟩
theorem dX8_in_14 : DKi mX8_in 14 (nI 0) 15 := Or.inl ⟨0, by decide +kernel, by decide, rfl⟩
theorem dX8_in_15 : D0 mX8_in 15 (.ireturn) 1 16 := ⟨by decide +kernel, rfl⟩
theorem dX8_isIn_0 : DLi mX8_isIn 0 0 1 := Or.inl ⟨0, by decide +kernel, rfl, rfl⟩
theorem dX8_isIn_1 : DLi mX8_isIn 1 1 2 := Or.inl ⟨1, by decide +kernel, rfl, rfl⟩
theorem dX8_isIn_2 : D0 mX8_isIn 2 (.ishr) 1 3 := ⟨by decide +kernel, rfl⟩
theorem dX8_isIn_3 : DKi mX8_isIn 3 (nI 1) 4 := Or.inl ⟨1, by decide +kernel, by decide, rfl⟩
theorem dX8_isIn_4 : D0 mX8_isIn 4 (.iand) 1 5 := ⟨by decide +kernel, rfl⟩
theorem dX8_isIn_5 : DKi mX8_isIn 5 (nI 1) 6 := Or.inl ⟨1, by decide +kernel, by decide, rfl⟩
theorem dX8_isIn_6 : DCne mX8_isIn 6 13 9 := ⟨7, by decide +kernel, by decide, rfl⟩
theorem dX8_isIn_9 : DKi mX8_isIn 9 (nI 1) 10 := Or.inl ⟨1, by decide +kernel, by decide, rfl⟩
theorem dX8_isIn_10 : DG mX8_isIn 10 14 := ⟨4, by decide +kernel, by decide⟩
theorem dX8_isIn_13 : DKi mX8_isIn 13 (nI 0) 14 := Or.inl ⟨0, by decide +kernel, by decide, rfl⟩
theorem dX8_isIn_14 : D0 mX8_isIn 14 (.ireturn) 1 15 := ⟨by decide +kernel, rfl⟩
theorem dX8_no_0 : DKl mX8_no 0 ((-9223372036854775808)) 3 := Or.inr ⟨87, by decide +kernel, bt526, rfl⟩
theorem dX8_no_3 : DLi mX8_no 3 0 4 := Or.inl ⟨0, by decide +kernel, rfl, rfl⟩
theorem dX8_no_4 : D0 mX8_no 4 (.i2l) 1 5 := ⟨by decide +kernel, rfl⟩
theorem dX8_no_5 : D0 mX8_no 5 (.lsub) 1 6 := ⟨by decide +kernel, rfl⟩
theorem dX8_no_6 : D0 mX8_no 6 (.lreturn) 1 7 := ⟨by decide +kernel, rfl⟩
theorem dX8_lowest_0 : DLl mX8_lowest 0 0 1 := Or.inl ⟨0, by decide +kernel, rfl, rfl⟩
theorem dX8_lowest_1 : DSl mX8_lowest 1 5 3 := ⟨by decide, Or.inr ⟨by decide +kernel, rfl⟩⟩
theorem dX8_lowest_3 : DLl mX8_lowest 3 2 4 := Or.inl ⟨2, by decide +kernel, rfl, rfl⟩
theorem dX8_lowest_4 : DSl mX8_lowest 4 7 6 := ⟨by decide, Or.inr ⟨by decide +kernel, rfl⟩⟩
theorem dX8_lowest_6 : DLl mX8_lowest 6 7 8 := Or.inr ⟨by decide +kernel, rfl⟩
theorem dX8_lowest_8 : DKl mX8_lowest 8 (lN 0) 9 := Or.inl ⟨0, by decide +kernel, rfl, rfl⟩
theorem dX8_lowest_9 : D0 mX8_lowest 9 (.lcmp) 1 10 := ⟨by decide +kernel, rfl⟩
theorem dX8_lowest_10 : DFeq mX8_lowest 10 31 13 := ⟨21, by decide +kernel, by decide, rfl⟩
theorem dX8_lowest_13 : DLl mX8_lowest 13 5 15 := Or.inr ⟨by decide +kernel, rfl⟩
theorem dX8_lowest_15 : DLl mX8_lowest 15 7 17 := Or.inr ⟨by decide +kernel, rfl⟩
theorem dX8_lowest_17 : D0 mX8_lowest 17 (.lrem) 1 18 := ⟨by decide +kernel, rfl⟩
theorem dX8_lowest_18 : DSl mX8_lowest 18 9 20 := ⟨by decide, Or.inr ⟨by decide +kernel, rfl⟩⟩
theorem dX8_lowest_20 : DLl mX8_lowest 20 7 22 := Or.inr ⟨by decide +kernel, rfl⟩
theorem dX8_lowest_22 : DSl mX8_lowest 22 5 24 := ⟨by decide, Or.inr ⟨by decide +kernel, rfl⟩⟩
theorem dX8_lowest_24 : DLl mX8_lowest 24 9 26 := Or.inr ⟨by decide +kernel, rfl⟩
theorem dX8_lowest_26 : DSl mX8_lowest 26 7 28 := ⟨by decide, Or.inr ⟨by decide +kernel, rfl⟩⟩
theorem dX8_lowest_28 : DG mX8_lowest 28 6 := ⟨(-22), by decide +kernel, by decide⟩
theorem dX8_lowest_31 : DLi mX8_lowest 31 4 33 := Or.inr ⟨by decide +kernel, rfl⟩
theorem dX8_lowest_33 : DFne mX8_lowest 33 43 36 := ⟨10, by decide +kernel, by decide, rfl⟩
theorem dX8_lowest_36 : DLl mX8_lowest 36 0 37 := Or.inl ⟨0, by decide +kernel, rfl, rfl⟩
theorem dX8_lowest_37 : DLl mX8_lowest 37 5 39 := Or.inr ⟨by decide +kernel, rfl⟩
theorem dX8_lowest_39 : D0 mX8_lowest 39 (.ldiv) 1 40 := ⟨by decide +kernel, rfl⟩
theorem dX8_lowest_40 : DG mX8_lowest 40 47 := ⟨7, by decide +kernel, by decide⟩
theorem dX8_lowest_43 : DLl mX8_lowest 43 2 44 := Or.inl ⟨2, by decide +kernel, rfl, rfl⟩
theorem dX8_lowest_44 : DLl mX8_lowest 44 5 46 := Or.inr ⟨by decide +kernel, rfl⟩
theorem dX8_lowest_46 : D0 mX8_lowest 46 (.ldiv) 1 47 := ⟨by decide +kernel, rfl⟩
theorem dX8_lowest_47 : D0 mX8_lowest 47 (.lreturn) 1 48 := ⟨by decide +kernel, rfl⟩
theorem dX8_type_0 : DLi mX8_type 0 1 1 := Or.inl ⟨1, by decide +kernel, rfl, rfl⟩
theorem dX8_type_1 : DKi mX8_type 1 (nI 0) 2 := Or.inl ⟨0, by decide +kernel, by decide, rfl⟩
theorem dX8_type_2 : DKi mX8_type 2 (nI 255) 5 := Or.inr (Or.inr (Or.inl ⟨255, by decide +kernel, by decide, rfl⟩))
theorem dX8_type_5 : D0 mX8_type 5 (.invokestatic 89) 3 8 := ⟨by decide +kernel, rfl⟩
theorem dX8_type_8 : DFne mX8_type 8 14 11 := ⟨6, by decide +kernel, by decide, rfl⟩
theorem dX8_type_11 : DKi mX8_type 11 ((-2)) 13 := Or.inr (Or.inl ⟨(-2), by decide +kernel, by decide, rfl⟩)
theorem dX8_type_13 : D0 mX8_type 13 (.ireturn) 1 14 := ⟨by decide +kernel, rfl⟩
theorem dX8_type_14 : DLa mX8_type 14 0 15 := Or.inl ⟨0, by decide +kernel, rfl, rfl⟩
theorem dX8_type_15 : D0 mX8_type 15 (.getfield 93) 3 18 := ⟨by decide +kernel, rfl⟩
theorem dX8_type_18 : DKi mX8_type 18 (nI 60) 20 := Or.inr (Or.inl ⟨60, by decide +kernel, by decide, rfl⟩)
theorem dX8_type_20 : DCne mX8_type 20 26 23 := ⟨6, by decide +kernel, by decide, rfl⟩
theorem dX8_type_23 : DKi mX8_type 23 ((-4)) 25 := Or.inr (Or.inl ⟨(-4), by decide +kernel, by decide, rfl⟩)
theorem dX8_type_25 : D0 mX8_type 25 (.ireturn) 1 26 := ⟨by decide +kernel, rfl⟩
theorem dX8_type_26 : DLa mX8_type 26 0 27 := Or.inl ⟨0, by decide +kernel, rfl, rfl⟩
theorem dX8_type_27 : D0 mX8_type 27 (.getfield 7) 3 30 := ⟨by decide +kernel, rfl⟩
theorem dX8_type_30 : DLa mX8_type 30 0 31 := Or.inl ⟨0, by decide +kernel, rfl, rfl⟩
theorem dX8_type_31 : D0 mX8_type 31 (.getfield 93) 3 34 := ⟨by decide +kernel, rfl⟩
theorem dX8_type_34 : DLi mX8_type 34 1 35 := Or.inl ⟨1, by decide +kernel, rfl, rfl⟩
theorem dX8_type_35 : D0 mX8_type 35 (.iastore) 1 36 := ⟨by decide +kernel, rfl⟩
theorem dX8_type_36 : DLa mX8_type 36 0 37 := Or.inl ⟨0, by decide +kernel, rfl, rfl⟩
theorem dX8_type_37 : D0 mX8_type 37 (.dup) 1 38 := ⟨by decide +kernel, rfl⟩
theorem dX8_type_38 : D0 mX8_type 38 (.getfield 93) 3 41 := ⟨by decide +kernel, rfl⟩
theorem dX8_type_41 : DKi mX8_type 41 (nI 1) 42 := Or.inl ⟨1, by decide +kernel, by decide, rfl⟩
theorem dX8_type_42 : D0 mX8_type 42 (.iadd) 1 43 := ⟨by decide +kernel, rfl⟩
theorem dX8_type_43 : D0 mX8_type 43 (.putfield 93) 3 46 := ⟨by decide +kernel, rfl⟩
theorem dX8_type_46 : DLa mX8_type 46 0 47 := Or.inl ⟨0, by decide +kernel, rfl, rfl⟩
theorem dX8_type_47 : D0 mX8_type 47 (.getfield 93) 3 50 := ⟨by decide +kernel, rfl⟩
theorem dX8_type_50 : D0 mX8_type 50 (.ireturn) 1 51 := ⟨by decide +kernel, rfl⟩
theorem dX8_wipe_0 : DLa mX8_wipe 0 0 1 := Or.inl ⟨0, by decide +kernel, rfl, rfl⟩
theorem dX8_wipe_1 : D0 mX8_wipe 1 (.getfield 93) 3 4 := ⟨by decide +kernel, rfl⟩
theorem dX8_wipe_4 : DSi mX8_wipe 4 1 5 := ⟨by decide, Or.inl ⟨1, by decide +kernel, rfl, rfl⟩⟩
theorem dX8_wipe_5 : DLa mX8_wipe 5 0 6 := Or.inl ⟨0, by decide +kernel, rfl, rfl⟩
theorem dX8_wipe_6 : DKi mX8_wipe 6 (nI 0) 7 := Or.inl ⟨0, by decide +kernel, by decide, rfl⟩
theorem dX8_wipe_7 : D0 mX8_wipe 7 (.putfield 93) 3 10 := ⟨by decide +kernel, rfl⟩
theorem dX8_wipe_10 : DLi mX8_wipe 10 1 11 := Or.inl ⟨1, by decide +kernel, rfl, rfl⟩
theorem dX8_wipe_11 : D0 mX8_wipe 11 (.ireturn) 1 12 := ⟨by decide +kernel, rfl⟩
theorem dX8_byteAt_0 : DLi mX8_byteAt 0 1 1 := Or.inl ⟨1, by decide +kernel, rfl, rfl⟩
theorem dX8_byteAt_1 : DLa mX8_byteAt 1 0 2 := Or.inl ⟨0, by decide +kernel, rfl, rfl⟩
theorem dX8_byteAt_2 : D0 mX8_byteAt 2 (.getfield 93) 3 5 := ⟨by decide +kernel, rfl⟩
theorem dX8_byteAt_5 : DCge mX8_byteAt 5 17 8 := ⟨12, by decide +kernel, by decide, rfl⟩
theorem dX8_byteAt_8 : DLa mX8_byteAt 8 0 9 := Or.inl ⟨0, by decide +kernel, rfl, rfl⟩
theorem dX8_byteAt_9 : D0 mX8_byteAt 9 (.getfield 7) 3 12 := ⟨by decide +kernel, rfl⟩
theorem dX8_byteAt_12 : DLi mX8_byteAt 12 1 13 := Or.inl ⟨1, by decide +kernel, rfl, rfl⟩
theorem dX8_byteAt_13 : D0 mX8_byteAt 13 (.iaload) 1 14 := ⟨by decide +kernel, rfl⟩
theorem dX8_byteAt_14 : DG mX8_byteAt 14 18 := ⟨4, by decide +kernel, by decide⟩
theorem dX8_byteAt_17 : DKi mX8_byteAt 17 ((-1)) 18 := Or.inl ⟨(-1), by decide +kernel, by decide, rfl⟩
theorem dX8_byteAt_18 : D0 mX8_byteAt 18 (.ireturn) 1 19 := ⟨by decide +kernel, rfl⟩
theorem dX8_thingOf_0 : DLi mX8_thingOf 0 0 1 := Or.inl ⟨0, by decide +kernel, rfl, rfl⟩
theorem dX8_thingOf_1 : DKi mX8_thingOf 1 (nI 46) 3 := Or.inr (Or.inl ⟨46, by decide +kernel, by decide, rfl⟩)
theorem dX8_thingOf_3 : DCne mX8_thingOf 3 10 6 := ⟨7, by decide +kernel, by decide, rfl⟩
theorem dX8_thingOf_6 : DKi mX8_thingOf 6 (nI 0) 7 := Or.inl ⟨0, by decide +kernel, by decide, rfl⟩
theorem dX8_thingOf_7 : DG mX8_thingOf 7 51 := ⟨44, by decide +kernel, by decide⟩
theorem dX8_thingOf_10 : DLi mX8_thingOf 10 0 11 := Or.inl ⟨0, by decide +kernel, rfl, rfl⟩
theorem dX8_thingOf_11 : DKi mX8_thingOf 11 (nI 109) 13 := Or.inr (Or.inl ⟨109, by decide +kernel, by decide, rfl⟩)
theorem dX8_thingOf_13 : DCne mX8_thingOf 13 20 16 := ⟨7, by decide +kernel, by decide, rfl⟩
theorem dX8_thingOf_16 : DKi mX8_thingOf 16 (nI 1) 17 := Or.inl ⟨1, by decide +kernel, by decide, rfl⟩
theorem dX8_thingOf_17 : DG mX8_thingOf 17 51 := ⟨34, by decide +kernel, by decide⟩
theorem dX8_thingOf_20 : DLi mX8_thingOf 20 0 21 := Or.inl ⟨0, by decide +kernel, rfl, rfl⟩
theorem dX8_thingOf_21 : DKi mX8_thingOf 21 (nI 119) 23 := Or.inr (Or.inl ⟨119, by decide +kernel, by decide, rfl⟩)
theorem dX8_thingOf_23 : DCne mX8_thingOf 23 30 26 := ⟨7, by decide +kernel, by decide, rfl⟩
theorem dX8_thingOf_26 : DKi mX8_thingOf 26 (nI 2) 27 := Or.inl ⟨2, by decide +kernel, by decide, rfl⟩
theorem dX8_thingOf_27 : DG mX8_thingOf 27 51 := ⟨24, by decide +kernel, by decide⟩
theorem dX8_thingOf_30 : DLi mX8_thingOf 30 0 31 := Or.inl ⟨0, by decide +kernel, rfl, rfl⟩
theorem dX8_thingOf_31 : DKi mX8_thingOf 31 (nI 115) 33 := Or.inr (Or.inl ⟨115, by decide +kernel, by decide, rfl⟩)
theorem dX8_thingOf_33 : DCne mX8_thingOf 33 40 36 := ⟨7, by decide +kernel, by decide, rfl⟩
theorem dX8_thingOf_36 : DKi mX8_thingOf 36 (nI 3) 37 := Or.inl ⟨3, by decide +kernel, by decide, rfl⟩
theorem dX8_thingOf_37 : DG mX8_thingOf 37 51 := ⟨14, by decide +kernel, by decide⟩
theorem dX8_thingOf_40 : DLi mX8_thingOf 40 0 41 := Or.inl ⟨0, by decide +kernel, rfl, rfl⟩
theorem dX8_thingOf_41 : DKi mX8_thingOf 41 (nI 102) 43 := Or.inr (Or.inl ⟨102, by decide +kernel, by decide, rfl⟩)
theorem dX8_thingOf_43 : DCne mX8_thingOf 43 50 46 := ⟨7, by decide +kernel, by decide, rfl⟩
theorem dX8_thingOf_46 : DKi mX8_thingOf 46 (nI 4) 47 := Or.inl ⟨4, by decide +kernel, by decide, rfl⟩
theorem dX8_thingOf_47 : DG mX8_thingOf 47 51 := ⟨4, by decide +kernel, by decide⟩
theorem dX8_thingOf_50 : DKi mX8_thingOf 50 ((-1)) 51 := Or.inl ⟨(-1), by decide +kernel, by decide, rfl⟩
theorem dX8_thingOf_51 : D0 mX8_thingOf 51 (.ireturn) 1 52 := ⟨by decide +kernel, rfl⟩
theorem dX8_mayBe_0 : DKi mX8_mayBe 0 (nI 4) 1 := Or.inl ⟨4, by decide +kernel, by decide, rfl⟩
theorem dX8_mayBe_1 : DLa mX8_mayBe 1 0 2 := Or.inl ⟨0, by decide +kernel, rfl, rfl⟩
theorem dX8_mayBe_2 : D0 mX8_mayBe 2 (.getfield 97) 3 5 := ⟨by decide +kernel, rfl⟩
theorem dX8_mayBe_5 : D0 mX8_mayBe 5 (.imul) 1 6 := ⟨by decide +kernel, rfl⟩
theorem dX8_mayBe_6 : DSi mX8_mayBe 6 3 7 := ⟨by decide, Or.inl ⟨3, by decide +kernel, rfl, rfl⟩⟩
theorem dX8_mayBe_7 : DLi mX8_mayBe 7 1 8 := Or.inl ⟨1, by decide +kernel, rfl, rfl⟩
theorem dX8_mayBe_8 : DFne mX8_mayBe 8 21 11 := ⟨13, by decide +kernel, by decide, rfl⟩
theorem dX8_mayBe_11 : DLi mX8_mayBe 11 2 12 := Or.inl ⟨2, by decide +kernel, rfl, rfl⟩
theorem dX8_mayBe_12 : DKi mX8_mayBe 12 (nI 0) 13 := Or.inl ⟨0, by decide +kernel, by decide, rfl⟩
theorem dX8_mayBe_13 : DKi mX8_mayBe 13 (nI 7) 15 := Or.inr (Or.inl ⟨7, by decide +kernel, by decide, rfl⟩)
theorem dX8_mayBe_15 : D0 mX8_mayBe 15 (.invokestatic 89) 3 18 := ⟨by decide +kernel, rfl⟩
theorem dX8_mayBe_18 : DG mX8_mayBe 18 84 := ⟨66, by decide +kernel, by decide⟩
theorem dX8_mayBe_21 : DLi mX8_mayBe 21 1 22 := Or.inl ⟨1, by decide +kernel, rfl, rfl⟩
theorem dX8_mayBe_22 : DKi mX8_mayBe 22 (nI 1) 23 := Or.inl ⟨1, by decide +kernel, by decide, rfl⟩
theorem dX8_mayBe_23 : DCne mX8_mayBe 23 54 26 := ⟨31, by decide +kernel, by decide, rfl⟩
theorem dX8_mayBe_26 : DLi mX8_mayBe 26 2 27 := Or.inl ⟨2, by decide +kernel, rfl, rfl⟩
theorem dX8_mayBe_27 : DKi mX8_mayBe 27 (nI 0) 28 := Or.inl ⟨0, by decide +kernel, by decide, rfl⟩
theorem dX8_mayBe_28 : DKi mX8_mayBe 28 (nI 7) 30 := Or.inr (Or.inl ⟨7, by decide +kernel, by decide, rfl⟩)
theorem dX8_mayBe_30 : D0 mX8_mayBe 30 (.invokestatic 89) 3 33 := ⟨by decide +kernel, rfl⟩
theorem dX8_mayBe_33 : DFeq mX8_mayBe 33 50 36 := ⟨17, by decide +kernel, by decide, rfl⟩
theorem dX8_mayBe_36 : DLi mX8_mayBe 36 2 37 := Or.inl ⟨2, by decide +kernel, rfl, rfl⟩
theorem dX8_mayBe_37 : DLa mX8_mayBe 37 0 38 := Or.inl ⟨0, by decide +kernel, rfl, rfl⟩
theorem dX8_mayBe_38 : D0 mX8_mayBe 38 (.getfield 19) 3 41 := ⟨by decide +kernel, rfl⟩
theorem dX8_mayBe_41 : DLi mX8_mayBe 41 3 42 := Or.inl ⟨3, by decide +kernel, rfl, rfl⟩
theorem dX8_mayBe_42 : D0 mX8_mayBe 42 (.iaload) 1 43 := ⟨by decide +kernel, rfl⟩
theorem dX8_mayBe_43 : DCeq mX8_mayBe 43 50 46 := ⟨7, by decide +kernel, by decide, rfl⟩
theorem dX8_mayBe_46 : DKi mX8_mayBe 46 (nI 1) 47 := Or.inl ⟨1, by decide +kernel, by decide, rfl⟩
theorem dX8_mayBe_47 : DG mX8_mayBe 47 84 := ⟨37, by decide +kernel, by decide⟩
theorem dX8_mayBe_50 : DKi mX8_mayBe 50 (nI 0) 51 := Or.inl ⟨0, by decide +kernel, by decide, rfl⟩
theorem dX8_mayBe_51 : DG mX8_mayBe 51 84 := ⟨33, by decide +kernel, by decide⟩
theorem dX8_mayBe_54 : DLi mX8_mayBe 54 1 55 := Or.inl ⟨1, by decide +kernel, rfl, rfl⟩
theorem dX8_mayBe_55 : DKi mX8_mayBe 55 (nI 2) 56 := Or.inl ⟨2, by decide +kernel, by decide, rfl⟩
theorem dX8_mayBe_56 : DCne mX8_mayBe 56 69 59 := ⟨13, by decide +kernel, by decide, rfl⟩
theorem dX8_mayBe_59 : DLi mX8_mayBe 59 2 60 := Or.inl ⟨2, by decide +kernel, rfl, rfl⟩
theorem dX8_mayBe_60 : DKi mX8_mayBe 60 (nI 1) 61 := Or.inl ⟨1, by decide +kernel, by decide, rfl⟩
theorem dX8_mayBe_61 : DKi mX8_mayBe 61 (nI 8) 63 := Or.inr (Or.inl ⟨8, by decide +kernel, by decide, rfl⟩)
theorem dX8_mayBe_63 : D0 mX8_mayBe 63 (.invokestatic 89) 3 66 := ⟨by decide +kernel, rfl⟩
theorem dX8_mayBe_66 : DG mX8_mayBe 66 84 := ⟨18, by decide +kernel, by decide⟩
theorem dX8_mayBe_69 : DLi mX8_mayBe 69 2 70 := Or.inl ⟨2, by decide +kernel, rfl, rfl⟩
theorem dX8_mayBe_70 : DKi mX8_mayBe 70 (nI 0) 71 := Or.inl ⟨0, by decide +kernel, by decide, rfl⟩
theorem dX8_mayBe_71 : DLa mX8_mayBe 71 0 72 := Or.inl ⟨0, by decide +kernel, rfl, rfl⟩
theorem dX8_mayBe_72 : D0 mX8_mayBe 72 (.getfield 19) 3 75 := ⟨by decide +kernel, rfl⟩
theorem dX8_mayBe_75 : DLi mX8_mayBe 75 3 76 := Or.inl ⟨3, by decide +kernel, rfl, rfl⟩
theorem dX8_mayBe_76 : DKi mX8_mayBe 76 (nI 2) 77 := Or.inl ⟨2, by decide +kernel, by decide, rfl⟩
theorem dX8_mayBe_77 : D0 mX8_mayBe 77 (.iadd) 1 78 := ⟨by decide +kernel, rfl⟩
theorem dX8_mayBe_78 : D0 mX8_mayBe 78 (.iaload) 1 79 := ⟨by decide +kernel, rfl⟩
theorem dX8_mayBe_79 : DKi mX8_mayBe 79 (nI 1) 80 := Or.inl ⟨1, by decide +kernel, by decide, rfl⟩
theorem dX8_mayBe_80 : D0 mX8_mayBe 80 (.isub) 1 81 := ⟨by decide +kernel, rfl⟩
theorem dX8_mayBe_81 : D0 mX8_mayBe 81 (.invokestatic 89) 3 84 := ⟨by decide +kernel, rfl⟩
theorem dX8_mayBe_84 : D0 mX8_mayBe 84 (.ireturn) 1 85 := ⟨by decide +kernel, rfl⟩
theorem dX8_reads_0 : DLa mX8_reads 0 0 1 := Or.inl ⟨0, by decide +kernel, rfl, rfl⟩
theorem dX8_reads_1 : DKi mX8_reads 1 (nI 0) 2 := Or.inl ⟨0, by decide +kernel, by decide, rfl⟩
theorem dX8_reads_2 : D0 mX8_reads 2 (.putfield 97) 3 5 := ⟨by decide +kernel, rfl⟩
theorem dX8_reads_5 : DKi mX8_reads 5 (nI 0) 6 := Or.inl ⟨0, by decide +kernel, by decide, rfl⟩
theorem dX8_reads_6 : DSi mX8_reads 6 1 7 := ⟨by decide, Or.inl ⟨1, by decide +kernel, rfl, rfl⟩⟩
theorem dX8_reads_7 : DLi mX8_reads 7 1 8 := Or.inl ⟨1, by decide +kernel, rfl, rfl⟩
theorem dX8_reads_8 : DKi mX8_reads 8 (nI 8) 10 := Or.inr (Or.inl ⟨8, by decide +kernel, by decide, rfl⟩)
theorem dX8_reads_10 : DCge mX8_reads 10 26 13 := ⟨16, by decide +kernel, by decide, rfl⟩
theorem dX8_reads_13 : DLa mX8_reads 13 0 14 := Or.inl ⟨0, by decide +kernel, rfl, rfl⟩
theorem dX8_reads_14 : D0 mX8_reads 14 (.getfield 16) 3 17 := ⟨by decide +kernel, rfl⟩
theorem dX8_reads_17 : DLi mX8_reads 17 1 18 := Or.inl ⟨1, by decide +kernel, rfl, rfl⟩
theorem dX8_reads_18 : DKi mX8_reads 18 (nI 0) 19 := Or.inl ⟨0, by decide +kernel, by decide, rfl⟩
theorem dX8_reads_19 : D0 mX8_reads 19 (.iastore) 1 20 := ⟨by decide +kernel, rfl⟩
theorem dX8_reads_20 : DIn mX8_reads 20 1 (nI 1) 23 := ⟨by decide, 1, by decide +kernel, by decide, rfl⟩
theorem dX8_reads_23 : DG mX8_reads 23 7 := ⟨(-16), by decide +kernel, by decide⟩
theorem dX8_reads_26 : DKi mX8_reads 26 (nI 0) 27 := Or.inl ⟨0, by decide +kernel, by decide, rfl⟩
theorem dX8_reads_27 : DSi mX8_reads 27 1 28 := ⟨by decide, Or.inl ⟨1, by decide +kernel, rfl, rfl⟩⟩
theorem dX8_reads_28 : DLi mX8_reads 28 1 29 := Or.inl ⟨1, by decide +kernel, rfl, rfl⟩
theorem dX8_reads_29 : DKi mX8_reads 29 (nI 8) 31 := Or.inr (Or.inl ⟨8, by decide +kernel, by decide, rfl⟩)
theorem dX8_reads_31 : DCge mX8_reads 31 66 34 := ⟨35, by decide +kernel, by decide, rfl⟩
theorem dX8_reads_34 : DLa mX8_reads 34 0 35 := Or.inl ⟨0, by decide +kernel, rfl, rfl⟩
theorem dX8_reads_35 : D0 mX8_reads 35 (.getfield 13) 3 38 := ⟨by decide +kernel, rfl⟩
theorem dX8_reads_38 : DLi mX8_reads 38 1 39 := Or.inl ⟨1, by decide +kernel, rfl, rfl⟩
theorem dX8_reads_39 : DLa mX8_reads 39 0 40 := Or.inl ⟨0, by decide +kernel, rfl, rfl⟩
theorem dX8_reads_40 : DLi mX8_reads 40 1 41 := Or.inl ⟨1, by decide +kernel, rfl, rfl⟩
theorem dX8_reads_41 : D0 mX8_reads 41 (.invokevirtual 100) 3 44 := ⟨by decide +kernel, rfl⟩
theorem dX8_reads_44 : D0 mX8_reads 44 (.invokestatic 104) 3 47 := ⟨by decide +kernel, rfl⟩
theorem dX8_reads_47 : D0 mX8_reads 47 (.iastore) 1 48 := ⟨by decide +kernel, rfl⟩
theorem dX8_reads_48 : DLa mX8_reads 48 0 49 := Or.inl ⟨0, by decide +kernel, rfl, rfl⟩
theorem dX8_reads_49 : D0 mX8_reads 49 (.getfield 13) 3 52 := ⟨by decide +kernel, rfl⟩
theorem dX8_reads_52 : DLi mX8_reads 52 1 53 := Or.inl ⟨1, by decide +kernel, rfl, rfl⟩
theorem dX8_reads_53 : D0 mX8_reads 53 (.iaload) 1 54 := ⟨by decide +kernel, rfl⟩
theorem dX8_reads_54 : DKi mX8_reads 54 ((-1)) 55 := Or.inl ⟨(-1), by decide +kernel, by decide, rfl⟩
theorem dX8_reads_55 : DCne mX8_reads 55 60 58 := ⟨5, by decide +kernel, by decide, rfl⟩
theorem dX8_reads_58 : DLi mX8_reads 58 1 59 := Or.inl ⟨1, by decide +kernel, rfl, rfl⟩
theorem dX8_reads_59 : D0 mX8_reads 59 (.ireturn) 1 60 := ⟨by decide +kernel, rfl⟩
theorem dX8_reads_60 : DIn mX8_reads 60 1 (nI 1) 63 := ⟨by decide, 1, by decide +kernel, by decide, rfl⟩
theorem dX8_reads_63 : DG mX8_reads 63 28 := ⟨(-35), by decide +kernel, by decide⟩
theorem dX8_reads_66 : DKi mX8_reads 66 (nI 8) 68 := Or.inr (Or.inl ⟨8, by decide +kernel, by decide, rfl⟩)
theorem dX8_reads_68 : DSi mX8_reads 68 1 69 := ⟨by decide, Or.inl ⟨1, by decide +kernel, rfl, rfl⟩⟩
theorem dX8_reads_69 : DLi mX8_reads 69 1 70 := Or.inl ⟨1, by decide +kernel, rfl, rfl⟩
theorem dX8_reads_70 : DLa mX8_reads 70 0 71 := Or.inl ⟨0, by decide +kernel, rfl, rfl⟩
theorem dX8_reads_71 : D0 mX8_reads 71 (.getfield 93) 3 74 := ⟨by decide +kernel, rfl⟩
theorem dX8_reads_74 : DCge mX8_reads 74 226 77 := ⟨152, by decide +kernel, by decide, rfl⟩
theorem dX8_reads_77 : DLa mX8_reads 77 0 78 := Or.inl ⟨0, by decide +kernel, rfl, rfl⟩
theorem dX8_reads_78 : D0 mX8_reads 78 (.getfield 7) 3 81 := ⟨by decide +kernel, rfl⟩
theorem dX8_reads_81 : DLi mX8_reads 81 1 82 := Or.inl ⟨1, by decide +kernel, rfl, rfl⟩
theorem dX8_reads_82 : D0 mX8_reads 82 (.iaload) 1 83 := ⟨by decide +kernel, rfl⟩
theorem dX8_reads_83 : DKi mX8_reads 83 (nI 59) 85 := Or.inr (Or.inl ⟨59, by decide +kernel, by decide, rfl⟩)
theorem dX8_reads_85 : DCeq mX8_reads 85 90 88 := ⟨5, by decide +kernel, by decide, rfl⟩
theorem dX8_reads_88 : DLi mX8_reads 88 1 89 := Or.inl ⟨1, by decide +kernel, rfl, rfl⟩
theorem dX8_reads_89 : D0 mX8_reads 89 (.ireturn) 1 90 := ⟨by decide +kernel, rfl⟩
theorem dX8_reads_90 : DIn mX8_reads 90 1 (nI 1) 93 := ⟨by decide, 1, by decide +kernel, by decide, rfl⟩
theorem dX8_reads_93 : DLa mX8_reads 93 0 94 := Or.inl ⟨0, by decide +kernel, rfl, rfl⟩
theorem dX8_reads_94 : DLi mX8_reads 94 1 95 := Or.inl ⟨1, by decide +kernel, rfl, rfl⟩
theorem dX8_reads_95 : D0 mX8_reads 95 (.invokevirtual 100) 3 98 := ⟨by decide +kernel, rfl⟩
theorem dX8_reads_98 : DKi mX8_reads 98 (nI 120) 100 := Or.inr (Or.inl ⟨120, by decide +kernel, by decide, rfl⟩)
theorem dX8_reads_100 : DCne mX8_reads 100 140 103 := ⟨40, by decide +kernel, by decide, rfl⟩
theorem dX8_reads_103 : DIn mX8_reads 103 1 (nI 1) 106 := ⟨by decide, 1, by decide +kernel, by decide, rfl⟩
theorem dX8_reads_106 : DLa mX8_reads 106 0 107 := Or.inl ⟨0, by decide +kernel, rfl, rfl⟩
theorem dX8_reads_107 : DLi mX8_reads 107 1 108 := Or.inl ⟨1, by decide +kernel, rfl, rfl⟩
theorem dX8_reads_108 : D0 mX8_reads 108 (.invokevirtual 100) 3 111 := ⟨by decide +kernel, rfl⟩
theorem dX8_reads_111 : DKi mX8_reads 111 (nI 48) 113 := Or.inr (Or.inl ⟨48, by decide +kernel, by decide, rfl⟩)
theorem dX8_reads_113 : D0 mX8_reads 113 (.isub) 1 114 := ⟨by decide +kernel, rfl⟩
theorem dX8_reads_114 : DSi mX8_reads 114 2 115 := ⟨by decide, Or.inl ⟨2, by decide +kernel, rfl, rfl⟩⟩
theorem dX8_reads_115 : DLi mX8_reads 115 2 116 := Or.inl ⟨2, by decide +kernel, rfl, rfl⟩
theorem dX8_reads_116 : DKi mX8_reads 116 (nI 0) 117 := Or.inl ⟨0, by decide +kernel, by decide, rfl⟩
theorem dX8_reads_117 : DKi mX8_reads 117 (nI 7) 119 := Or.inr (Or.inl ⟨7, by decide +kernel, by decide, rfl⟩)
theorem dX8_reads_119 : D0 mX8_reads 119 (.invokestatic 89) 3 122 := ⟨by decide +kernel, rfl⟩
theorem dX8_reads_122 : DFne mX8_reads 122 127 125 := ⟨5, by decide +kernel, by decide, rfl⟩
theorem dX8_reads_125 : DLi mX8_reads 125 1 126 := Or.inl ⟨1, by decide +kernel, rfl, rfl⟩
theorem dX8_reads_126 : D0 mX8_reads 126 (.ireturn) 1 127 := ⟨by decide +kernel, rfl⟩
theorem dX8_reads_127 : DLa mX8_reads 127 0 128 := Or.inl ⟨0, by decide +kernel, rfl, rfl⟩
theorem dX8_reads_128 : D0 mX8_reads 128 (.getfield 16) 3 131 := ⟨by decide +kernel, rfl⟩
theorem dX8_reads_131 : DLi mX8_reads 131 2 132 := Or.inl ⟨2, by decide +kernel, rfl, rfl⟩
theorem dX8_reads_132 : DKi mX8_reads 132 (nI 1) 133 := Or.inl ⟨1, by decide +kernel, by decide, rfl⟩
theorem dX8_reads_133 : D0 mX8_reads 133 (.iastore) 1 134 := ⟨by decide +kernel, rfl⟩
theorem dX8_reads_134 : DIn mX8_reads 134 1 (nI 1) 137 := ⟨by decide, 1, by decide +kernel, by decide, rfl⟩
theorem dX8_reads_137 : DG mX8_reads 137 69 := ⟨(-68), by decide +kernel, by decide⟩
theorem dX8_reads_140 : DLa mX8_reads 140 0 141 := Or.inl ⟨0, by decide +kernel, rfl, rfl⟩
theorem dX8_reads_141 : DLi mX8_reads 141 1 142 := Or.inl ⟨1, by decide +kernel, rfl, rfl⟩
theorem dX8_reads_142 : D0 mX8_reads 142 (.invokevirtual 100) 3 145 := ⟨by decide +kernel, rfl⟩
theorem dX8_reads_145 : DKi mX8_reads 145 (nI 98) 147 := Or.inr (Or.inl ⟨98, by decide +kernel, by decide, rfl⟩)
theorem dX8_reads_147 : DCne mX8_reads 147 224 150 := ⟨77, by decide +kernel, by decide, rfl⟩
theorem dX8_reads_150 : DLa mX8_reads 150 0 151 := Or.inl ⟨0, by decide +kernel, rfl, rfl⟩
theorem dX8_reads_151 : D0 mX8_reads 151 (.getfield 97) 3 154 := ⟨by decide +kernel, rfl⟩
theorem dX8_reads_154 : DKi mX8_reads 154 (nI 4) 155 := Or.inl ⟨4, by decide +kernel, by decide, rfl⟩
theorem dX8_reads_155 : DCge mX8_reads 155 224 158 := ⟨69, by decide +kernel, by decide, rfl⟩
theorem dX8_reads_158 : DIn mX8_reads 158 1 (nI 1) 161 := ⟨by decide, 1, by decide +kernel, by decide, rfl⟩
theorem dX8_reads_161 : DKi mX8_reads 161 (nI 0) 162 := Or.inl ⟨0, by decide +kernel, by decide, rfl⟩
theorem dX8_reads_162 : DSi mX8_reads 162 2 163 := ⟨by decide, Or.inl ⟨2, by decide +kernel, rfl, rfl⟩⟩
theorem dX8_reads_163 : DLi mX8_reads 163 2 164 := Or.inl ⟨2, by decide +kernel, rfl, rfl⟩
theorem dX8_reads_164 : DKi mX8_reads 164 (nI 4) 165 := Or.inl ⟨4, by decide +kernel, by decide, rfl⟩
theorem dX8_reads_165 : DCge mX8_reads 165 211 168 := ⟨46, by decide +kernel, by decide, rfl⟩
theorem dX8_reads_168 : DLa mX8_reads 168 0 169 := Or.inl ⟨0, by decide +kernel, rfl, rfl⟩
theorem dX8_reads_169 : DLi mX8_reads 169 1 170 := Or.inl ⟨1, by decide +kernel, rfl, rfl⟩
theorem dX8_reads_170 : D0 mX8_reads 170 (.invokevirtual 100) 3 173 := ⟨by decide +kernel, rfl⟩
theorem dX8_reads_173 : DKi mX8_reads 173 (nI 48) 175 := Or.inr (Or.inl ⟨48, by decide +kernel, by decide, rfl⟩)
theorem dX8_reads_175 : D0 mX8_reads 175 (.isub) 1 176 := ⟨by decide +kernel, rfl⟩
theorem dX8_reads_176 : DSi mX8_reads 176 3 177 := ⟨by decide, Or.inl ⟨3, by decide +kernel, rfl, rfl⟩⟩
theorem dX8_reads_177 : DLa mX8_reads 177 0 178 := Or.inl ⟨0, by decide +kernel, rfl, rfl⟩
theorem dX8_reads_178 : DLi mX8_reads 178 2 179 := Or.inl ⟨2, by decide +kernel, rfl, rfl⟩
theorem dX8_reads_179 : DLi mX8_reads 179 3 180 := Or.inl ⟨3, by decide +kernel, rfl, rfl⟩
theorem dX8_reads_180 : D0 mX8_reads 180 (.invokevirtual 107) 3 183 := ⟨by decide +kernel, rfl⟩
theorem dX8_reads_183 : DFne mX8_reads 183 188 186 := ⟨5, by decide +kernel, by decide, rfl⟩
theorem dX8_reads_186 : DLi mX8_reads 186 1 187 := Or.inl ⟨1, by decide +kernel, rfl, rfl⟩
theorem dX8_reads_187 : D0 mX8_reads 187 (.ireturn) 1 188 := ⟨by decide +kernel, rfl⟩
theorem dX8_reads_188 : DLa mX8_reads 188 0 189 := Or.inl ⟨0, by decide +kernel, rfl, rfl⟩
theorem dX8_reads_189 : D0 mX8_reads 189 (.getfield 19) 3 192 := ⟨by decide +kernel, rfl⟩
theorem dX8_reads_192 : DKi mX8_reads 192 (nI 4) 193 := Or.inl ⟨4, by decide +kernel, by decide, rfl⟩
theorem dX8_reads_193 : DLa mX8_reads 193 0 194 := Or.inl ⟨0, by decide +kernel, rfl, rfl⟩
theorem dX8_reads_194 : D0 mX8_reads 194 (.getfield 97) 3 197 := ⟨by decide +kernel, rfl⟩
theorem dX8_reads_197 : D0 mX8_reads 197 (.imul) 1 198 := ⟨by decide +kernel, rfl⟩
theorem dX8_reads_198 : DLi mX8_reads 198 2 199 := Or.inl ⟨2, by decide +kernel, rfl, rfl⟩
theorem dX8_reads_199 : D0 mX8_reads 199 (.iadd) 1 200 := ⟨by decide +kernel, rfl⟩
theorem dX8_reads_200 : DLi mX8_reads 200 3 201 := Or.inl ⟨3, by decide +kernel, rfl, rfl⟩
theorem dX8_reads_201 : D0 mX8_reads 201 (.iastore) 1 202 := ⟨by decide +kernel, rfl⟩
theorem dX8_reads_202 : DIn mX8_reads 202 1 (nI 1) 205 := ⟨by decide, 1, by decide +kernel, by decide, rfl⟩
theorem dX8_reads_205 : DIn mX8_reads 205 2 (nI 1) 208 := ⟨by decide, 1, by decide +kernel, by decide, rfl⟩
theorem dX8_reads_208 : DG mX8_reads 208 163 := ⟨(-45), by decide +kernel, by decide⟩
theorem dX8_reads_211 : DLa mX8_reads 211 0 212 := Or.inl ⟨0, by decide +kernel, rfl, rfl⟩
theorem dX8_reads_212 : D0 mX8_reads 212 (.dup) 1 213 := ⟨by decide +kernel, rfl⟩
theorem dX8_reads_213 : D0 mX8_reads 213 (.getfield 97) 3 216 := ⟨by decide +kernel, rfl⟩
theorem dX8_reads_216 : DKi mX8_reads 216 (nI 1) 217 := Or.inl ⟨1, by decide +kernel, by decide, rfl⟩
theorem dX8_reads_217 : D0 mX8_reads 217 (.iadd) 1 218 := ⟨by decide +kernel, rfl⟩
theorem dX8_reads_218 : D0 mX8_reads 218 (.putfield 97) 3 221 := ⟨by decide +kernel, rfl⟩
theorem dX8_reads_221 : DG mX8_reads 221 69 := ⟨(-152), by decide +kernel, by decide⟩
theorem dX8_reads_224 : DLi mX8_reads 224 1 225 := Or.inl ⟨1, by decide +kernel, rfl, rfl⟩
theorem dX8_reads_225 : D0 mX8_reads 225 (.ireturn) 1 226 := ⟨by decide +kernel, rfl⟩
theorem dX8_reads_226 : DKi mX8_reads 226 ((-1)) 227 := Or.inl ⟨(-1), by decide +kernel, by decide, rfl⟩
theorem dX8_reads_227 : D0 mX8_reads 227 (.ireturn) 1 228 := ⟨by decide +kernel, rfl⟩
end
section
theorem dX8_faultNow_0 : DLa mX8_faultNow 0 0 1 := Or.inl ⟨0, by decide +kernel, rfl, rfl⟩
theorem dX8_faultNow_1 : D0 mX8_faultNow 1 (.invokevirtual 111) 3 4 := ⟨by decide +kernel, rfl⟩
theorem dX8_faultNow_4 : DSi mX8_faultNow 4 1 5 := ⟨by decide, Or.inl ⟨1, by decide +kernel, rfl, rfl⟩⟩
theorem dX8_faultNow_5 : DLi mX8_faultNow 5 1 6 := Or.inl ⟨1, by decide +kernel, rfl, rfl⟩
theorem dX8_faultNow_6 : DKi mX8_faultNow 6 ((-1)) 7 := Or.inl ⟨(-1), by decide +kernel, by decide, rfl⟩
theorem dX8_faultNow_7 : DCeq mX8_faultNow 7 43 10 := ⟨36, by decide +kernel, by decide, rfl⟩
theorem dX8_faultNow_10 : DLa mX8_faultNow 10 0 11 := Or.inl ⟨0, by decide +kernel, rfl, rfl⟩
theorem dX8_faultNow_11 : DKi mX8_faultNow 11 (nI 0) 12 := Or.inl ⟨0, by decide +kernel, by decide, rfl⟩
theorem dX8_faultNow_12 : D0 mX8_faultNow 12 (.putfield 97) 3 15 := ⟨by decide +kernel, rfl⟩
theorem dX8_faultNow_15 : DKi mX8_faultNow 15 (nI 0) 16 := Or.inl ⟨0, by decide +kernel, by decide, rfl⟩
theorem dX8_faultNow_16 : DSi mX8_faultNow 16 2 17 := ⟨by decide, Or.inl ⟨2, by decide +kernel, rfl, rfl⟩⟩
theorem dX8_faultNow_17 : DLi mX8_faultNow 17 2 18 := Or.inl ⟨2, by decide +kernel, rfl, rfl⟩
theorem dX8_faultNow_18 : DKi mX8_faultNow 18 (nI 8) 20 := Or.inr (Or.inl ⟨8, by decide +kernel, by decide, rfl⟩)
theorem dX8_faultNow_20 : DCge mX8_faultNow 20 43 23 := ⟨23, by decide +kernel, by decide, rfl⟩
theorem dX8_faultNow_23 : DLa mX8_faultNow 23 0 24 := Or.inl ⟨0, by decide +kernel, rfl, rfl⟩
theorem dX8_faultNow_24 : D0 mX8_faultNow 24 (.getfield 13) 3 27 := ⟨by decide +kernel, rfl⟩
theorem dX8_faultNow_27 : DLi mX8_faultNow 27 2 28 := Or.inl ⟨2, by decide +kernel, rfl, rfl⟩
theorem dX8_faultNow_28 : DKi mX8_faultNow 28 (nI 0) 29 := Or.inl ⟨0, by decide +kernel, by decide, rfl⟩
theorem dX8_faultNow_29 : D0 mX8_faultNow 29 (.iastore) 1 30 := ⟨by decide +kernel, rfl⟩
theorem dX8_faultNow_30 : DLa mX8_faultNow 30 0 31 := Or.inl ⟨0, by decide +kernel, rfl, rfl⟩
theorem dX8_faultNow_31 : D0 mX8_faultNow 31 (.getfield 16) 3 34 := ⟨by decide +kernel, rfl⟩
theorem dX8_faultNow_34 : DLi mX8_faultNow 34 2 35 := Or.inl ⟨2, by decide +kernel, rfl, rfl⟩
theorem dX8_faultNow_35 : DKi mX8_faultNow 35 (nI 0) 36 := Or.inl ⟨0, by decide +kernel, by decide, rfl⟩
theorem dX8_faultNow_36 : D0 mX8_faultNow 36 (.iastore) 1 37 := ⟨by decide +kernel, rfl⟩
theorem dX8_faultNow_37 : DIn mX8_faultNow 37 2 (nI 1) 40 := ⟨by decide, 1, by decide +kernel, by decide, rfl⟩
theorem dX8_faultNow_40 : DG mX8_faultNow 40 17 := ⟨(-23), by decide +kernel, by decide⟩
theorem dX8_faultNow_43 : DLi mX8_faultNow 43 1 44 := Or.inl ⟨1, by decide +kernel, rfl, rfl⟩
theorem dX8_faultNow_44 : D0 mX8_faultNow 44 (.ireturn) 1 45 := ⟨by decide +kernel, rfl⟩
theorem dX8_fault_0 : DLa mX8_fault 0 0 1 := Or.inl ⟨0, by decide +kernel, rfl, rfl⟩
theorem dX8_fault_1 : D0 mX8_fault 1 (.invokevirtual 115) 3 4 := ⟨by decide +kernel, rfl⟩
theorem dX8_fault_4 : D0 mX8_fault 4 (.ireturn) 1 5 := ⟨by decide +kernel, rfl⟩
theorem dX8_placeOf_0 : DLa mX8_placeOf 0 0 1 := Or.inl ⟨0, by decide +kernel, rfl, rfl⟩
theorem dX8_placeOf_1 : D0 mX8_placeOf 1 (.invokevirtual 115) 3 4 := ⟨by decide +kernel, rfl⟩
theorem dX8_placeOf_4 : DSi mX8_placeOf 4 3 5 := ⟨by decide, Or.inl ⟨3, by decide +kernel, rfl, rfl⟩⟩
theorem dX8_placeOf_5 : DLi mX8_placeOf 5 2 6 := Or.inl ⟨2, by decide +kernel, rfl, rfl⟩
theorem dX8_placeOf_6 : DFne mX8_placeOf 6 18 9 := ⟨12, by decide +kernel, by decide, rfl⟩
theorem dX8_placeOf_9 : DLa mX8_placeOf 9 0 10 := Or.inl ⟨0, by decide +kernel, rfl, rfl⟩
theorem dX8_placeOf_10 : D0 mX8_placeOf 10 (.getfield 13) 3 13 := ⟨by decide +kernel, rfl⟩
theorem dX8_placeOf_13 : DLi mX8_placeOf 13 1 14 := Or.inl ⟨1, by decide +kernel, rfl, rfl⟩
theorem dX8_placeOf_14 : D0 mX8_placeOf 14 (.iaload) 1 15 := ⟨by decide +kernel, rfl⟩
theorem dX8_placeOf_15 : DG mX8_placeOf 15 40 := ⟨25, by decide +kernel, by decide⟩
theorem dX8_placeOf_18 : DLi mX8_placeOf 18 2 19 := Or.inl ⟨2, by decide +kernel, rfl, rfl⟩
theorem dX8_placeOf_19 : DKi mX8_placeOf 19 (nI 1) 20 := Or.inl ⟨1, by decide +kernel, by decide, rfl⟩
theorem dX8_placeOf_20 : DCne mX8_placeOf 20 34 23 := ⟨14, by decide +kernel, by decide, rfl⟩
theorem dX8_placeOf_23 : DKi mX8_placeOf 23 (nI 1) 24 := Or.inl ⟨1, by decide +kernel, by decide, rfl⟩
theorem dX8_placeOf_24 : DLa mX8_placeOf 24 0 25 := Or.inl ⟨0, by decide +kernel, rfl, rfl⟩
theorem dX8_placeOf_25 : D0 mX8_placeOf 25 (.getfield 16) 3 28 := ⟨by decide +kernel, rfl⟩
theorem dX8_placeOf_28 : DLi mX8_placeOf 28 1 29 := Or.inl ⟨1, by decide +kernel, rfl, rfl⟩
theorem dX8_placeOf_29 : D0 mX8_placeOf 29 (.iaload) 1 30 := ⟨by decide +kernel, rfl⟩
theorem dX8_placeOf_30 : D0 mX8_placeOf 30 (.isub) 1 31 := ⟨by decide +kernel, rfl⟩
theorem dX8_placeOf_31 : DG mX8_placeOf 31 40 := ⟨9, by decide +kernel, by decide⟩
theorem dX8_placeOf_34 : DLa mX8_placeOf 34 0 35 := Or.inl ⟨0, by decide +kernel, rfl, rfl⟩
theorem dX8_placeOf_35 : D0 mX8_placeOf 35 (.getfield 22) 3 38 := ⟨by decide +kernel, rfl⟩
theorem dX8_placeOf_38 : DLi mX8_placeOf 38 1 39 := Or.inl ⟨1, by decide +kernel, rfl, rfl⟩
theorem dX8_placeOf_39 : D0 mX8_placeOf 39 (.iaload) 1 40 := ⟨by decide +kernel, rfl⟩
theorem dX8_placeOf_40 : D0 mX8_placeOf 40 (.ireturn) 1 41 := ⟨by decide +kernel, rfl⟩
theorem dX8_isEighth_0 : DLi mX8_isEighth 0 0 1 := Or.inl ⟨0, by decide +kernel, rfl, rfl⟩
theorem dX8_isEighth_1 : DKi mX8_isEighth 1 (nI 0) 2 := Or.inl ⟨0, by decide +kernel, by decide, rfl⟩
theorem dX8_isEighth_2 : DKi mX8_isEighth 2 (nI 7) 4 := Or.inr (Or.inl ⟨7, by decide +kernel, by decide, rfl⟩)
theorem dX8_isEighth_4 : D0 mX8_isEighth 4 (.invokestatic 89) 3 7 := ⟨by decide +kernel, rfl⟩
theorem dX8_isEighth_7 : D0 mX8_isEighth 7 (.ireturn) 1 8 := ⟨by decide +kernel, rfl⟩
theorem dX8_place_0 : DLi mX8_place 0 1 1 := Or.inl ⟨1, by decide +kernel, rfl, rfl⟩
theorem dX8_place_1 : D0 mX8_place 1 (.invokestatic 118) 3 4 := ⟨by decide +kernel, rfl⟩
theorem dX8_place_4 : DFeq mX8_place 4 25 7 := ⟨21, by decide +kernel, by decide, rfl⟩
theorem dX8_place_7 : DLi mX8_place 7 2 8 := Or.inl ⟨2, by decide +kernel, rfl, rfl⟩
theorem dX8_place_8 : DKi mX8_place 8 (nI 0) 9 := Or.inl ⟨0, by decide +kernel, by decide, rfl⟩
theorem dX8_place_9 : DKi mX8_place 9 (nI 2) 10 := Or.inl ⟨2, by decide +kernel, by decide, rfl⟩
theorem dX8_place_10 : D0 mX8_place 10 (.invokestatic 89) 3 13 := ⟨by decide +kernel, rfl⟩
theorem dX8_place_13 : DFeq mX8_place 13 25 16 := ⟨12, by decide +kernel, by decide, rfl⟩
theorem dX8_place_16 : DLa mX8_place 16 0 17 := Or.inl ⟨0, by decide +kernel, rfl, rfl⟩
theorem dX8_place_17 : DLi mX8_place 17 1 18 := Or.inl ⟨1, by decide +kernel, rfl, rfl⟩
theorem dX8_place_18 : DLi mX8_place 18 2 19 := Or.inl ⟨2, by decide +kernel, rfl, rfl⟩
theorem dX8_place_19 : D0 mX8_place 19 (.invokevirtual 122) 3 22 := ⟨by decide +kernel, rfl⟩
theorem dX8_place_22 : DG mX8_place 22 27 := ⟨5, by decide +kernel, by decide⟩
theorem dX8_place_25 : DKi mX8_place 25 ((-2)) 27 := Or.inr (Or.inl ⟨(-2), by decide +kernel, by decide, rfl⟩)
theorem dX8_place_27 : D0 mX8_place 27 (.ireturn) 1 28 := ⟨by decide +kernel, rfl⟩
theorem dX8_sun_0 : DLi mX8_sun 0 1 1 := Or.inl ⟨1, by decide +kernel, rfl, rfl⟩
theorem dX8_sun_1 : D0 mX8_sun 1 (.invokestatic 118) 3 4 := ⟨by decide +kernel, rfl⟩
theorem dX8_sun_4 : DFeq mX8_sun 4 17 7 := ⟨13, by decide +kernel, by decide, rfl⟩
theorem dX8_sun_7 : DLi mX8_sun 7 2 8 := Or.inl ⟨2, by decide +kernel, rfl, rfl⟩
theorem dX8_sun_8 : DKi mX8_sun 8 (nI 0) 9 := Or.inl ⟨0, by decide +kernel, by decide, rfl⟩
theorem dX8_sun_9 : DKi mX8_sun 9 (nI 9) 11 := Or.inr (Or.inl ⟨9, by decide +kernel, by decide, rfl⟩)
theorem dX8_sun_11 : D0 mX8_sun 11 (.invokestatic 89) 3 14 := ⟨by decide +kernel, rfl⟩
theorem dX8_sun_14 : DFne mX8_sun 14 20 17 := ⟨6, by decide +kernel, by decide, rfl⟩
theorem dX8_sun_17 : DKi mX8_sun 17 ((-2)) 19 := Or.inr (Or.inl ⟨(-2), by decide +kernel, by decide, rfl⟩)
theorem dX8_sun_19 : D0 mX8_sun 19 (.ireturn) 1 20 := ⟨by decide +kernel, rfl⟩
theorem dX8_sun_20 : DLa mX8_sun 20 0 21 := Or.inl ⟨0, by decide +kernel, rfl, rfl⟩
theorem dX8_sun_21 : D0 mX8_sun 21 (.getfield 22) 3 24 := ⟨by decide +kernel, rfl⟩
theorem dX8_sun_24 : DLi mX8_sun 24 1 25 := Or.inl ⟨1, by decide +kernel, rfl, rfl⟩
theorem dX8_sun_25 : D0 mX8_sun 25 (.iaload) 1 26 := ⟨by decide +kernel, rfl⟩
theorem dX8_sun_26 : DSi mX8_sun 26 3 27 := ⟨by decide, Or.inl ⟨3, by decide +kernel, rfl, rfl⟩⟩
theorem dX8_sun_27 : DLa mX8_sun 27 0 28 := Or.inl ⟨0, by decide +kernel, rfl, rfl⟩
theorem dX8_sun_28 : D0 mX8_sun 28 (.getfield 22) 3 31 := ⟨by decide +kernel, rfl⟩
theorem dX8_sun_31 : DLi mX8_sun 31 1 32 := Or.inl ⟨1, by decide +kernel, rfl, rfl⟩
theorem dX8_sun_32 : DLi mX8_sun 32 2 33 := Or.inl ⟨2, by decide +kernel, rfl, rfl⟩
theorem dX8_sun_33 : D0 mX8_sun 33 (.iastore) 1 34 := ⟨by decide +kernel, rfl⟩
theorem dX8_sun_34 : DLi mX8_sun 34 3 35 := Or.inl ⟨3, by decide +kernel, rfl, rfl⟩
theorem dX8_sun_35 : D0 mX8_sun 35 (.ireturn) 1 36 := ⟨by decide +kernel, rfl⟩
theorem dX8_galeMore_0 : DLi mX8_galeMore 0 1 1 := Or.inl ⟨1, by decide +kernel, rfl, rfl⟩
theorem dX8_galeMore_1 : DKi mX8_galeMore 1 (nI 0) 2 := Or.inl ⟨0, by decide +kernel, by decide, rfl⟩
theorem dX8_galeMore_2 : DKi mX8_galeMore 2 (nI 99) 4 := Or.inr (Or.inl ⟨99, by decide +kernel, by decide, rfl⟩)
theorem dX8_galeMore_4 : D0 mX8_galeMore 4 (.invokestatic 89) 3 7 := ⟨by decide +kernel, rfl⟩
theorem dX8_galeMore_7 : DFeq mX8_galeMore 7 33 10 := ⟨26, by decide +kernel, by decide, rfl⟩
theorem dX8_galeMore_10 : DLi mX8_galeMore 10 2 11 := Or.inl ⟨2, by decide +kernel, rfl, rfl⟩
theorem dX8_galeMore_11 : DKi mX8_galeMore 11 (nI 0) 12 := Or.inl ⟨0, by decide +kernel, by decide, rfl⟩
theorem dX8_galeMore_12 : DKi mX8_galeMore 12 (nI 1) 13 := Or.inl ⟨1, by decide +kernel, by decide, rfl⟩
theorem dX8_galeMore_13 : D0 mX8_galeMore 13 (.invokestatic 89) 3 16 := ⟨by decide +kernel, rfl⟩
theorem dX8_galeMore_16 : DFeq mX8_galeMore 16 33 19 := ⟨17, by decide +kernel, by decide, rfl⟩
theorem dX8_galeMore_19 : DLi mX8_galeMore 19 3 20 := Or.inl ⟨3, by decide +kernel, rfl, rfl⟩
theorem dX8_galeMore_20 : DLa mX8_galeMore 20 0 21 := Or.inl ⟨0, by decide +kernel, rfl, rfl⟩
theorem dX8_galeMore_21 : D0 mX8_galeMore 21 (.getfield 126) 3 24 := ⟨by decide +kernel, rfl⟩
theorem dX8_galeMore_24 : DKi mX8_galeMore 24 (nI 999) 27 := Or.inr (Or.inr (Or.inl ⟨999, by decide +kernel, by decide, rfl⟩))
theorem dX8_galeMore_27 : D0 mX8_galeMore 27 (.invokestatic 89) 3 30 := ⟨by decide +kernel, rfl⟩
theorem dX8_galeMore_30 : DFne mX8_galeMore 30 36 33 := ⟨6, by decide +kernel, by decide, rfl⟩
theorem dX8_galeMore_33 : DKi mX8_galeMore 33 ((-2)) 35 := Or.inr (Or.inl ⟨(-2), by decide +kernel, by decide, rfl⟩)
theorem dX8_galeMore_35 : D0 mX8_galeMore 35 (.ireturn) 1 36 := ⟨by decide +kernel, rfl⟩
theorem dX8_galeMore_36 : DLa mX8_galeMore 36 0 37 := Or.inl ⟨0, by decide +kernel, rfl, rfl⟩
theorem dX8_galeMore_37 : D0 mX8_galeMore 37 (.getfield 129) 3 40 := ⟨by decide +kernel, rfl⟩
theorem dX8_galeMore_40 : DKi mX8_galeMore 40 (nI 60) 42 := Or.inr (Or.inl ⟨60, by decide +kernel, by decide, rfl⟩)
theorem dX8_galeMore_42 : DCne mX8_galeMore 42 48 45 := ⟨6, by decide +kernel, by decide, rfl⟩
theorem dX8_galeMore_45 : DKi mX8_galeMore 45 ((-4)) 47 := Or.inr (Or.inl ⟨(-4), by decide +kernel, by decide, rfl⟩)
theorem dX8_galeMore_47 : D0 mX8_galeMore 47 (.ireturn) 1 48 := ⟨by decide +kernel, rfl⟩
theorem dX8_galeMore_48 : DLa mX8_galeMore 48 0 49 := Or.inl ⟨0, by decide +kernel, rfl, rfl⟩
theorem dX8_galeMore_49 : D0 mX8_galeMore 49 (.getfield 25) 3 52 := ⟨by decide +kernel, rfl⟩
theorem dX8_galeMore_52 : DLa mX8_galeMore 52 0 53 := Or.inl ⟨0, by decide +kernel, rfl, rfl⟩
theorem dX8_galeMore_53 : D0 mX8_galeMore 53 (.getfield 129) 3 56 := ⟨by decide +kernel, rfl⟩
theorem dX8_galeMore_56 : DLi mX8_galeMore 56 1 57 := Or.inl ⟨1, by decide +kernel, rfl, rfl⟩
theorem dX8_galeMore_57 : D0 mX8_galeMore 57 (.iastore) 1 58 := ⟨by decide +kernel, rfl⟩
theorem dX8_galeMore_58 : DLa mX8_galeMore 58 0 59 := Or.inl ⟨0, by decide +kernel, rfl, rfl⟩
theorem dX8_galeMore_59 : D0 mX8_galeMore 59 (.getfield 28) 3 62 := ⟨by decide +kernel, rfl⟩
theorem dX8_galeMore_62 : DLa mX8_galeMore 62 0 63 := Or.inl ⟨0, by decide +kernel, rfl, rfl⟩
theorem dX8_galeMore_63 : D0 mX8_galeMore 63 (.getfield 129) 3 66 := ⟨by decide +kernel, rfl⟩
theorem dX8_galeMore_66 : DLi mX8_galeMore 66 2 67 := Or.inl ⟨2, by decide +kernel, rfl, rfl⟩
theorem dX8_galeMore_67 : D0 mX8_galeMore 67 (.iastore) 1 68 := ⟨by decide +kernel, rfl⟩
theorem dX8_galeMore_68 : DLa mX8_galeMore 68 0 69 := Or.inl ⟨0, by decide +kernel, rfl, rfl⟩
theorem dX8_galeMore_69 : D0 mX8_galeMore 69 (.getfield 31) 3 72 := ⟨by decide +kernel, rfl⟩
theorem dX8_galeMore_72 : DLa mX8_galeMore 72 0 73 := Or.inl ⟨0, by decide +kernel, rfl, rfl⟩
theorem dX8_galeMore_73 : D0 mX8_galeMore 73 (.getfield 129) 3 76 := ⟨by decide +kernel, rfl⟩
theorem dX8_galeMore_76 : DLi mX8_galeMore 76 3 77 := Or.inl ⟨3, by decide +kernel, rfl, rfl⟩
theorem dX8_galeMore_77 : D0 mX8_galeMore 77 (.iastore) 1 78 := ⟨by decide +kernel, rfl⟩
theorem dX8_galeMore_78 : DLa mX8_galeMore 78 0 79 := Or.inl ⟨0, by decide +kernel, rfl, rfl⟩
theorem dX8_galeMore_79 : D0 mX8_galeMore 79 (.getfield 34) 3 82 := ⟨by decide +kernel, rfl⟩
theorem dX8_galeMore_82 : DLa mX8_galeMore 82 0 83 := Or.inl ⟨0, by decide +kernel, rfl, rfl⟩
theorem dX8_galeMore_83 : D0 mX8_galeMore 83 (.getfield 129) 3 86 := ⟨by decide +kernel, rfl⟩
theorem dX8_galeMore_86 : DKi mX8_galeMore 86 ((-1)) 87 := Or.inl ⟨(-1), by decide +kernel, by decide, rfl⟩
theorem dX8_galeMore_87 : D0 mX8_galeMore 87 (.iastore) 1 88 := ⟨by decide +kernel, rfl⟩
theorem dX8_galeMore_88 : DLa mX8_galeMore 88 0 89 := Or.inl ⟨0, by decide +kernel, rfl, rfl⟩
theorem dX8_galeMore_89 : DLi mX8_galeMore 89 3 90 := Or.inl ⟨3, by decide +kernel, rfl, rfl⟩
theorem dX8_galeMore_90 : D0 mX8_galeMore 90 (.putfield 126) 3 93 := ⟨by decide +kernel, rfl⟩
theorem dX8_galeMore_93 : DLa mX8_galeMore 93 0 94 := Or.inl ⟨0, by decide +kernel, rfl, rfl⟩
theorem dX8_galeMore_94 : D0 mX8_galeMore 94 (.dup) 1 95 := ⟨by decide +kernel, rfl⟩
theorem dX8_galeMore_95 : D0 mX8_galeMore 95 (.getfield 129) 3 98 := ⟨by decide +kernel, rfl⟩
theorem dX8_galeMore_98 : DKi mX8_galeMore 98 (nI 1) 99 := Or.inl ⟨1, by decide +kernel, by decide, rfl⟩
theorem dX8_galeMore_99 : D0 mX8_galeMore 99 (.iadd) 1 100 := ⟨by decide +kernel, rfl⟩
theorem dX8_galeMore_100 : D0 mX8_galeMore 100 (.putfield 129) 3 103 := ⟨by decide +kernel, rfl⟩
theorem dX8_galeMore_103 : DLa mX8_galeMore 103 0 104 := Or.inl ⟨0, by decide +kernel, rfl, rfl⟩
theorem dX8_galeMore_104 : D0 mX8_galeMore 104 (.getfield 129) 3 107 := ⟨by decide +kernel, rfl⟩
theorem dX8_galeMore_107 : DKi mX8_galeMore 107 (nI 1) 108 := Or.inl ⟨1, by decide +kernel, by decide, rfl⟩
theorem dX8_galeMore_108 : D0 mX8_galeMore 108 (.isub) 1 109 := ⟨by decide +kernel, rfl⟩
theorem dX8_galeMore_109 : D0 mX8_galeMore 109 (.ireturn) 1 110 := ⟨by decide +kernel, rfl⟩
theorem dX8_gale_0 : DLa mX8_gale 0 0 1 := Or.inl ⟨0, by decide +kernel, rfl, rfl⟩
theorem dX8_gale_1 : DLi mX8_gale 1 1 2 := Or.inl ⟨1, by decide +kernel, rfl, rfl⟩
theorem dX8_gale_2 : DLi mX8_gale 2 2 3 := Or.inl ⟨2, by decide +kernel, rfl, rfl⟩
theorem dX8_gale_3 : DLi mX8_gale 3 3 4 := Or.inl ⟨3, by decide +kernel, rfl, rfl⟩
theorem dX8_gale_4 : D0 mX8_gale 4 (.invokevirtual 132) 3 7 := ⟨by decide +kernel, rfl⟩
theorem dX8_gale_7 : D0 mX8_gale 7 (.ireturn) 1 8 := ⟨by decide +kernel, rfl⟩
theorem dX8_read_0 : DLi mX8_read 0 1 1 := Or.inl ⟨1, by decide +kernel, rfl, rfl⟩
theorem dX8_read_1 : D0 mX8_read 1 (.invokestatic 136) 3 4 := ⟨by decide +kernel, rfl⟩
theorem dX8_read_4 : DFeq mX8_read 4 21 7 := ⟨17, by decide +kernel, by decide, rfl⟩
theorem dX8_read_7 : DLi mX8_read 7 2 8 := Or.inl ⟨2, by decide +kernel, rfl, rfl⟩
theorem dX8_read_8 : DLa mX8_read 8 0 9 := Or.inl ⟨0, by decide +kernel, rfl, rfl⟩
theorem dX8_read_9 : D0 mX8_read 9 (.getfield 126) 3 12 := ⟨by decide +kernel, rfl⟩
theorem dX8_read_12 : DKi mX8_read 12 (nI 999) 15 := Or.inr (Or.inr (Or.inl ⟨999, by decide +kernel, by decide, rfl⟩))
theorem dX8_read_15 : D0 mX8_read 15 (.invokestatic 89) 3 18 := ⟨by decide +kernel, rfl⟩
theorem dX8_read_18 : DFne mX8_read 18 24 21 := ⟨6, by decide +kernel, by decide, rfl⟩
theorem dX8_read_21 : DKi mX8_read 21 ((-2)) 23 := Or.inr (Or.inl ⟨(-2), by decide +kernel, by decide, rfl⟩)
theorem dX8_read_23 : D0 mX8_read 23 (.ireturn) 1 24 := ⟨by decide +kernel, rfl⟩
theorem dX8_read_24 : DLa mX8_read 24 0 25 := Or.inl ⟨0, by decide +kernel, rfl, rfl⟩
theorem dX8_read_25 : D0 mX8_read 25 (.getfield 71) 3 28 := ⟨by decide +kernel, rfl⟩
theorem dX8_read_28 : DLi mX8_read 28 1 29 := Or.inl ⟨1, by decide +kernel, rfl, rfl⟩
theorem dX8_read_29 : D0 mX8_read 29 (.baload) 1 30 := ⟨by decide +kernel, rfl⟩
theorem dX8_read_30 : DFne mX8_read 30 39 33 := ⟨9, by decide +kernel, by decide, rfl⟩
theorem dX8_read_33 : DLa mX8_read 33 0 34 := Or.inl ⟨0, by decide +kernel, rfl, rfl⟩
theorem dX8_read_34 : DKi mX8_read 34 (nI 1) 35 := Or.inl ⟨1, by decide +kernel, by decide, rfl⟩
theorem dX8_read_35 : D0 mX8_read 35 (.invokevirtual 139) 3 38 := ⟨by decide +kernel, rfl⟩
theorem dX8_read_38 : D0 mX8_read 38 (.ireturn) 1 39 := ⟨by decide +kernel, rfl⟩
theorem dX8_read_39 : DKi mX8_read 39 (nI 0) 40 := Or.inl ⟨0, by decide +kernel, by decide, rfl⟩
theorem dX8_read_40 : DSi mX8_read 40 3 41 := ⟨by decide, Or.inl ⟨3, by decide +kernel, rfl, rfl⟩⟩
theorem dX8_read_41 : DLi mX8_read 41 3 42 := Or.inl ⟨3, by decide +kernel, rfl, rfl⟩
theorem dX8_read_42 : DLa mX8_read 42 0 43 := Or.inl ⟨0, by decide +kernel, rfl, rfl⟩
theorem dX8_read_43 : D0 mX8_read 43 (.getfield 78) 3 46 := ⟨by decide +kernel, rfl⟩
theorem dX8_read_46 : DLi mX8_read 46 1 47 := Or.inl ⟨1, by decide +kernel, rfl, rfl⟩
theorem dX8_read_47 : D0 mX8_read 47 (.iaload) 1 48 := ⟨by decide +kernel, rfl⟩
theorem dX8_read_48 : DCge mX8_read 48 77 51 := ⟨29, by decide +kernel, by decide, rfl⟩
theorem dX8_read_51 : DLa mX8_read 51 0 52 := Or.inl ⟨0, by decide +kernel, rfl, rfl⟩
theorem dX8_read_52 : DLa mX8_read 52 0 53 := Or.inl ⟨0, by decide +kernel, rfl, rfl⟩
theorem dX8_read_53 : D0 mX8_read 53 (.getfield 81) 3 56 := ⟨by decide +kernel, rfl⟩
theorem dX8_read_56 : DKi mX8_read 56 (nI 60) 58 := Or.inr (Or.inl ⟨60, by decide +kernel, by decide, rfl⟩)
theorem dX8_read_58 : DLi mX8_read 58 1 59 := Or.inl ⟨1, by decide +kernel, rfl, rfl⟩
theorem dX8_read_59 : D0 mX8_read 59 (.imul) 1 60 := ⟨by decide +kernel, rfl⟩
theorem dX8_read_60 : DLi mX8_read 60 3 61 := Or.inl ⟨3, by decide +kernel, rfl, rfl⟩
theorem dX8_read_61 : D0 mX8_read 61 (.iadd) 1 62 := ⟨by decide +kernel, rfl⟩
theorem dX8_read_62 : D0 mX8_read 62 (.iaload) 1 63 := ⟨by decide +kernel, rfl⟩
theorem dX8_read_63 : DKi mX8_read 63 (nI 0) 64 := Or.inl ⟨0, by decide +kernel, by decide, rfl⟩
theorem dX8_read_64 : DLi mX8_read 64 2 65 := Or.inl ⟨2, by decide +kernel, rfl, rfl⟩
theorem dX8_read_65 : D0 mX8_read 65 (.invokevirtual 132) 3 68 := ⟨by decide +kernel, rfl⟩
theorem dX8_read_68 : DFlt mX8_read 68 77 71 := ⟨9, by decide +kernel, by decide, rfl⟩
theorem dX8_read_71 : DIn mX8_read 71 3 (nI 1) 74 := ⟨by decide, 1, by decide +kernel, by decide, rfl⟩
theorem dX8_read_74 : DG mX8_read 74 41 := ⟨(-33), by decide +kernel, by decide⟩
theorem dX8_read_77 : DLi mX8_read 77 3 78 := Or.inl ⟨3, by decide +kernel, rfl, rfl⟩
theorem dX8_read_78 : D0 mX8_read 78 (.ireturn) 1 79 := ⟨by decide +kernel, rfl⟩
theorem dX8_takeBack_0 : DLi mX8_takeBack 0 1 1 := Or.inl ⟨1, by decide +kernel, rfl, rfl⟩
theorem dX8_takeBack_1 : DKi mX8_takeBack 1 (nI 0) 2 := Or.inl ⟨0, by decide +kernel, by decide, rfl⟩
theorem dX8_takeBack_2 : DLa mX8_takeBack 2 0 3 := Or.inl ⟨0, by decide +kernel, rfl, rfl⟩
theorem dX8_takeBack_3 : D0 mX8_takeBack 3 (.getfield 129) 3 6 := ⟨by decide +kernel, rfl⟩
theorem dX8_takeBack_6 : DKi mX8_takeBack 6 (nI 1) 7 := Or.inl ⟨1, by decide +kernel, by decide, rfl⟩
theorem dX8_takeBack_7 : D0 mX8_takeBack 7 (.isub) 1 8 := ⟨by decide +kernel, rfl⟩
theorem dX8_takeBack_8 : D0 mX8_takeBack 8 (.invokestatic 89) 3 11 := ⟨by decide +kernel, rfl⟩
theorem dX8_takeBack_11 : DFeq mX8_takeBack 11 28 14 := ⟨17, by decide +kernel, by decide, rfl⟩
theorem dX8_takeBack_14 : DLi mX8_takeBack 14 2 15 := Or.inl ⟨2, by decide +kernel, rfl, rfl⟩
theorem dX8_takeBack_15 : DLa mX8_takeBack 15 0 16 := Or.inl ⟨0, by decide +kernel, rfl, rfl⟩
theorem dX8_takeBack_16 : D0 mX8_takeBack 16 (.getfield 126) 3 19 := ⟨by decide +kernel, rfl⟩
theorem dX8_takeBack_19 : DKi mX8_takeBack 19 (nI 999) 22 := Or.inr (Or.inr (Or.inl ⟨999, by decide +kernel, by decide, rfl⟩))
theorem dX8_takeBack_22 : D0 mX8_takeBack 22 (.invokestatic 89) 3 25 := ⟨by decide +kernel, rfl⟩
theorem dX8_takeBack_25 : DFne mX8_takeBack 25 31 28 := ⟨6, by decide +kernel, by decide, rfl⟩
theorem dX8_takeBack_28 : DKi mX8_takeBack 28 ((-2)) 30 := Or.inr (Or.inl ⟨(-2), by decide +kernel, by decide, rfl⟩)
theorem dX8_takeBack_30 : D0 mX8_takeBack 30 (.ireturn) 1 31 := ⟨by decide +kernel, rfl⟩
theorem dX8_takeBack_31 : DLa mX8_takeBack 31 0 32 := Or.inl ⟨0, by decide +kernel, rfl, rfl⟩
theorem dX8_takeBack_32 : D0 mX8_takeBack 32 (.getfield 34) 3 35 := ⟨by decide +kernel, rfl⟩
theorem dX8_takeBack_35 : DLi mX8_takeBack 35 1 36 := Or.inl ⟨1, by decide +kernel, rfl, rfl⟩
theorem dX8_takeBack_36 : D0 mX8_takeBack 36 (.iaload) 1 37 := ⟨by decide +kernel, rfl⟩
theorem dX8_takeBack_37 : DKi mX8_takeBack 37 ((-1)) 38 := Or.inl ⟨(-1), by decide +kernel, by decide, rfl⟩
theorem dX8_takeBack_38 : DCeq mX8_takeBack 38 44 41 := ⟨6, by decide +kernel, by decide, rfl⟩
theorem dX8_takeBack_41 : DKi mX8_takeBack 41 ((-3)) 43 := Or.inr (Or.inl ⟨(-3), by decide +kernel, by decide, rfl⟩)
theorem dX8_takeBack_43 : D0 mX8_takeBack 43 (.ireturn) 1 44 := ⟨by decide +kernel, rfl⟩
theorem dX8_takeBack_44 : DLa mX8_takeBack 44 0 45 := Or.inl ⟨0, by decide +kernel, rfl, rfl⟩
theorem dX8_takeBack_45 : D0 mX8_takeBack 45 (.getfield 34) 3 48 := ⟨by decide +kernel, rfl⟩
theorem dX8_takeBack_48 : DLi mX8_takeBack 48 1 49 := Or.inl ⟨1, by decide +kernel, rfl, rfl⟩
theorem dX8_takeBack_49 : DLi mX8_takeBack 49 2 50 := Or.inl ⟨2, by decide +kernel, rfl, rfl⟩
theorem dX8_takeBack_50 : D0 mX8_takeBack 50 (.iastore) 1 51 := ⟨by decide +kernel, rfl⟩
theorem dX8_takeBack_51 : DLa mX8_takeBack 51 0 52 := Or.inl ⟨0, by decide +kernel, rfl, rfl⟩
theorem dX8_takeBack_52 : DLi mX8_takeBack 52 2 53 := Or.inl ⟨2, by decide +kernel, rfl, rfl⟩
theorem dX8_takeBack_53 : D0 mX8_takeBack 53 (.putfield 126) 3 56 := ⟨by decide +kernel, rfl⟩
theorem dX8_takeBack_56 : DKi mX8_takeBack 56 (nI 1) 57 := Or.inl ⟨1, by decide +kernel, by decide, rfl⟩
theorem dX8_takeBack_57 : D0 mX8_takeBack 57 (.ireturn) 1 58 := ⟨by decide +kernel, rfl⟩
theorem dX8_set_0 : DLi mX8_set 0 1 1 := Or.inl ⟨1, by decide +kernel, rfl, rfl⟩
theorem dX8_set_1 : DKi mX8_set 1 (nI 0) 2 := Or.inl ⟨0, by decide +kernel, by decide, rfl⟩
theorem dX8_set_2 : DKi mX8_set 2 (nI 2) 3 := Or.inl ⟨2, by decide +kernel, by decide, rfl⟩
theorem dX8_set_3 : D0 mX8_set 3 (.invokestatic 89) 3 6 := ⟨by decide +kernel, rfl⟩
theorem dX8_set_6 : DFeq mX8_set 6 29 9 := ⟨23, by decide +kernel, by decide, rfl⟩
theorem dX8_set_9 : DLi mX8_set 9 2 10 := Or.inl ⟨2, by decide +kernel, rfl, rfl⟩
theorem dX8_set_10 : DKi mX8_set 10 (nI 0) 11 := Or.inl ⟨0, by decide +kernel, by decide, rfl⟩
theorem dX8_set_11 : DLi mX8_set 11 1 12 := Or.inl ⟨1, by decide +kernel, rfl, rfl⟩
theorem dX8_set_12 : DFne mX8_set 12 21 15 := ⟨9, by decide +kernel, by decide, rfl⟩
theorem dX8_set_15 : DKi mX8_set 15 (nI 999) 18 := Or.inr (Or.inr (Or.inl ⟨999, by decide +kernel, by decide, rfl⟩))
theorem dX8_set_18 : DG mX8_set 18 23 := ⟨5, by decide +kernel, by decide⟩
theorem dX8_set_21 : DKi mX8_set 21 (nI 7) 23 := Or.inr (Or.inl ⟨7, by decide +kernel, by decide, rfl⟩)
theorem dX8_set_23 : D0 mX8_set 23 (.invokestatic 89) 3 26 := ⟨by decide +kernel, rfl⟩
theorem dX8_set_26 : DFne mX8_set 26 32 29 := ⟨6, by decide +kernel, by decide, rfl⟩
theorem dX8_set_29 : DKi mX8_set 29 ((-5)) 31 := Or.inr (Or.inl ⟨(-5), by decide +kernel, by decide, rfl⟩)
theorem dX8_set_31 : D0 mX8_set 31 (.ireturn) 1 32 := ⟨by decide +kernel, rfl⟩
theorem dX8_set_32 : DLa mX8_set 32 0 33 := Or.inl ⟨0, by decide +kernel, rfl, rfl⟩
theorem dX8_set_33 : D0 mX8_set 33 (.getfield 37) 3 36 := ⟨by decide +kernel, rfl⟩
theorem dX8_set_36 : DLi mX8_set 36 1 37 := Or.inl ⟨1, by decide +kernel, rfl, rfl⟩
theorem dX8_set_37 : D0 mX8_set 37 (.iaload) 1 38 := ⟨by decide +kernel, rfl⟩
theorem dX8_set_38 : DSi mX8_set 38 3 39 := ⟨by decide, Or.inl ⟨3, by decide +kernel, rfl, rfl⟩⟩
theorem dX8_set_39 : DLa mX8_set 39 0 40 := Or.inl ⟨0, by decide +kernel, rfl, rfl⟩
theorem dX8_set_40 : D0 mX8_set 40 (.getfield 37) 3 43 := ⟨by decide +kernel, rfl⟩
theorem dX8_set_43 : DLi mX8_set 43 1 44 := Or.inl ⟨1, by decide +kernel, rfl, rfl⟩
theorem dX8_set_44 : DLi mX8_set 44 2 45 := Or.inl ⟨2, by decide +kernel, rfl, rfl⟩
theorem dX8_set_45 : D0 mX8_set 45 (.iastore) 1 46 := ⟨by decide +kernel, rfl⟩
theorem dX8_set_46 : DLi mX8_set 46 3 47 := Or.inl ⟨3, by decide +kernel, rfl, rfl⟩
theorem dX8_set_47 : D0 mX8_set 47 (.ireturn) 1 48 := ⟨by decide +kernel, rfl⟩
theorem dX8_doesCount_0 : DLa mX8_doesCount 0 0 1 := Or.inl ⟨0, by decide +kernel, rfl, rfl⟩
theorem dX8_doesCount_1 : D0 mX8_doesCount 1 (.getfield 31) 3 4 := ⟨by decide +kernel, rfl⟩
theorem dX8_doesCount_4 : DLi mX8_doesCount 4 1 5 := Or.inl ⟨1, by decide +kernel, rfl, rfl⟩
theorem dX8_doesCount_5 : D0 mX8_doesCount 5 (.iaload) 1 6 := ⟨by decide +kernel, rfl⟩
theorem dX8_doesCount_6 : DLa mX8_doesCount 6 0 7 := Or.inl ⟨0, by decide +kernel, rfl, rfl⟩
theorem dX8_doesCount_7 : D0 mX8_doesCount 7 (.getfield 37) 3 10 := ⟨by decide +kernel, rfl⟩
theorem dX8_doesCount_10 : DKi mX8_doesCount 10 (nI 0) 11 := Or.inl ⟨0, by decide +kernel, by decide, rfl⟩
theorem dX8_doesCount_11 : D0 mX8_doesCount 11 (.iaload) 1 12 := ⟨by decide +kernel, rfl⟩
theorem dX8_doesCount_12 : DCgt mX8_doesCount 12 44 15 := ⟨32, by decide +kernel, by decide, rfl⟩
theorem dX8_doesCount_15 : DLa mX8_doesCount 15 0 16 := Or.inl ⟨0, by decide +kernel, rfl, rfl⟩
theorem dX8_doesCount_16 : D0 mX8_doesCount 16 (.getfield 34) 3 19 := ⟨by decide +kernel, rfl⟩
theorem dX8_doesCount_19 : DLi mX8_doesCount 19 1 20 := Or.inl ⟨1, by decide +kernel, rfl, rfl⟩
theorem dX8_doesCount_20 : D0 mX8_doesCount 20 (.iaload) 1 21 := ⟨by decide +kernel, rfl⟩
theorem dX8_doesCount_21 : DKi mX8_doesCount 21 ((-1)) 22 := Or.inl ⟨(-1), by decide +kernel, by decide, rfl⟩
theorem dX8_doesCount_22 : DCeq mX8_doesCount 22 40 25 := ⟨18, by decide +kernel, by decide, rfl⟩
theorem dX8_doesCount_25 : DLa mX8_doesCount 25 0 26 := Or.inl ⟨0, by decide +kernel, rfl, rfl⟩
theorem dX8_doesCount_26 : D0 mX8_doesCount 26 (.getfield 34) 3 29 := ⟨by decide +kernel, rfl⟩
theorem dX8_doesCount_29 : DLi mX8_doesCount 29 1 30 := Or.inl ⟨1, by decide +kernel, rfl, rfl⟩
theorem dX8_doesCount_30 : D0 mX8_doesCount 30 (.iaload) 1 31 := ⟨by decide +kernel, rfl⟩
theorem dX8_doesCount_31 : DLa mX8_doesCount 31 0 32 := Or.inl ⟨0, by decide +kernel, rfl, rfl⟩
theorem dX8_doesCount_32 : D0 mX8_doesCount 32 (.getfield 37) 3 35 := ⟨by decide +kernel, rfl⟩
theorem dX8_doesCount_35 : DKi mX8_doesCount 35 (nI 0) 36 := Or.inl ⟨0, by decide +kernel, by decide, rfl⟩
theorem dX8_doesCount_36 : D0 mX8_doesCount 36 (.iaload) 1 37 := ⟨by decide +kernel, rfl⟩
theorem dX8_doesCount_37 : DCle mX8_doesCount 37 44 40 := ⟨7, by decide +kernel, by decide, rfl⟩
theorem dX8_doesCount_40 : DKi mX8_doesCount 40 (nI 1) 41 := Or.inl ⟨1, by decide +kernel, by decide, rfl⟩
theorem dX8_doesCount_41 : DG mX8_doesCount 41 45 := ⟨4, by decide +kernel, by decide⟩
theorem dX8_doesCount_44 : DKi mX8_doesCount 44 (nI 0) 45 := Or.inl ⟨0, by decide +kernel, by decide, rfl⟩
theorem dX8_doesCount_45 : D0 mX8_doesCount 45 (.ireturn) 1 46 := ⟨by decide +kernel, rfl⟩
theorem dX8_lays_0 : DLa mX8_lays 0 0 1 := Or.inl ⟨0, by decide +kernel, rfl, rfl⟩
theorem dX8_lays_1 : D0 mX8_lays 1 (.invokevirtual 115) 3 4 := ⟨by decide +kernel, rfl⟩
theorem dX8_lays_4 : DSi mX8_lays 4 1 5 := ⟨by decide, Or.inl ⟨1, by decide +kernel, rfl, rfl⟩⟩
theorem dX8_lays_5 : DKi mX8_lays 5 (nI 0) 6 := Or.inl ⟨0, by decide +kernel, by decide, rfl⟩
theorem dX8_lays_6 : DSi mX8_lays 6 2 7 := ⟨by decide, Or.inl ⟨2, by decide +kernel, rfl, rfl⟩⟩
theorem dX8_lays_7 : DLi mX8_lays 7 2 8 := Or.inl ⟨2, by decide +kernel, rfl, rfl⟩
theorem dX8_lays_8 : DKi mX8_lays 8 (nI 100) 10 := Or.inr (Or.inl ⟨100, by decide +kernel, by decide, rfl⟩)
theorem dX8_lays_10 : DCge mX8_lays 10 31 13 := ⟨21, by decide +kernel, by decide, rfl⟩
theorem dX8_lays_13 : DLa mX8_lays 13 0 14 := Or.inl ⟨0, by decide +kernel, rfl, rfl⟩
theorem dX8_lays_14 : D0 mX8_lays 14 (.getfield 40) 3 17 := ⟨by decide +kernel, rfl⟩
theorem dX8_lays_17 : DLi mX8_lays 17 2 18 := Or.inl ⟨2, by decide +kernel, rfl, rfl⟩
theorem dX8_lays_18 : DLa mX8_lays 18 0 19 := Or.inl ⟨0, by decide +kernel, rfl, rfl⟩
theorem dX8_lays_19 : D0 mX8_lays 19 (.getfield 37) 3 22 := ⟨by decide +kernel, rfl⟩
theorem dX8_lays_22 : DKi mX8_lays 22 (nI 2) 23 := Or.inl ⟨2, by decide +kernel, by decide, rfl⟩
theorem dX8_lays_23 : D0 mX8_lays 23 (.iaload) 1 24 := ⟨by decide +kernel, rfl⟩
theorem dX8_lays_24 : D0 mX8_lays 24 (.iastore) 1 25 := ⟨by decide +kernel, rfl⟩
theorem dX8_lays_25 : DIn mX8_lays 25 2 (nI 1) 28 := ⟨by decide, 1, by decide +kernel, by decide, rfl⟩
theorem dX8_lays_28 : DG mX8_lays 28 7 := ⟨(-21), by decide +kernel, by decide⟩
theorem dX8_lays_31 : DKi mX8_lays 31 (nI 0) 32 := Or.inl ⟨0, by decide +kernel, by decide, rfl⟩
theorem dX8_lays_32 : DSi mX8_lays 32 2 33 := ⟨by decide, Or.inl ⟨2, by decide +kernel, rfl, rfl⟩⟩
theorem dX8_lays_33 : DLi mX8_lays 33 2 34 := Or.inl ⟨2, by decide +kernel, rfl, rfl⟩
theorem dX8_lays_34 : DLa mX8_lays 34 0 35 := Or.inl ⟨0, by decide +kernel, rfl, rfl⟩
theorem dX8_lays_35 : D0 mX8_lays 35 (.getfield 129) 3 38 := ⟨by decide +kernel, rfl⟩
theorem dX8_lays_38 : DCge mX8_lays 38 109 41 := ⟨71, by decide +kernel, by decide, rfl⟩
theorem dX8_lays_41 : DLa mX8_lays 41 0 42 := Or.inl ⟨0, by decide +kernel, rfl, rfl⟩
theorem dX8_lays_42 : D0 mX8_lays 42 (.getfield 25) 3 45 := ⟨by decide +kernel, rfl⟩
theorem dX8_lays_45 : DLi mX8_lays 45 2 46 := Or.inl ⟨2, by decide +kernel, rfl, rfl⟩
theorem dX8_lays_46 : D0 mX8_lays 46 (.iaload) 1 47 := ⟨by decide +kernel, rfl⟩
theorem dX8_lays_47 : DSi mX8_lays 47 3 48 := ⟨by decide, Or.inl ⟨3, by decide +kernel, rfl, rfl⟩⟩
theorem dX8_lays_48 : DLi mX8_lays 48 3 49 := Or.inl ⟨3, by decide +kernel, rfl, rfl⟩
theorem dX8_lays_49 : DKi mX8_lays 49 (nI 100) 51 := Or.inr (Or.inl ⟨100, by decide +kernel, by decide, rfl⟩)
theorem dX8_lays_51 : DCge mX8_lays 51 103 54 := ⟨52, by decide +kernel, by decide, rfl⟩
theorem dX8_lays_54 : DLa mX8_lays 54 0 55 := Or.inl ⟨0, by decide +kernel, rfl, rfl⟩
theorem dX8_lays_55 : DLi mX8_lays 55 2 56 := Or.inl ⟨2, by decide +kernel, rfl, rfl⟩
theorem dX8_lays_56 : D0 mX8_lays 56 (.invokevirtual 142) 3 59 := ⟨by decide +kernel, rfl⟩
theorem dX8_lays_59 : DFeq mX8_lays 59 103 62 := ⟨44, by decide +kernel, by decide, rfl⟩
theorem dX8_lays_62 : DLa mX8_lays 62 0 63 := Or.inl ⟨0, by decide +kernel, rfl, rfl⟩
theorem dX8_lays_63 : D0 mX8_lays 63 (.getfield 40) 3 66 := ⟨by decide +kernel, rfl⟩
theorem dX8_lays_66 : DLi mX8_lays 66 3 67 := Or.inl ⟨3, by decide +kernel, rfl, rfl⟩
theorem dX8_lays_67 : DLa mX8_lays 67 0 68 := Or.inl ⟨0, by decide +kernel, rfl, rfl⟩
theorem dX8_lays_68 : D0 mX8_lays 68 (.getfield 40) 3 71 := ⟨by decide +kernel, rfl⟩
theorem dX8_lays_71 : DLi mX8_lays 71 3 72 := Or.inl ⟨3, by decide +kernel, rfl, rfl⟩
theorem dX8_lays_72 : D0 mX8_lays 72 (.iaload) 1 73 := ⟨by decide +kernel, rfl⟩
theorem dX8_lays_73 : DLa mX8_lays 73 0 74 := Or.inl ⟨0, by decide +kernel, rfl, rfl⟩
theorem dX8_lays_74 : D0 mX8_lays 74 (.getfield 28) 3 77 := ⟨by decide +kernel, rfl⟩
theorem dX8_lays_77 : DLi mX8_lays 77 2 78 := Or.inl ⟨2, by decide +kernel, rfl, rfl⟩
theorem dX8_lays_78 : D0 mX8_lays 78 (.iaload) 1 79 := ⟨by decide +kernel, rfl⟩
theorem dX8_lays_79 : DFne mX8_lays 79 86 82 := ⟨7, by decide +kernel, by decide, rfl⟩
theorem dX8_lays_82 : DKi mX8_lays 82 (nI 1) 83 := Or.inl ⟨1, by decide +kernel, by decide, rfl⟩
theorem dX8_lays_83 : DG mX8_lays 83 92 := ⟨9, by decide +kernel, by decide⟩
theorem dX8_lays_86 : DLa mX8_lays 86 0 87 := Or.inl ⟨0, by decide +kernel, rfl, rfl⟩
theorem dX8_lays_87 : D0 mX8_lays 87 (.getfield 37) 3 90 := ⟨by decide +kernel, rfl⟩
theorem dX8_lays_90 : DKi mX8_lays 90 (nI 1) 91 := Or.inl ⟨1, by decide +kernel, by decide, rfl⟩
theorem dX8_lays_91 : D0 mX8_lays 91 (.iaload) 1 92 := ⟨by decide +kernel, rfl⟩
theorem dX8_lays_92 : D0 mX8_lays 92 (.iadd) 1 93 := ⟨by decide +kernel, rfl⟩
theorem dX8_lays_93 : DKi mX8_lays 93 (nI 8) 95 := Or.inr (Or.inl ⟨8, by decide +kernel, by decide, rfl⟩)
theorem dX8_lays_95 : D0 mX8_lays 95 (.irem) 1 96 := ⟨by decide +kernel, rfl⟩
theorem dX8_lays_96 : D0 mX8_lays 96 (.iastore) 1 97 := ⟨by decide +kernel, rfl⟩
theorem dX8_lays_97 : DIn mX8_lays 97 3 (nI 1) 100 := ⟨by decide, 1, by decide +kernel, by decide, rfl⟩
theorem dX8_lays_100 : DG mX8_lays 100 48 := ⟨(-52), by decide +kernel, by decide⟩
theorem dX8_lays_103 : DIn mX8_lays 103 2 (nI 1) 106 := ⟨by decide, 1, by decide +kernel, by decide, rfl⟩
theorem dX8_lays_106 : DG mX8_lays 106 33 := ⟨(-73), by decide +kernel, by decide⟩
theorem dX8_lays_109 : D0 mX8_lays 109 (.return_) 1 110 := ⟨by decide +kernel, rfl⟩
theorem dX8_isDay_0 : DLi mX8_isDay 0 0 1 := Or.inl ⟨0, by decide +kernel, rfl, rfl⟩
theorem dX8_isDay_1 : DKi mX8_isDay 1 (nI 0) 2 := Or.inl ⟨0, by decide +kernel, by decide, rfl⟩
theorem dX8_isDay_2 : DKi mX8_isDay 2 (nI 99) 4 := Or.inr (Or.inl ⟨99, by decide +kernel, by decide, rfl⟩)
theorem dX8_isDay_4 : D0 mX8_isDay 4 (.invokestatic 89) 3 7 := ⟨by decide +kernel, rfl⟩
theorem dX8_isDay_7 : D0 mX8_isDay 7 (.ireturn) 1 8 := ⟨by decide +kernel, rfl⟩
theorem dX8_turnOf_0 : DLa mX8_turnOf 0 0 1 := Or.inl ⟨0, by decide +kernel, rfl, rfl⟩
theorem dX8_turnOf_1 : D0 mX8_turnOf 1 (.invokevirtual 145) 3 4 := ⟨by decide +kernel, rfl⟩
theorem dX8_turnOf_4 : DLa mX8_turnOf 4 0 5 := Or.inl ⟨0, by decide +kernel, rfl, rfl⟩
theorem dX8_turnOf_5 : D0 mX8_turnOf 5 (.getfield 40) 3 8 := ⟨by decide +kernel, rfl⟩
theorem dX8_turnOf_8 : DLi mX8_turnOf 8 1 9 := Or.inl ⟨1, by decide +kernel, rfl, rfl⟩
theorem dX8_turnOf_9 : D0 mX8_turnOf 9 (.iaload) 1 10 := ⟨by decide +kernel, rfl⟩
theorem dX8_turnOf_10 : D0 mX8_turnOf 10 (.ireturn) 1 11 := ⟨by decide +kernel, rfl⟩
theorem dX8_turn_0 : DLi mX8_turn 0 1 1 := Or.inl ⟨1, by decide +kernel, rfl, rfl⟩
theorem dX8_turn_1 : D0 mX8_turn 1 (.invokestatic 148) 3 4 := ⟨by decide +kernel, rfl⟩
theorem dX8_turn_4 : DFeq mX8_turn 4 15 7 := ⟨11, by decide +kernel, by decide, rfl⟩
theorem dX8_turn_7 : DLa mX8_turn 7 0 8 := Or.inl ⟨0, by decide +kernel, rfl, rfl⟩
theorem dX8_turn_8 : DLi mX8_turn 8 1 9 := Or.inl ⟨1, by decide +kernel, rfl, rfl⟩
theorem dX8_turn_9 : D0 mX8_turn 9 (.invokevirtual 151) 3 12 := ⟨by decide +kernel, rfl⟩
theorem dX8_turn_12 : DG mX8_turn 12 17 := ⟨5, by decide +kernel, by decide⟩
theorem dX8_turn_15 : DKi mX8_turn 15 ((-2)) 17 := Or.inr (Or.inl ⟨(-2), by decide +kernel, by decide, rfl⟩)
theorem dX8_turn_17 : D0 mX8_turn 17 (.ireturn) 1 18 := ⟨by decide +kernel, rfl⟩
theorem dX8_isOver_0 : DKi mX8_isOver 0 (nI 0) 1 := Or.inl ⟨0, by decide +kernel, by decide, rfl⟩
theorem dX8_isOver_1 : DSi mX8_isOver 1 4 3 := ⟨by decide, Or.inr ⟨by decide +kernel, rfl⟩⟩
theorem dX8_isOver_3 : DLi mX8_isOver 3 4 5 := Or.inr ⟨by decide +kernel, rfl⟩
theorem dX8_isOver_5 : DLa mX8_isOver 5 0 6 := Or.inl ⟨0, by decide +kernel, rfl, rfl⟩
theorem dX8_isOver_6 : D0 mX8_isOver 6 (.getfield 97) 3 9 := ⟨by decide +kernel, rfl⟩
theorem dX8_isOver_9 : DCge mX8_isOver 9 109 12 := ⟨100, by decide +kernel, by decide, rfl⟩
theorem dX8_isOver_12 : DKi mX8_isOver 12 (nI 4) 13 := Or.inl ⟨4, by decide +kernel, by decide, rfl⟩
theorem dX8_isOver_13 : DLi mX8_isOver 13 4 15 := Or.inr ⟨by decide +kernel, rfl⟩
theorem dX8_isOver_15 : D0 mX8_isOver 15 (.imul) 1 16 := ⟨by decide +kernel, rfl⟩
theorem dX8_isOver_16 : DSi mX8_isOver 16 5 18 := ⟨by decide, Or.inr ⟨by decide +kernel, rfl⟩⟩
theorem dX8_isOver_18 : DLa mX8_isOver 18 0 19 := Or.inl ⟨0, by decide +kernel, rfl, rfl⟩
theorem dX8_isOver_19 : D0 mX8_isOver 19 (.getfield 19) 3 22 := ⟨by decide +kernel, rfl⟩
theorem dX8_isOver_22 : DLi mX8_isOver 22 5 24 := Or.inr ⟨by decide +kernel, rfl⟩
theorem dX8_isOver_24 : D0 mX8_isOver 24 (.iaload) 1 25 := ⟨by decide +kernel, rfl⟩
theorem dX8_isOver_25 : DLi mX8_isOver 25 1 26 := Or.inl ⟨1, by decide +kernel, rfl, rfl⟩
theorem dX8_isOver_26 : DCne mX8_isOver 26 42 29 := ⟨16, by decide +kernel, by decide, rfl⟩
theorem dX8_isOver_29 : DLa mX8_isOver 29 0 30 := Or.inl ⟨0, by decide +kernel, rfl, rfl⟩
theorem dX8_isOver_30 : D0 mX8_isOver 30 (.getfield 19) 3 33 := ⟨by decide +kernel, rfl⟩
theorem dX8_isOver_33 : DLi mX8_isOver 33 5 35 := Or.inr ⟨by decide +kernel, rfl⟩
theorem dX8_isOver_35 : DKi mX8_isOver 35 (nI 1) 36 := Or.inl ⟨1, by decide +kernel, by decide, rfl⟩
theorem dX8_isOver_36 : D0 mX8_isOver 36 (.iadd) 1 37 := ⟨by decide +kernel, rfl⟩
theorem dX8_isOver_37 : D0 mX8_isOver 37 (.iaload) 1 38 := ⟨by decide +kernel, rfl⟩
theorem dX8_isOver_38 : DLi mX8_isOver 38 2 39 := Or.inl ⟨2, by decide +kernel, rfl, rfl⟩
theorem dX8_isOver_39 : DCeq mX8_isOver 39 66 42 := ⟨27, by decide +kernel, by decide, rfl⟩
theorem dX8_isOver_42 : DLa mX8_isOver 42 0 43 := Or.inl ⟨0, by decide +kernel, rfl, rfl⟩
theorem dX8_isOver_43 : D0 mX8_isOver 43 (.getfield 19) 3 46 := ⟨by decide +kernel, rfl⟩
theorem dX8_isOver_46 : DLi mX8_isOver 46 5 48 := Or.inr ⟨by decide +kernel, rfl⟩
theorem dX8_isOver_48 : D0 mX8_isOver 48 (.iaload) 1 49 := ⟨by decide +kernel, rfl⟩
theorem dX8_isOver_49 : DLi mX8_isOver 49 2 50 := Or.inl ⟨2, by decide +kernel, rfl, rfl⟩
theorem dX8_isOver_50 : DCne mX8_isOver 50 70 53 := ⟨20, by decide +kernel, by decide, rfl⟩
theorem dX8_isOver_53 : DLa mX8_isOver 53 0 54 := Or.inl ⟨0, by decide +kernel, rfl, rfl⟩
theorem dX8_isOver_54 : D0 mX8_isOver 54 (.getfield 19) 3 57 := ⟨by decide +kernel, rfl⟩
theorem dX8_isOver_57 : DLi mX8_isOver 57 5 59 := Or.inr ⟨by decide +kernel, rfl⟩
theorem dX8_isOver_59 : DKi mX8_isOver 59 (nI 1) 60 := Or.inl ⟨1, by decide +kernel, by decide, rfl⟩
theorem dX8_isOver_60 : D0 mX8_isOver 60 (.iadd) 1 61 := ⟨by decide +kernel, rfl⟩
theorem dX8_isOver_61 : D0 mX8_isOver 61 (.iaload) 1 62 := ⟨by decide +kernel, rfl⟩
theorem dX8_isOver_62 : DLi mX8_isOver 62 1 63 := Or.inl ⟨1, by decide +kernel, rfl, rfl⟩
theorem dX8_isOver_63 : DCne mX8_isOver 63 70 66 := ⟨7, by decide +kernel, by decide, rfl⟩
theorem dX8_isOver_66 : DKi mX8_isOver 66 (nI 1) 67 := Or.inl ⟨1, by decide +kernel, by decide, rfl⟩
theorem dX8_isOver_67 : DG mX8_isOver 67 71 := ⟨4, by decide +kernel, by decide⟩
theorem dX8_isOver_70 : DKi mX8_isOver 70 (nI 0) 71 := Or.inl ⟨0, by decide +kernel, by decide, rfl⟩
theorem dX8_isOver_71 : DSi mX8_isOver 71 6 73 := ⟨by decide, Or.inr ⟨by decide +kernel, rfl⟩⟩
theorem dX8_isOver_73 : DLi mX8_isOver 73 6 75 := Or.inr ⟨by decide +kernel, rfl⟩
theorem dX8_isOver_75 : DFeq mX8_isOver 75 103 78 := ⟨28, by decide +kernel, by decide, rfl⟩
theorem dX8_isOver_78 : DLi mX8_isOver 78 3 79 := Or.inl ⟨3, by decide +kernel, rfl, rfl⟩
theorem dX8_isOver_79 : DLa mX8_isOver 79 0 80 := Or.inl ⟨0, by decide +kernel, rfl, rfl⟩
theorem dX8_isOver_80 : D0 mX8_isOver 80 (.getfield 19) 3 83 := ⟨by decide +kernel, rfl⟩
theorem dX8_isOver_83 : DLi mX8_isOver 83 5 85 := Or.inr ⟨by decide +kernel, rfl⟩
theorem dX8_isOver_85 : DKi mX8_isOver 85 (nI 2) 86 := Or.inl ⟨2, by decide +kernel, by decide, rfl⟩
theorem dX8_isOver_86 : D0 mX8_isOver 86 (.iadd) 1 87 := ⟨by decide +kernel, rfl⟩
theorem dX8_isOver_87 : D0 mX8_isOver 87 (.iaload) 1 88 := ⟨by decide +kernel, rfl⟩
theorem dX8_isOver_88 : D0 mX8_isOver 88 (.irem) 1 89 := ⟨by decide +kernel, rfl⟩
theorem dX8_isOver_89 : DLa mX8_isOver 89 0 90 := Or.inl ⟨0, by decide +kernel, rfl, rfl⟩
theorem dX8_isOver_90 : D0 mX8_isOver 90 (.getfield 19) 3 93 := ⟨by decide +kernel, rfl⟩
theorem dX8_isOver_93 : DLi mX8_isOver 93 5 95 := Or.inr ⟨by decide +kernel, rfl⟩
theorem dX8_isOver_95 : DKi mX8_isOver 95 (nI 3) 96 := Or.inl ⟨3, by decide +kernel, by decide, rfl⟩
theorem dX8_isOver_96 : D0 mX8_isOver 96 (.iadd) 1 97 := ⟨by decide +kernel, rfl⟩
theorem dX8_isOver_97 : D0 mX8_isOver 97 (.iaload) 1 98 := ⟨by decide +kernel, rfl⟩
theorem dX8_isOver_98 : DCne mX8_isOver 98 103 101 := ⟨5, by decide +kernel, by decide, rfl⟩
theorem dX8_isOver_101 : DKi mX8_isOver 101 (nI 1) 102 := Or.inl ⟨1, by decide +kernel, by decide, rfl⟩
theorem dX8_isOver_102 : D0 mX8_isOver 102 (.ireturn) 1 103 := ⟨by decide +kernel, rfl⟩
theorem dX8_isOver_103 : DIn mX8_isOver 103 4 (nI 1) 106 := ⟨by decide, 1, by decide +kernel, by decide, rfl⟩
theorem dX8_isOver_106 : DG mX8_isOver 106 3 := ⟨(-103), by decide +kernel, by decide⟩
theorem dX8_isOver_109 : DKi mX8_isOver 109 (nI 0) 110 := Or.inl ⟨0, by decide +kernel, by decide, rfl⟩
theorem dX8_isOver_110 : D0 mX8_isOver 110 (.ireturn) 1 111 := ⟨by decide +kernel, rfl⟩
theorem dX8_bridge_0 : DLi mX8_bridge 0 1 1 := Or.inl ⟨1, by decide +kernel, rfl, rfl⟩
theorem dX8_bridge_1 : D0 mX8_bridge 1 (.invokestatic 118) 3 4 := ⟨by decide +kernel, rfl⟩
theorem dX8_bridge_4 : DFeq mX8_bridge 4 26 7 := ⟨22, by decide +kernel, by decide, rfl⟩
theorem dX8_bridge_7 : DLi mX8_bridge 7 2 8 := Or.inl ⟨2, by decide +kernel, rfl, rfl⟩
theorem dX8_bridge_8 : D0 mX8_bridge 8 (.invokestatic 118) 3 11 := ⟨by decide +kernel, rfl⟩
theorem dX8_bridge_11 : DFeq mX8_bridge 11 26 14 := ⟨15, by decide +kernel, by decide, rfl⟩
theorem dX8_bridge_14 : DLi mX8_bridge 14 1 15 := Or.inl ⟨1, by decide +kernel, rfl, rfl⟩
theorem dX8_bridge_15 : DLi mX8_bridge 15 2 16 := Or.inl ⟨2, by decide +kernel, rfl, rfl⟩
theorem dX8_bridge_16 : DCeq mX8_bridge 16 26 19 := ⟨10, by decide +kernel, by decide, rfl⟩
theorem dX8_bridge_19 : DLi mX8_bridge 19 3 20 := Or.inl ⟨3, by decide +kernel, rfl, rfl⟩
theorem dX8_bridge_20 : D0 mX8_bridge 20 (.invokestatic 148) 3 23 := ⟨by decide +kernel, rfl⟩
theorem dX8_bridge_23 : DFne mX8_bridge 23 29 26 := ⟨6, by decide +kernel, by decide, rfl⟩
theorem dX8_bridge_26 : DKi mX8_bridge 26 ((-2)) 28 := Or.inr (Or.inl ⟨(-2), by decide +kernel, by decide, rfl⟩)
theorem dX8_bridge_28 : D0 mX8_bridge 28 (.ireturn) 1 29 := ⟨by decide +kernel, rfl⟩
theorem dX8_bridge_29 : DLa mX8_bridge 29 0 30 := Or.inl ⟨0, by decide +kernel, rfl, rfl⟩
theorem dX8_bridge_30 : D0 mX8_bridge 30 (.invokevirtual 145) 3 33 := ⟨by decide +kernel, rfl⟩
theorem dX8_bridge_33 : DLa mX8_bridge 33 0 34 := Or.inl ⟨0, by decide +kernel, rfl, rfl⟩
theorem dX8_bridge_34 : DLi mX8_bridge 34 1 35 := Or.inl ⟨1, by decide +kernel, rfl, rfl⟩
theorem dX8_bridge_35 : DLi mX8_bridge 35 2 36 := Or.inl ⟨2, by decide +kernel, rfl, rfl⟩
theorem dX8_bridge_36 : DLa mX8_bridge 36 0 37 := Or.inl ⟨0, by decide +kernel, rfl, rfl⟩
theorem dX8_bridge_37 : D0 mX8_bridge 37 (.getfield 40) 3 40 := ⟨by decide +kernel, rfl⟩
theorem dX8_bridge_40 : DLi mX8_bridge 40 3 41 := Or.inl ⟨3, by decide +kernel, rfl, rfl⟩
theorem dX8_bridge_41 : D0 mX8_bridge 41 (.iaload) 1 42 := ⟨by decide +kernel, rfl⟩
theorem dX8_bridge_42 : D0 mX8_bridge 42 (.invokevirtual 154) 3 45 := ⟨by decide +kernel, rfl⟩
theorem dX8_bridge_45 : DFeq mX8_bridge 45 52 48 := ⟨7, by decide +kernel, by decide, rfl⟩
theorem dX8_bridge_48 : DKi mX8_bridge 48 (nI 1) 49 := Or.inl ⟨1, by decide +kernel, by decide, rfl⟩
theorem dX8_bridge_49 : DG mX8_bridge 49 53 := ⟨4, by decide +kernel, by decide⟩
theorem dX8_bridge_52 : DKi mX8_bridge 52 (nI 0) 53 := Or.inl ⟨0, by decide +kernel, by decide, rfl⟩
theorem dX8_bridge_53 : D0 mX8_bridge 53 (.ireturn) 1 54 := ⟨by decide +kernel, rfl⟩
theorem dX8_doorAt_0 : DLi mX8_doorAt 0 1 1 := Or.inl ⟨1, by decide +kernel, rfl, rfl⟩
theorem dX8_doorAt_1 : DLa mX8_doorAt 1 0 2 := Or.inl ⟨0, by decide +kernel, rfl, rfl⟩
theorem dX8_doorAt_2 : D0 mX8_doorAt 2 (.getfield 40) 3 5 := ⟨by decide +kernel, rfl⟩
theorem dX8_doorAt_5 : DLi mX8_doorAt 5 2 6 := Or.inl ⟨2, by decide +kernel, rfl, rfl⟩
theorem dX8_doorAt_6 : D0 mX8_doorAt 6 (.iaload) 1 7 := ⟨by decide +kernel, rfl⟩
theorem dX8_doorAt_7 : D0 mX8_doorAt 7 (.iadd) 1 8 := ⟨by decide +kernel, rfl⟩
theorem dX8_doorAt_8 : DKi mX8_doorAt 8 (nI 8) 10 := Or.inr (Or.inl ⟨8, by decide +kernel, by decide, rfl⟩)
theorem dX8_doorAt_10 : D0 mX8_doorAt 10 (.irem) 1 11 := ⟨by decide +kernel, rfl⟩
theorem dX8_doorAt_11 : D0 mX8_doorAt 11 (.ireturn) 1 12 := ⟨by decide +kernel, rfl⟩
theorem dX8_doorOf_0 : DLa mX8_doorOf 0 0 1 := Or.inl ⟨0, by decide +kernel, rfl, rfl⟩
theorem dX8_doorOf_1 : D0 mX8_doorOf 1 (.invokevirtual 145) 3 4 := ⟨by decide +kernel, rfl⟩
theorem dX8_doorOf_4 : DLa mX8_doorOf 4 0 5 := Or.inl ⟨0, by decide +kernel, rfl, rfl⟩
theorem dX8_doorOf_5 : DLi mX8_doorOf 5 1 6 := Or.inl ⟨1, by decide +kernel, rfl, rfl⟩
theorem dX8_doorOf_6 : DLi mX8_doorOf 6 2 7 := Or.inl ⟨2, by decide +kernel, rfl, rfl⟩
theorem dX8_doorOf_7 : D0 mX8_doorOf 7 (.invokevirtual 157) 3 10 := ⟨by decide +kernel, rfl⟩
theorem dX8_doorOf_10 : DSi mX8_doorOf 10 4 12 := ⟨by decide, Or.inr ⟨by decide +kernel, rfl⟩⟩
theorem dX8_doorOf_12 : DLi mX8_doorOf 12 3 13 := Or.inl ⟨3, by decide +kernel, rfl, rfl⟩
theorem dX8_doorOf_13 : DFne mX8_doorOf 13 21 16 := ⟨8, by decide +kernel, by decide, rfl⟩
theorem dX8_doorOf_16 : DLi mX8_doorOf 16 4 18 := Or.inr ⟨by decide +kernel, rfl⟩
theorem dX8_doorOf_18 : DG mX8_doorOf 18 43 := ⟨25, by decide +kernel, by decide⟩
theorem dX8_doorOf_21 : DLi mX8_doorOf 21 3 22 := Or.inl ⟨3, by decide +kernel, rfl, rfl⟩
theorem dX8_doorOf_22 : DKi mX8_doorOf 22 (nI 1) 23 := Or.inl ⟨1, by decide +kernel, by decide, rfl⟩
theorem dX8_doorOf_23 : DCne mX8_doorOf 23 36 26 := ⟨13, by decide +kernel, by decide, rfl⟩
theorem dX8_doorOf_26 : DLa mX8_doorOf 26 0 27 := Or.inl ⟨0, by decide +kernel, rfl, rfl⟩
theorem dX8_doorOf_27 : D0 mX8_doorOf 27 (.getfield 13) 3 30 := ⟨by decide +kernel, rfl⟩
theorem dX8_doorOf_30 : DLi mX8_doorOf 30 4 32 := Or.inr ⟨by decide +kernel, rfl⟩
theorem dX8_doorOf_32 : D0 mX8_doorOf 32 (.iaload) 1 33 := ⟨by decide +kernel, rfl⟩
theorem dX8_doorOf_33 : DG mX8_doorOf 33 43 := ⟨10, by decide +kernel, by decide⟩
theorem dX8_doorOf_36 : DLa mX8_doorOf 36 0 37 := Or.inl ⟨0, by decide +kernel, rfl, rfl⟩
theorem dX8_doorOf_37 : D0 mX8_doorOf 37 (.getfield 22) 3 40 := ⟨by decide +kernel, rfl⟩
theorem dX8_doorOf_40 : DLi mX8_doorOf 40 4 42 := Or.inr ⟨by decide +kernel, rfl⟩
theorem dX8_doorOf_42 : D0 mX8_doorOf 42 (.iaload) 1 43 := ⟨by decide +kernel, rfl⟩
theorem dX8_doorOf_43 : D0 mX8_doorOf 43 (.ireturn) 1 44 := ⟨by decide +kernel, rfl⟩
theorem dX8_door_0 : DLi mX8_door 0 1 1 := Or.inl ⟨1, by decide +kernel, rfl, rfl⟩
theorem dX8_door_1 : D0 mX8_door 1 (.invokestatic 118) 3 4 := ⟨by decide +kernel, rfl⟩
theorem dX8_door_4 : DFeq mX8_door 4 33 7 := ⟨29, by decide +kernel, by decide, rfl⟩
theorem dX8_door_7 : DLi mX8_door 7 2 8 := Or.inl ⟨2, by decide +kernel, rfl, rfl⟩
theorem dX8_door_8 : D0 mX8_door 8 (.invokestatic 148) 3 11 := ⟨by decide +kernel, rfl⟩
theorem dX8_door_11 : DFeq mX8_door 11 33 14 := ⟨22, by decide +kernel, by decide, rfl⟩
theorem dX8_door_14 : DLi mX8_door 14 3 15 := Or.inl ⟨3, by decide +kernel, rfl, rfl⟩
theorem dX8_door_15 : DKi mX8_door 15 (nI 0) 16 := Or.inl ⟨0, by decide +kernel, by decide, rfl⟩
theorem dX8_door_16 : DKi mX8_door 16 (nI 2) 17 := Or.inl ⟨2, by decide +kernel, by decide, rfl⟩
theorem dX8_door_17 : D0 mX8_door 17 (.invokestatic 89) 3 20 := ⟨by decide +kernel, rfl⟩
theorem dX8_door_20 : DFeq mX8_door 20 33 23 := ⟨13, by decide +kernel, by decide, rfl⟩
theorem dX8_door_23 : DLa mX8_door 23 0 24 := Or.inl ⟨0, by decide +kernel, rfl, rfl⟩
theorem dX8_door_24 : DLi mX8_door 24 1 25 := Or.inl ⟨1, by decide +kernel, rfl, rfl⟩
theorem dX8_door_25 : DLi mX8_door 25 2 26 := Or.inl ⟨2, by decide +kernel, rfl, rfl⟩
theorem dX8_door_26 : DLi mX8_door 26 3 27 := Or.inl ⟨3, by decide +kernel, rfl, rfl⟩
theorem dX8_door_27 : D0 mX8_door 27 (.invokevirtual 160) 3 30 := ⟨by decide +kernel, rfl⟩
theorem dX8_door_30 : DG mX8_door 30 35 := ⟨5, by decide +kernel, by decide⟩
theorem dX8_door_33 : DKi mX8_door 33 ((-2)) 35 := Or.inr (Or.inl ⟨(-2), by decide +kernel, by decide, rfl⟩)
theorem dX8_door_35 : D0 mX8_door 35 (.ireturn) 1 36 := ⟨by decide +kernel, rfl⟩
theorem dX8_isThing_0 : DLi mX8_isThing 0 0 1 := Or.inl ⟨0, by decide +kernel, rfl, rfl⟩
theorem dX8_isThing_1 : DKi mX8_isThing 1 (nI 0) 2 := Or.inl ⟨0, by decide +kernel, by decide, rfl⟩
theorem dX8_isThing_2 : DKi mX8_isThing 2 (nI 4) 3 := Or.inl ⟨4, by decide +kernel, by decide, rfl⟩
theorem dX8_isThing_3 : D0 mX8_isThing 3 (.invokestatic 89) 3 6 := ⟨by decide +kernel, rfl⟩
theorem dX8_isThing_6 : D0 mX8_isThing 6 (.ireturn) 1 7 := ⟨by decide +kernel, rfl⟩
theorem dX8_isSpan_0 : DLi mX8_isSpan 0 0 1 := Or.inl ⟨0, by decide +kernel, rfl, rfl⟩
theorem dX8_isSpan_1 : D0 mX8_isSpan 1 (.invokestatic 148) 3 4 := ⟨by decide +kernel, rfl⟩
theorem dX8_isSpan_4 : DFeq mX8_isSpan 4 21 7 := ⟨17, by decide +kernel, by decide, rfl⟩
theorem dX8_isSpan_7 : DLi mX8_isSpan 7 1 8 := Or.inl ⟨1, by decide +kernel, rfl, rfl⟩
theorem dX8_isSpan_8 : DLi mX8_isSpan 8 0 9 := Or.inl ⟨0, by decide +kernel, rfl, rfl⟩
theorem dX8_isSpan_9 : DKi mX8_isSpan 9 (nI 99) 11 := Or.inr (Or.inl ⟨99, by decide +kernel, by decide, rfl⟩)
theorem dX8_isSpan_11 : D0 mX8_isSpan 11 (.invokestatic 89) 3 14 := ⟨by decide +kernel, rfl⟩
theorem dX8_isSpan_14 : DFeq mX8_isSpan 14 21 17 := ⟨7, by decide +kernel, by decide, rfl⟩
theorem dX8_isSpan_17 : DKi mX8_isSpan 17 (nI 1) 18 := Or.inl ⟨1, by decide +kernel, by decide, rfl⟩
theorem dX8_isSpan_18 : DG mX8_isSpan 18 22 := ⟨4, by decide +kernel, by decide⟩
theorem dX8_isSpan_21 : DKi mX8_isSpan 21 (nI 0) 22 := Or.inl ⟨0, by decide +kernel, by decide, rfl⟩
theorem dX8_isSpan_22 : D0 mX8_isSpan 22 (.ireturn) 1 23 := ⟨by decide +kernel, rfl⟩
theorem dX8_daysOf_0 : DKi mX8_daysOf 0 (nI 0) 1 := Or.inl ⟨0, by decide +kernel, by decide, rfl⟩
theorem dX8_daysOf_1 : DSi mX8_daysOf 1 5 3 := ⟨by decide, Or.inr ⟨by decide +kernel, rfl⟩⟩
theorem dX8_daysOf_3 : DLi mX8_daysOf 3 3 4 := Or.inl ⟨3, by decide +kernel, rfl, rfl⟩
theorem dX8_daysOf_4 : DSi mX8_daysOf 4 6 6 := ⟨by decide, Or.inr ⟨by decide +kernel, rfl⟩⟩
theorem dX8_daysOf_6 : DLi mX8_daysOf 6 6 8 := Or.inr ⟨by decide +kernel, rfl⟩
theorem dX8_daysOf_8 : DLi mX8_daysOf 8 4 10 := Or.inr ⟨by decide +kernel, rfl⟩
theorem dX8_daysOf_10 : DCgt mX8_daysOf 10 45 13 := ⟨35, by decide +kernel, by decide, rfl⟩
theorem dX8_daysOf_13 : DLi mX8_daysOf 13 5 15 := Or.inr ⟨by decide +kernel, rfl⟩
theorem dX8_daysOf_15 : DLa mX8_daysOf 15 0 16 := Or.inl ⟨0, by decide +kernel, rfl, rfl⟩
theorem dX8_daysOf_16 : D0 mX8_daysOf 16 (.getfield 13) 3 19 := ⟨by decide +kernel, rfl⟩
theorem dX8_daysOf_19 : DLa mX8_daysOf 19 0 20 := Or.inl ⟨0, by decide +kernel, rfl, rfl⟩
theorem dX8_daysOf_20 : DLi mX8_daysOf 20 1 21 := Or.inl ⟨1, by decide +kernel, rfl, rfl⟩
theorem dX8_daysOf_21 : DLi mX8_daysOf 21 6 23 := Or.inr ⟨by decide +kernel, rfl⟩
theorem dX8_daysOf_23 : D0 mX8_daysOf 23 (.invokevirtual 157) 3 26 := ⟨by decide +kernel, rfl⟩
theorem dX8_daysOf_26 : D0 mX8_daysOf 26 (.iaload) 1 27 := ⟨by decide +kernel, rfl⟩
theorem dX8_daysOf_27 : DLi mX8_daysOf 27 2 28 := Or.inl ⟨2, by decide +kernel, rfl, rfl⟩
theorem dX8_daysOf_28 : DCne mX8_daysOf 28 35 31 := ⟨7, by decide +kernel, by decide, rfl⟩
theorem dX8_daysOf_31 : DKi mX8_daysOf 31 (nI 1) 32 := Or.inl ⟨1, by decide +kernel, by decide, rfl⟩
theorem dX8_daysOf_32 : DG mX8_daysOf 32 36 := ⟨4, by decide +kernel, by decide⟩
theorem dX8_daysOf_35 : DKi mX8_daysOf 35 (nI 0) 36 := Or.inl ⟨0, by decide +kernel, by decide, rfl⟩
theorem dX8_daysOf_36 : D0 mX8_daysOf 36 (.iadd) 1 37 := ⟨by decide +kernel, rfl⟩
theorem dX8_daysOf_37 : DSi mX8_daysOf 37 5 39 := ⟨by decide, Or.inr ⟨by decide +kernel, rfl⟩⟩
theorem dX8_daysOf_39 : DIn mX8_daysOf 39 6 (nI 1) 42 := ⟨by decide, 1, by decide +kernel, by decide, rfl⟩
theorem dX8_daysOf_42 : DG mX8_daysOf 42 6 := ⟨(-36), by decide +kernel, by decide⟩
theorem dX8_daysOf_45 : DLi mX8_daysOf 45 5 47 := Or.inr ⟨by decide +kernel, rfl⟩
theorem dX8_daysOf_47 : D0 mX8_daysOf 47 (.ireturn) 1 48 := ⟨by decide +kernel, rfl⟩
theorem dX8_share_0 : DLi mX8_share 0 1 1 := Or.inl ⟨1, by decide +kernel, rfl, rfl⟩
theorem dX8_share_1 : D0 mX8_share 1 (.invokestatic 118) 3 4 := ⟨by decide +kernel, rfl⟩
theorem dX8_share_4 : DFeq mX8_share 4 33 7 := ⟨29, by decide +kernel, by decide, rfl⟩
theorem dX8_share_7 : DLi mX8_share 7 2 8 := Or.inl ⟨2, by decide +kernel, rfl, rfl⟩
theorem dX8_share_8 : D0 mX8_share 8 (.invokestatic 163) 3 11 := ⟨by decide +kernel, rfl⟩
theorem dX8_share_11 : DFeq mX8_share 11 33 14 := ⟨22, by decide +kernel, by decide, rfl⟩
theorem dX8_share_14 : DLi mX8_share 14 3 15 := Or.inl ⟨3, by decide +kernel, rfl, rfl⟩
theorem dX8_share_15 : DLi mX8_share 15 4 17 := Or.inr ⟨by decide +kernel, rfl⟩
theorem dX8_share_17 : D0 mX8_share 17 (.invokestatic 166) 3 20 := ⟨by decide +kernel, rfl⟩
theorem dX8_share_20 : DFeq mX8_share 20 33 23 := ⟨13, by decide +kernel, by decide, rfl⟩
theorem dX8_share_23 : DLi mX8_share 23 5 25 := Or.inr ⟨by decide +kernel, rfl⟩
theorem dX8_share_25 : DKi mX8_share 25 (nI 0) 26 := Or.inl ⟨0, by decide +kernel, by decide, rfl⟩
theorem dX8_share_26 : DKi mX8_share 26 (nI 1) 27 := Or.inl ⟨1, by decide +kernel, by decide, rfl⟩
theorem dX8_share_27 : D0 mX8_share 27 (.invokestatic 89) 3 30 := ⟨by decide +kernel, rfl⟩
theorem dX8_share_30 : DFne mX8_share 30 39 33 := ⟨9, by decide +kernel, by decide, rfl⟩
theorem dX8_share_33 : DKi mX8_share 33 ((-2)) 35 := Or.inr (Or.inl ⟨(-2), by decide +kernel, by decide, rfl⟩)
theorem dX8_share_35 : D0 mX8_share 35 (.invokestatic 169) 3 38 := ⟨by decide +kernel, rfl⟩
theorem dX8_share_38 : D0 mX8_share 38 (.lreturn) 1 39 := ⟨by decide +kernel, rfl⟩
theorem dX8_share_39 : DLa mX8_share 39 0 40 := Or.inl ⟨0, by decide +kernel, rfl, rfl⟩
theorem dX8_share_40 : D0 mX8_share 40 (.invokevirtual 145) 3 43 := ⟨by decide +kernel, rfl⟩
theorem dX8_share_43 : DLa mX8_share 43 0 44 := Or.inl ⟨0, by decide +kernel, rfl, rfl⟩
theorem dX8_share_44 : DLi mX8_share 44 1 45 := Or.inl ⟨1, by decide +kernel, rfl, rfl⟩
theorem dX8_share_45 : DLi mX8_share 45 2 46 := Or.inl ⟨2, by decide +kernel, rfl, rfl⟩
theorem dX8_share_46 : DLi mX8_share 46 3 47 := Or.inl ⟨3, by decide +kernel, rfl, rfl⟩
theorem dX8_share_47 : DLi mX8_share 47 4 49 := Or.inr ⟨by decide +kernel, rfl⟩
theorem dX8_share_49 : D0 mX8_share 49 (.invokevirtual 173) 3 52 := ⟨by decide +kernel, rfl⟩
theorem dX8_share_52 : D0 mX8_share 52 (.i2l) 1 53 := ⟨by decide +kernel, rfl⟩
theorem dX8_share_53 : DLi mX8_share 53 4 55 := Or.inr ⟨by decide +kernel, rfl⟩
theorem dX8_share_55 : DLi mX8_share 55 3 56 := Or.inl ⟨3, by decide +kernel, rfl, rfl⟩
theorem dX8_share_56 : D0 mX8_share 56 (.isub) 1 57 := ⟨by decide +kernel, rfl⟩
theorem dX8_share_57 : DKi mX8_share 57 (nI 1) 58 := Or.inl ⟨1, by decide +kernel, by decide, rfl⟩
theorem dX8_share_58 : D0 mX8_share 58 (.iadd) 1 59 := ⟨by decide +kernel, rfl⟩
theorem dX8_share_59 : D0 mX8_share 59 (.i2l) 1 60 := ⟨by decide +kernel, rfl⟩
theorem dX8_share_60 : DLi mX8_share 60 5 62 := Or.inr ⟨by decide +kernel, rfl⟩
theorem dX8_share_62 : D0 mX8_share 62 (.invokestatic 177) 3 65 := ⟨by decide +kernel, rfl⟩
theorem dX8_share_65 : D0 mX8_share 65 (.lreturn) 1 66 := ⟨by decide +kernel, rfl⟩
theorem dX8_shineOf_0 : DLa mX8_shineOf 0 0 1 := Or.inl ⟨0, by decide +kernel, rfl, rfl⟩
theorem dX8_shineOf_1 : D0 mX8_shineOf 1 (.invokevirtual 145) 3 4 := ⟨by decide +kernel, rfl⟩
theorem dX8_shineOf_4 : DKi mX8_shineOf 4 (nI 0) 5 := Or.inl ⟨0, by decide +kernel, by decide, rfl⟩
theorem dX8_shineOf_5 : DSi mX8_shineOf 5 4 7 := ⟨by decide, Or.inr ⟨by decide +kernel, rfl⟩⟩
theorem dX8_shineOf_7 : DLi mX8_shineOf 7 2 8 := Or.inl ⟨2, by decide +kernel, rfl, rfl⟩
theorem dX8_shineOf_8 : DSi mX8_shineOf 8 5 10 := ⟨by decide, Or.inr ⟨by decide +kernel, rfl⟩⟩
theorem dX8_shineOf_10 : DLi mX8_shineOf 10 5 12 := Or.inr ⟨by decide +kernel, rfl⟩
theorem dX8_shineOf_12 : DLi mX8_shineOf 12 3 13 := Or.inl ⟨3, by decide +kernel, rfl, rfl⟩
theorem dX8_shineOf_13 : DCgt mX8_shineOf 13 39 16 := ⟨26, by decide +kernel, by decide, rfl⟩
theorem dX8_shineOf_16 : DLi mX8_shineOf 16 4 18 := Or.inr ⟨by decide +kernel, rfl⟩
theorem dX8_shineOf_18 : DLa mX8_shineOf 18 0 19 := Or.inl ⟨0, by decide +kernel, rfl, rfl⟩
theorem dX8_shineOf_19 : D0 mX8_shineOf 19 (.getfield 22) 3 22 := ⟨by decide +kernel, rfl⟩
theorem dX8_shineOf_22 : DLa mX8_shineOf 22 0 23 := Or.inl ⟨0, by decide +kernel, rfl, rfl⟩
theorem dX8_shineOf_23 : DLi mX8_shineOf 23 1 24 := Or.inl ⟨1, by decide +kernel, rfl, rfl⟩
theorem dX8_shineOf_24 : DLi mX8_shineOf 24 5 26 := Or.inr ⟨by decide +kernel, rfl⟩
theorem dX8_shineOf_26 : D0 mX8_shineOf 26 (.invokevirtual 157) 3 29 := ⟨by decide +kernel, rfl⟩
theorem dX8_shineOf_29 : D0 mX8_shineOf 29 (.iaload) 1 30 := ⟨by decide +kernel, rfl⟩
theorem dX8_shineOf_30 : D0 mX8_shineOf 30 (.iadd) 1 31 := ⟨by decide +kernel, rfl⟩
theorem dX8_shineOf_31 : DSi mX8_shineOf 31 4 33 := ⟨by decide, Or.inr ⟨by decide +kernel, rfl⟩⟩
theorem dX8_shineOf_33 : DIn mX8_shineOf 33 5 (nI 1) 36 := ⟨by decide, 1, by decide +kernel, by decide, rfl⟩
theorem dX8_shineOf_36 : DG mX8_shineOf 36 10 := ⟨(-26), by decide +kernel, by decide⟩
theorem dX8_shineOf_39 : DLi mX8_shineOf 39 4 41 := Or.inr ⟨by decide +kernel, rfl⟩
theorem dX8_shineOf_41 : D0 mX8_shineOf 41 (.ireturn) 1 42 := ⟨by decide +kernel, rfl⟩
theorem dX8_shine_0 : DLi mX8_shine 0 1 1 := Or.inl ⟨1, by decide +kernel, rfl, rfl⟩
theorem dX8_shine_1 : D0 mX8_shine 1 (.invokestatic 118) 3 4 := ⟨by decide +kernel, rfl⟩
theorem dX8_shine_4 : DFeq mX8_shine 4 25 7 := ⟨21, by decide +kernel, by decide, rfl⟩
theorem dX8_shine_7 : DLi mX8_shine 7 2 8 := Or.inl ⟨2, by decide +kernel, rfl, rfl⟩
theorem dX8_shine_8 : DLi mX8_shine 8 3 9 := Or.inl ⟨3, by decide +kernel, rfl, rfl⟩
theorem dX8_shine_9 : D0 mX8_shine 9 (.invokestatic 166) 3 12 := ⟨by decide +kernel, rfl⟩
theorem dX8_shine_12 : DFeq mX8_shine 12 25 15 := ⟨13, by decide +kernel, by decide, rfl⟩
theorem dX8_shine_15 : DLa mX8_shine 15 0 16 := Or.inl ⟨0, by decide +kernel, rfl, rfl⟩
theorem dX8_shine_16 : DLi mX8_shine 16 1 17 := Or.inl ⟨1, by decide +kernel, rfl, rfl⟩
theorem dX8_shine_17 : DLi mX8_shine 17 2 18 := Or.inl ⟨2, by decide +kernel, rfl, rfl⟩
theorem dX8_shine_18 : DLi mX8_shine 18 3 19 := Or.inl ⟨3, by decide +kernel, rfl, rfl⟩
theorem dX8_shine_19 : D0 mX8_shine 19 (.invokevirtual 181) 3 22 := ⟨by decide +kernel, rfl⟩
theorem dX8_shine_22 : DG mX8_shine 22 27 := ⟨5, by decide +kernel, by decide⟩
theorem dX8_shine_25 : DKi mX8_shine 25 ((-2)) 27 := Or.inr (Or.inl ⟨(-2), by decide +kernel, by decide, rfl⟩)
theorem dX8_shine_27 : D0 mX8_shine 27 (.ireturn) 1 28 := ⟨by decide +kernel, rfl⟩
theorem dX8_aheadOf_0 : DLa mX8_aheadOf 0 0 1 := Or.inl ⟨0, by decide +kernel, rfl, rfl⟩
theorem dX8_aheadOf_1 : D0 mX8_aheadOf 1 (.invokevirtual 145) 3 4 := ⟨by decide +kernel, rfl⟩
theorem dX8_aheadOf_4 : DKi mX8_aheadOf 4 (nI 0) 5 := Or.inl ⟨0, by decide +kernel, by decide, rfl⟩
theorem dX8_aheadOf_5 : DSi mX8_aheadOf 5 5 7 := ⟨by decide, Or.inr ⟨by decide +kernel, rfl⟩⟩
theorem dX8_aheadOf_7 : DKi mX8_aheadOf 7 (nI 100) 9 := Or.inr (Or.inl ⟨100, by decide +kernel, by decide, rfl⟩)
theorem dX8_aheadOf_9 : DSi mX8_aheadOf 9 6 11 := ⟨by decide, Or.inr ⟨by decide +kernel, rfl⟩⟩
theorem dX8_aheadOf_11 : DKi mX8_aheadOf 11 (nI 0) 12 := Or.inl ⟨0, by decide +kernel, by decide, rfl⟩
theorem dX8_aheadOf_12 : DSi mX8_aheadOf 12 7 14 := ⟨by decide, Or.inr ⟨by decide +kernel, rfl⟩⟩
theorem dX8_aheadOf_14 : DLi mX8_aheadOf 14 7 16 := Or.inr ⟨by decide +kernel, rfl⟩
theorem dX8_aheadOf_16 : DKi mX8_aheadOf 16 (nI 8) 18 := Or.inr (Or.inl ⟨8, by decide +kernel, by decide, rfl⟩)
theorem dX8_aheadOf_18 : DCge mX8_aheadOf 18 77 21 := ⟨59, by decide +kernel, by decide, rfl⟩
theorem dX8_aheadOf_21 : DLa mX8_aheadOf 21 0 22 := Or.inl ⟨0, by decide +kernel, rfl, rfl⟩
theorem dX8_aheadOf_22 : DLi mX8_aheadOf 22 7 24 := Or.inr ⟨by decide +kernel, rfl⟩
theorem dX8_aheadOf_24 : DLi mX8_aheadOf 24 1 25 := Or.inl ⟨1, by decide +kernel, rfl, rfl⟩
theorem dX8_aheadOf_25 : DLi mX8_aheadOf 25 2 26 := Or.inl ⟨2, by decide +kernel, rfl, rfl⟩
theorem dX8_aheadOf_26 : DLi mX8_aheadOf 26 3 27 := Or.inl ⟨3, by decide +kernel, rfl, rfl⟩
theorem dX8_aheadOf_27 : D0 mX8_aheadOf 27 (.invokevirtual 173) 3 30 := ⟨by decide +kernel, rfl⟩
theorem dX8_aheadOf_30 : DSi mX8_aheadOf 30 8 32 := ⟨by decide, Or.inr ⟨by decide +kernel, rfl⟩⟩
theorem dX8_aheadOf_32 : DLi mX8_aheadOf 32 8 34 := Or.inr ⟨by decide +kernel, rfl⟩
theorem dX8_aheadOf_34 : DLa mX8_aheadOf 34 0 35 := Or.inl ⟨0, by decide +kernel, rfl, rfl⟩
theorem dX8_aheadOf_35 : DLi mX8_aheadOf 35 5 37 := Or.inr ⟨by decide +kernel, rfl⟩
theorem dX8_aheadOf_37 : DLi mX8_aheadOf 37 1 38 := Or.inl ⟨1, by decide +kernel, rfl, rfl⟩
theorem dX8_aheadOf_38 : DLi mX8_aheadOf 38 2 39 := Or.inl ⟨2, by decide +kernel, rfl, rfl⟩
theorem dX8_aheadOf_39 : DLi mX8_aheadOf 39 3 40 := Or.inl ⟨3, by decide +kernel, rfl, rfl⟩
theorem dX8_aheadOf_40 : D0 mX8_aheadOf 40 (.invokevirtual 173) 3 43 := ⟨by decide +kernel, rfl⟩
theorem dX8_aheadOf_43 : DCle mX8_aheadOf 43 51 46 := ⟨8, by decide +kernel, by decide, rfl⟩
theorem dX8_aheadOf_46 : DLi mX8_aheadOf 46 7 48 := Or.inr ⟨by decide +kernel, rfl⟩
theorem dX8_aheadOf_48 : DG mX8_aheadOf 48 53 := ⟨5, by decide +kernel, by decide⟩
theorem dX8_aheadOf_51 : DLi mX8_aheadOf 51 5 53 := Or.inr ⟨by decide +kernel, rfl⟩
theorem dX8_aheadOf_53 : DSi mX8_aheadOf 53 5 55 := ⟨by decide, Or.inr ⟨by decide +kernel, rfl⟩⟩
theorem dX8_aheadOf_55 : DLi mX8_aheadOf 55 8 57 := Or.inr ⟨by decide +kernel, rfl⟩
theorem dX8_aheadOf_57 : DLi mX8_aheadOf 57 6 59 := Or.inr ⟨by decide +kernel, rfl⟩
theorem dX8_aheadOf_59 : DCge mX8_aheadOf 59 67 62 := ⟨8, by decide +kernel, by decide, rfl⟩
theorem dX8_aheadOf_62 : DLi mX8_aheadOf 62 8 64 := Or.inr ⟨by decide +kernel, rfl⟩
theorem dX8_aheadOf_64 : DG mX8_aheadOf 64 69 := ⟨5, by decide +kernel, by decide⟩
theorem dX8_aheadOf_67 : DLi mX8_aheadOf 67 6 69 := Or.inr ⟨by decide +kernel, rfl⟩
theorem dX8_aheadOf_69 : DSi mX8_aheadOf 69 6 71 := ⟨by decide, Or.inr ⟨by decide +kernel, rfl⟩⟩
theorem dX8_aheadOf_71 : DIn mX8_aheadOf 71 7 (nI 1) 74 := ⟨by decide, 1, by decide +kernel, by decide, rfl⟩
theorem dX8_aheadOf_74 : DG mX8_aheadOf 74 14 := ⟨(-60), by decide +kernel, by decide⟩
theorem dX8_aheadOf_77 : DLi mX8_aheadOf 77 4 79 := Or.inr ⟨by decide +kernel, rfl⟩
theorem dX8_aheadOf_79 : DFne mX8_aheadOf 79 87 82 := ⟨8, by decide +kernel, by decide, rfl⟩
theorem dX8_aheadOf_82 : DLi mX8_aheadOf 82 5 84 := Or.inr ⟨by decide +kernel, rfl⟩
theorem dX8_aheadOf_84 : DG mX8_aheadOf 84 99 := ⟨15, by decide +kernel, by decide⟩
theorem dX8_aheadOf_87 : DLa mX8_aheadOf 87 0 88 := Or.inl ⟨0, by decide +kernel, rfl, rfl⟩
theorem dX8_aheadOf_88 : DLi mX8_aheadOf 88 5 90 := Or.inr ⟨by decide +kernel, rfl⟩
theorem dX8_aheadOf_90 : DLi mX8_aheadOf 90 1 91 := Or.inl ⟨1, by decide +kernel, rfl, rfl⟩
theorem dX8_aheadOf_91 : DLi mX8_aheadOf 91 2 92 := Or.inl ⟨2, by decide +kernel, rfl, rfl⟩
theorem dX8_aheadOf_92 : DLi mX8_aheadOf 92 3 93 := Or.inl ⟨3, by decide +kernel, rfl, rfl⟩
theorem dX8_aheadOf_93 : D0 mX8_aheadOf 93 (.invokevirtual 173) 3 96 := ⟨by decide +kernel, rfl⟩
theorem dX8_aheadOf_96 : DLi mX8_aheadOf 96 6 98 := Or.inr ⟨by decide +kernel, rfl⟩
theorem dX8_aheadOf_98 : D0 mX8_aheadOf 98 (.isub) 1 99 := ⟨by decide +kernel, rfl⟩
theorem dX8_aheadOf_99 : D0 mX8_aheadOf 99 (.ireturn) 1 100 := ⟨by decide +kernel, rfl⟩
theorem dX8_ahead_0 : DLi mX8_ahead 0 1 1 := Or.inl ⟨1, by decide +kernel, rfl, rfl⟩
theorem dX8_ahead_1 : D0 mX8_ahead 1 (.invokestatic 163) 3 4 := ⟨by decide +kernel, rfl⟩
theorem dX8_ahead_4 : DFeq mX8_ahead 4 37 7 := ⟨33, by decide +kernel, by decide, rfl⟩
theorem dX8_ahead_7 : DLi mX8_ahead 7 2 8 := Or.inl ⟨2, by decide +kernel, rfl, rfl⟩
theorem dX8_ahead_8 : DLi mX8_ahead 8 3 9 := Or.inl ⟨3, by decide +kernel, rfl, rfl⟩
theorem dX8_ahead_9 : D0 mX8_ahead 9 (.invokestatic 166) 3 12 := ⟨by decide +kernel, rfl⟩
theorem dX8_ahead_12 : DFeq mX8_ahead 12 37 15 := ⟨25, by decide +kernel, by decide, rfl⟩
theorem dX8_ahead_15 : DLi mX8_ahead 15 4 17 := Or.inr ⟨by decide +kernel, rfl⟩
theorem dX8_ahead_17 : DKi mX8_ahead 17 (nI 0) 18 := Or.inl ⟨0, by decide +kernel, by decide, rfl⟩
theorem dX8_ahead_18 : DKi mX8_ahead 18 (nI 1) 19 := Or.inl ⟨1, by decide +kernel, by decide, rfl⟩
theorem dX8_ahead_19 : D0 mX8_ahead 19 (.invokestatic 89) 3 22 := ⟨by decide +kernel, rfl⟩
theorem dX8_ahead_22 : DFeq mX8_ahead 22 37 25 := ⟨15, by decide +kernel, by decide, rfl⟩
theorem dX8_ahead_25 : DLa mX8_ahead 25 0 26 := Or.inl ⟨0, by decide +kernel, rfl, rfl⟩
theorem dX8_ahead_26 : DLi mX8_ahead 26 1 27 := Or.inl ⟨1, by decide +kernel, rfl, rfl⟩
theorem dX8_ahead_27 : DLi mX8_ahead 27 2 28 := Or.inl ⟨2, by decide +kernel, rfl, rfl⟩
theorem dX8_ahead_28 : DLi mX8_ahead 28 3 29 := Or.inl ⟨3, by decide +kernel, rfl, rfl⟩
theorem dX8_ahead_29 : DLi mX8_ahead 29 4 31 := Or.inr ⟨by decide +kernel, rfl⟩
theorem dX8_ahead_31 : D0 mX8_ahead 31 (.invokevirtual 184) 3 34 := ⟨by decide +kernel, rfl⟩
theorem dX8_ahead_34 : DG mX8_ahead 34 39 := ⟨5, by decide +kernel, by decide⟩
theorem dX8_ahead_37 : DKi mX8_ahead 37 ((-2)) 39 := Or.inr (Or.inl ⟨(-2), by decide +kernel, by decide, rfl⟩)
theorem dX8_ahead_39 : D0 mX8_ahead 39 (.ireturn) 1 40 := ⟨by decide +kernel, rfl⟩
theorem dX8_works_0 : DLa mX8_works 0 0 1 := Or.inl ⟨0, by decide +kernel, rfl, rfl⟩
theorem dX8_works_1 : D0 mX8_works 1 (.getfield 13) 3 4 := ⟨by decide +kernel, rfl⟩
theorem dX8_works_4 : DLi mX8_works 4 1 5 := Or.inl ⟨1, by decide +kernel, rfl, rfl⟩
theorem dX8_works_5 : DLi mX8_works 5 4 7 := Or.inr ⟨by decide +kernel, rfl⟩
theorem dX8_works_7 : D0 mX8_works 7 (.iadd) 1 8 := ⟨by decide +kernel, rfl⟩
theorem dX8_works_8 : DKi mX8_works 8 (nI 8) 10 := Or.inr (Or.inl ⟨8, by decide +kernel, by decide, rfl⟩)
theorem dX8_works_10 : D0 mX8_works 10 (.irem) 1 11 := ⟨by decide +kernel, rfl⟩
theorem dX8_works_11 : D0 mX8_works 11 (.iaload) 1 12 := ⟨by decide +kernel, rfl⟩
theorem dX8_works_12 : DLi mX8_works 12 2 13 := Or.inl ⟨2, by decide +kernel, rfl, rfl⟩
theorem dX8_works_13 : DCne mX8_works 13 38 16 := ⟨25, by decide +kernel, by decide, rfl⟩
theorem dX8_works_16 : DLa mX8_works 16 0 17 := Or.inl ⟨0, by decide +kernel, rfl, rfl⟩
theorem dX8_works_17 : D0 mX8_works 17 (.getfield 13) 3 20 := ⟨by decide +kernel, rfl⟩
theorem dX8_works_20 : DLi mX8_works 20 1 21 := Or.inl ⟨1, by decide +kernel, rfl, rfl⟩
theorem dX8_works_21 : DKi mX8_works 21 (nI 1) 22 := Or.inl ⟨1, by decide +kernel, by decide, rfl⟩
theorem dX8_works_22 : D0 mX8_works 22 (.iadd) 1 23 := ⟨by decide +kernel, rfl⟩
theorem dX8_works_23 : DLi mX8_works 23 4 25 := Or.inr ⟨by decide +kernel, rfl⟩
theorem dX8_works_25 : D0 mX8_works 25 (.iadd) 1 26 := ⟨by decide +kernel, rfl⟩
theorem dX8_works_26 : DKi mX8_works 26 (nI 8) 28 := Or.inr (Or.inl ⟨8, by decide +kernel, by decide, rfl⟩)
theorem dX8_works_28 : D0 mX8_works 28 (.irem) 1 29 := ⟨by decide +kernel, rfl⟩
theorem dX8_works_29 : D0 mX8_works 29 (.iaload) 1 30 := ⟨by decide +kernel, rfl⟩
theorem dX8_works_30 : DLi mX8_works 30 3 31 := Or.inl ⟨3, by decide +kernel, rfl, rfl⟩
theorem dX8_works_31 : DCne mX8_works 31 38 34 := ⟨7, by decide +kernel, by decide, rfl⟩
theorem dX8_works_34 : DKi mX8_works 34 (nI 1) 35 := Or.inl ⟨1, by decide +kernel, by decide, rfl⟩
theorem dX8_works_35 : DG mX8_works 35 39 := ⟨4, by decide +kernel, by decide⟩
theorem dX8_works_38 : DKi mX8_works 38 (nI 0) 39 := Or.inl ⟨0, by decide +kernel, by decide, rfl⟩
theorem dX8_works_39 : D0 mX8_works 39 (.ireturn) 1 40 := ⟨by decide +kernel, rfl⟩
theorem dX8_next_0 : DLi mX8_next 0 1 1 := Or.inl ⟨1, by decide +kernel, rfl, rfl⟩
theorem dX8_next_1 : D0 mX8_next 1 (.invokestatic 118) 3 4 := ⟨by decide +kernel, rfl⟩
theorem dX8_next_4 : DFeq mX8_next 4 29 7 := ⟨25, by decide +kernel, by decide, rfl⟩
theorem dX8_next_7 : DLi mX8_next 7 2 8 := Or.inl ⟨2, by decide +kernel, rfl, rfl⟩
theorem dX8_next_8 : D0 mX8_next 8 (.invokestatic 163) 3 11 := ⟨by decide +kernel, rfl⟩
theorem dX8_next_11 : DFeq mX8_next 11 29 14 := ⟨18, by decide +kernel, by decide, rfl⟩
theorem dX8_next_14 : DLi mX8_next 14 3 15 := Or.inl ⟨3, by decide +kernel, rfl, rfl⟩
theorem dX8_next_15 : D0 mX8_next 15 (.invokestatic 163) 3 18 := ⟨by decide +kernel, rfl⟩
theorem dX8_next_18 : DFeq mX8_next 18 29 21 := ⟨11, by decide +kernel, by decide, rfl⟩
theorem dX8_next_21 : DLi mX8_next 21 4 23 := Or.inr ⟨by decide +kernel, rfl⟩
theorem dX8_next_23 : D0 mX8_next 23 (.invokestatic 148) 3 26 := ⟨by decide +kernel, rfl⟩
theorem dX8_next_26 : DFne mX8_next 26 32 29 := ⟨6, by decide +kernel, by decide, rfl⟩
theorem dX8_next_29 : DKi mX8_next 29 ((-2)) 31 := Or.inr (Or.inl ⟨(-2), by decide +kernel, by decide, rfl⟩)
theorem dX8_next_31 : D0 mX8_next 31 (.ireturn) 1 32 := ⟨by decide +kernel, rfl⟩
theorem dX8_next_32 : DLa mX8_next 32 0 33 := Or.inl ⟨0, by decide +kernel, rfl, rfl⟩
theorem dX8_next_33 : D0 mX8_next 33 (.invokevirtual 145) 3 36 := ⟨by decide +kernel, rfl⟩
theorem dX8_next_36 : DLi mX8_next 36 4 38 := Or.inr ⟨by decide +kernel, rfl⟩
theorem dX8_next_38 : DSi mX8_next 38 5 40 := ⟨by decide, Or.inr ⟨by decide +kernel, rfl⟩⟩
theorem dX8_next_40 : DLi mX8_next 40 5 42 := Or.inr ⟨by decide +kernel, rfl⟩
theorem dX8_next_42 : DKi mX8_next 42 (nI 100) 44 := Or.inr (Or.inl ⟨100, by decide +kernel, by decide, rfl⟩)
theorem dX8_next_44 : DCge mX8_next 44 73 47 := ⟨29, by decide +kernel, by decide, rfl⟩
theorem dX8_next_47 : DLa mX8_next 47 0 48 := Or.inl ⟨0, by decide +kernel, rfl, rfl⟩
theorem dX8_next_48 : DLi mX8_next 48 1 49 := Or.inl ⟨1, by decide +kernel, rfl, rfl⟩
theorem dX8_next_49 : DLi mX8_next 49 2 50 := Or.inl ⟨2, by decide +kernel, rfl, rfl⟩
theorem dX8_next_50 : DLi mX8_next 50 3 51 := Or.inl ⟨3, by decide +kernel, rfl, rfl⟩
theorem dX8_next_51 : DLa mX8_next 51 0 52 := Or.inl ⟨0, by decide +kernel, rfl, rfl⟩
theorem dX8_next_52 : D0 mX8_next 52 (.getfield 40) 3 55 := ⟨by decide +kernel, rfl⟩
theorem dX8_next_55 : DLi mX8_next 55 5 57 := Or.inr ⟨by decide +kernel, rfl⟩
theorem dX8_next_57 : D0 mX8_next 57 (.iaload) 1 58 := ⟨by decide +kernel, rfl⟩
theorem dX8_next_58 : D0 mX8_next 58 (.invokevirtual 187) 3 61 := ⟨by decide +kernel, rfl⟩
theorem dX8_next_61 : DFeq mX8_next 61 67 64 := ⟨6, by decide +kernel, by decide, rfl⟩
theorem dX8_next_64 : DLi mX8_next 64 5 66 := Or.inr ⟨by decide +kernel, rfl⟩
theorem dX8_next_66 : D0 mX8_next 66 (.ireturn) 1 67 := ⟨by decide +kernel, rfl⟩
theorem dX8_next_67 : DIn mX8_next 67 5 (nI 1) 70 := ⟨by decide, 1, by decide +kernel, by decide, rfl⟩
theorem dX8_next_70 : DG mX8_next 70 40 := ⟨(-30), by decide +kernel, by decide⟩
theorem dX8_next_73 : DKi mX8_next 73 ((-1)) 74 := Or.inl ⟨(-1), by decide +kernel, by decide, rfl⟩
theorem dX8_next_74 : D0 mX8_next 74 (.ireturn) 1 75 := ⟨by decide +kernel, rfl⟩
theorem dX8_likely_0 : DLi mX8_likely 0 1 1 := Or.inl ⟨1, by decide +kernel, rfl, rfl⟩
theorem dX8_likely_1 : D0 mX8_likely 1 (.invokestatic 118) 3 4 := ⟨by decide +kernel, rfl⟩
theorem dX8_likely_4 : DFeq mX8_likely 4 61 7 := ⟨57, by decide +kernel, by decide, rfl⟩
theorem dX8_likely_7 : DLi mX8_likely 7 2 8 := Or.inl ⟨2, by decide +kernel, rfl, rfl⟩
theorem dX8_likely_8 : D0 mX8_likely 8 (.invokestatic 163) 3 11 := ⟨by decide +kernel, rfl⟩
theorem dX8_likely_11 : DFeq mX8_likely 11 61 14 := ⟨50, by decide +kernel, by decide, rfl⟩
theorem dX8_likely_14 : DLi mX8_likely 14 3 15 := Or.inl ⟨3, by decide +kernel, rfl, rfl⟩
theorem dX8_likely_15 : D0 mX8_likely 15 (.invokestatic 163) 3 18 := ⟨by decide +kernel, rfl⟩
theorem dX8_likely_18 : DFeq mX8_likely 18 61 21 := ⟨43, by decide +kernel, by decide, rfl⟩
theorem dX8_likely_21 : DLi mX8_likely 21 4 23 := Or.inr ⟨by decide +kernel, rfl⟩
theorem dX8_likely_23 : D0 mX8_likely 23 (.invokestatic 148) 3 26 := ⟨by decide +kernel, rfl⟩
theorem dX8_likely_26 : DFeq mX8_likely 26 61 29 := ⟨35, by decide +kernel, by decide, rfl⟩
theorem dX8_likely_29 : DLi mX8_likely 29 5 31 := Or.inr ⟨by decide +kernel, rfl⟩
theorem dX8_likely_31 : DKi mX8_likely 31 (nI 0) 32 := Or.inl ⟨0, by decide +kernel, by decide, rfl⟩
theorem dX8_likely_32 : DKi mX8_likely 32 (nI 12) 34 := Or.inr (Or.inl ⟨12, by decide +kernel, by decide, rfl⟩)
theorem dX8_likely_34 : D0 mX8_likely 34 (.invokestatic 89) 3 37 := ⟨by decide +kernel, rfl⟩
theorem dX8_likely_37 : DFeq mX8_likely 37 61 40 := ⟨24, by decide +kernel, by decide, rfl⟩
theorem dX8_likely_40 : DLi mX8_likely 40 6 42 := Or.inr ⟨by decide +kernel, rfl⟩
theorem dX8_likely_42 : DKi mX8_likely 42 (nI 0) 43 := Or.inl ⟨0, by decide +kernel, by decide, rfl⟩
theorem dX8_likely_43 : DKi mX8_likely 43 (nI 16) 45 := Or.inr (Or.inl ⟨16, by decide +kernel, by decide, rfl⟩)
theorem dX8_likely_45 : D0 mX8_likely 45 (.invokestatic 89) 3 48 := ⟨by decide +kernel, rfl⟩
theorem dX8_likely_48 : DFeq mX8_likely 48 61 51 := ⟨13, by decide +kernel, by decide, rfl⟩
theorem dX8_likely_51 : DLi mX8_likely 51 7 53 := Or.inr ⟨by decide +kernel, rfl⟩
theorem dX8_likely_53 : DKi mX8_likely 53 (nI 0) 54 := Or.inl ⟨0, by decide +kernel, by decide, rfl⟩
theorem dX8_likely_54 : DKi mX8_likely 54 (nI 1) 55 := Or.inl ⟨1, by decide +kernel, by decide, rfl⟩
theorem dX8_likely_55 : D0 mX8_likely 55 (.invokestatic 89) 3 58 := ⟨by decide +kernel, rfl⟩
theorem dX8_likely_58 : DFne mX8_likely 58 67 61 := ⟨9, by decide +kernel, by decide, rfl⟩
theorem dX8_likely_61 : DKi mX8_likely 61 ((-2)) 63 := Or.inr (Or.inl ⟨(-2), by decide +kernel, by decide, rfl⟩)
theorem dX8_likely_63 : D0 mX8_likely 63 (.invokestatic 169) 3 66 := ⟨by decide +kernel, rfl⟩
theorem dX8_likely_66 : D0 mX8_likely 66 (.lreturn) 1 67 := ⟨by decide +kernel, rfl⟩
theorem dX8_likely_67 : DLa mX8_likely 67 0 68 := Or.inl ⟨0, by decide +kernel, rfl, rfl⟩
theorem dX8_likely_68 : D0 mX8_likely 68 (.invokevirtual 145) 3 71 := ⟨by decide +kernel, rfl⟩
theorem dX8_likely_71 : DKi mX8_likely 71 (nI 0) 72 := Or.inl ⟨0, by decide +kernel, by decide, rfl⟩
theorem dX8_likely_72 : DSi mX8_likely 72 8 74 := ⟨by decide, Or.inr ⟨by decide +kernel, rfl⟩⟩
theorem dX8_likely_74 : DLi mX8_likely 74 8 76 := Or.inr ⟨by decide +kernel, rfl⟩
theorem dX8_likely_76 : DKi mX8_likely 76 (nI 8) 78 := Or.inr (Or.inl ⟨8, by decide +kernel, by decide, rfl⟩)
theorem dX8_likely_78 : DCge mX8_likely 78 111 81 := ⟨33, by decide +kernel, by decide, rfl⟩
theorem dX8_likely_81 : DLa mX8_likely 81 0 82 := Or.inl ⟨0, by decide +kernel, rfl, rfl⟩
theorem dX8_likely_82 : D0 mX8_likely 82 (.getfield 43) 3 85 := ⟨by decide +kernel, rfl⟩
theorem dX8_likely_85 : DLi mX8_likely 85 8 87 := Or.inr ⟨by decide +kernel, rfl⟩
theorem dX8_likely_87 : DLi mX8_likely 87 8 89 := Or.inr ⟨by decide +kernel, rfl⟩
theorem dX8_likely_89 : DLa mX8_likely 89 0 90 := Or.inl ⟨0, by decide +kernel, rfl, rfl⟩
theorem dX8_likely_90 : D0 mX8_likely 90 (.getfield 40) 3 93 := ⟨by decide +kernel, rfl⟩
theorem dX8_likely_93 : DLi mX8_likely 93 4 95 := Or.inr ⟨by decide +kernel, rfl⟩
theorem dX8_likely_95 : D0 mX8_likely 95 (.iaload) 1 96 := ⟨by decide +kernel, rfl⟩
theorem dX8_likely_96 : DCne mX8_likely 96 103 99 := ⟨7, by decide +kernel, by decide, rfl⟩
theorem dX8_likely_99 : DKl mX8_likely 99 (lN 1) 100 := Or.inl ⟨1, by decide +kernel, rfl, rfl⟩
theorem dX8_likely_100 : DG mX8_likely 100 104 := ⟨4, by decide +kernel, by decide⟩
theorem dX8_likely_103 : DKl mX8_likely 103 (lN 0) 104 := Or.inl ⟨0, by decide +kernel, rfl, rfl⟩
theorem dX8_likely_104 : D0 mX8_likely 104 (.lastore) 1 105 := ⟨by decide +kernel, rfl⟩
theorem dX8_likely_105 : DIn mX8_likely 105 8 (nI 1) 108 := ⟨by decide, 1, by decide +kernel, by decide, rfl⟩
theorem dX8_likely_108 : DG mX8_likely 108 74 := ⟨(-34), by decide +kernel, by decide⟩
theorem dX8_likely_111 : DKl mX8_likely 111 (lN 1) 112 := Or.inl ⟨1, by decide +kernel, rfl, rfl⟩
theorem dX8_likely_112 : DSl mX8_likely 112 8 114 := ⟨by decide, Or.inr ⟨by decide +kernel, rfl⟩⟩
theorem dX8_likely_114 : DKi mX8_likely 114 (nI 0) 115 := Or.inl ⟨0, by decide +kernel, by decide, rfl⟩
theorem dX8_likely_115 : DSi mX8_likely 115 10 117 := ⟨by decide, Or.inr ⟨by decide +kernel, rfl⟩⟩
theorem dX8_likely_117 : DLi mX8_likely 117 10 119 := Or.inr ⟨by decide +kernel, rfl⟩
theorem dX8_likely_119 : DLi mX8_likely 119 5 121 := Or.inr ⟨by decide +kernel, rfl⟩
theorem dX8_likely_121 : DCge mX8_likely 121 245 124 := ⟨124, by decide +kernel, by decide, rfl⟩
theorem dX8_likely_124 : DKi mX8_likely 124 (nI 0) 125 := Or.inl ⟨0, by decide +kernel, by decide, rfl⟩
theorem dX8_likely_125 : DSi mX8_likely 125 11 127 := ⟨by decide, Or.inr ⟨by decide +kernel, rfl⟩⟩
theorem dX8_likely_127 : DLi mX8_likely 127 11 129 := Or.inr ⟨by decide +kernel, rfl⟩
theorem dX8_likely_129 : DKi mX8_likely 129 (nI 8) 131 := Or.inr (Or.inl ⟨8, by decide +kernel, by decide, rfl⟩)
theorem dX8_likely_131 : DCge mX8_likely 131 198 134 := ⟨67, by decide +kernel, by decide, rfl⟩
theorem dX8_likely_134 : DLa mX8_likely 134 0 135 := Or.inl ⟨0, by decide +kernel, rfl, rfl⟩
theorem dX8_likely_135 : D0 mX8_likely 135 (.getfield 43) 3 138 := ⟨by decide +kernel, rfl⟩
theorem dX8_likely_138 : DKi mX8_likely 138 (nI 8) 140 := Or.inr (Or.inl ⟨8, by decide +kernel, by decide, rfl⟩)
theorem dX8_likely_140 : DLi mX8_likely 140 11 142 := Or.inr ⟨by decide +kernel, rfl⟩
theorem dX8_likely_142 : D0 mX8_likely 142 (.iadd) 1 143 := ⟨by decide +kernel, rfl⟩
theorem dX8_likely_143 : DLa mX8_likely 143 0 144 := Or.inl ⟨0, by decide +kernel, rfl, rfl⟩
theorem dX8_likely_144 : DLi mX8_likely 144 1 145 := Or.inl ⟨1, by decide +kernel, rfl, rfl⟩
theorem dX8_likely_145 : DLi mX8_likely 145 2 146 := Or.inl ⟨2, by decide +kernel, rfl, rfl⟩
theorem dX8_likely_146 : DLi mX8_likely 146 3 147 := Or.inl ⟨3, by decide +kernel, rfl, rfl⟩
theorem dX8_likely_147 : DLi mX8_likely 147 11 149 := Or.inr ⟨by decide +kernel, rfl⟩
theorem dX8_likely_149 : D0 mX8_likely 149 (.invokevirtual 187) 3 152 := ⟨by decide +kernel, rfl⟩
theorem dX8_likely_152 : DFeq mX8_likely 152 159 155 := ⟨7, by decide +kernel, by decide, rfl⟩
theorem dX8_likely_155 : DKl mX8_likely 155 (lN 0) 156 := Or.inl ⟨0, by decide +kernel, rfl, rfl⟩
theorem dX8_likely_156 : DG mX8_likely 156 191 := ⟨35, by decide +kernel, by decide⟩
theorem dX8_likely_159 : DLa mX8_likely 159 0 160 := Or.inl ⟨0, by decide +kernel, rfl, rfl⟩
theorem dX8_likely_160 : D0 mX8_likely 160 (.getfield 43) 3 163 := ⟨by decide +kernel, rfl⟩
theorem dX8_likely_163 : DLi mX8_likely 163 11 165 := Or.inr ⟨by decide +kernel, rfl⟩
theorem dX8_likely_165 : D0 mX8_likely 165 (.laload) 1 166 := ⟨by decide +kernel, rfl⟩
theorem dX8_likely_166 : DKi mX8_likely 166 (nI 16) 168 := Or.inr (Or.inl ⟨16, by decide +kernel, by decide, rfl⟩)
theorem dX8_likely_168 : DLi mX8_likely 168 6 170 := Or.inr ⟨by decide +kernel, rfl⟩
theorem dX8_likely_170 : D0 mX8_likely 170 (.isub) 1 171 := ⟨by decide +kernel, rfl⟩
theorem dX8_likely_171 : D0 mX8_likely 171 (.i2l) 1 172 := ⟨by decide +kernel, rfl⟩
theorem dX8_likely_172 : D0 mX8_likely 172 (.lmul) 1 173 := ⟨by decide +kernel, rfl⟩
theorem dX8_likely_173 : DLa mX8_likely 173 0 174 := Or.inl ⟨0, by decide +kernel, rfl, rfl⟩
theorem dX8_likely_174 : D0 mX8_likely 174 (.getfield 43) 3 177 := ⟨by decide +kernel, rfl⟩
theorem dX8_likely_177 : DLi mX8_likely 177 11 179 := Or.inr ⟨by decide +kernel, rfl⟩
theorem dX8_likely_179 : DKi mX8_likely 179 (nI 7) 181 := Or.inr (Or.inl ⟨7, by decide +kernel, by decide, rfl⟩)
theorem dX8_likely_181 : D0 mX8_likely 181 (.iadd) 1 182 := ⟨by decide +kernel, rfl⟩
theorem dX8_likely_182 : DKi mX8_likely 182 (nI 8) 184 := Or.inr (Or.inl ⟨8, by decide +kernel, by decide, rfl⟩)
theorem dX8_likely_184 : D0 mX8_likely 184 (.irem) 1 185 := ⟨by decide +kernel, rfl⟩
theorem dX8_likely_185 : D0 mX8_likely 185 (.laload) 1 186 := ⟨by decide +kernel, rfl⟩
theorem dX8_likely_186 : DLi mX8_likely 186 6 188 := Or.inr ⟨by decide +kernel, rfl⟩
theorem dX8_likely_188 : D0 mX8_likely 188 (.i2l) 1 189 := ⟨by decide +kernel, rfl⟩
theorem dX8_likely_189 : D0 mX8_likely 189 (.lmul) 1 190 := ⟨by decide +kernel, rfl⟩
theorem dX8_likely_190 : D0 mX8_likely 190 (.ladd) 1 191 := ⟨by decide +kernel, rfl⟩
theorem dX8_likely_191 : D0 mX8_likely 191 (.lastore) 1 192 := ⟨by decide +kernel, rfl⟩
theorem dX8_likely_192 : DIn mX8_likely 192 11 (nI 1) 195 := ⟨by decide, 1, by decide +kernel, by decide, rfl⟩
theorem dX8_likely_195 : DG mX8_likely 195 127 := ⟨(-68), by decide +kernel, by decide⟩
theorem dX8_likely_198 : DKi mX8_likely 198 (nI 0) 199 := Or.inl ⟨0, by decide +kernel, by decide, rfl⟩
theorem dX8_likely_199 : DSi mX8_likely 199 11 201 := ⟨by decide, Or.inr ⟨by decide +kernel, rfl⟩⟩
theorem dX8_likely_201 : DLi mX8_likely 201 11 203 := Or.inr ⟨by decide +kernel, rfl⟩
theorem dX8_likely_203 : DKi mX8_likely 203 (nI 8) 205 := Or.inr (Or.inl ⟨8, by decide +kernel, by decide, rfl⟩)
theorem dX8_likely_205 : DCge mX8_likely 205 231 208 := ⟨26, by decide +kernel, by decide, rfl⟩
theorem dX8_likely_208 : DLa mX8_likely 208 0 209 := Or.inl ⟨0, by decide +kernel, rfl, rfl⟩
theorem dX8_likely_209 : D0 mX8_likely 209 (.getfield 43) 3 212 := ⟨by decide +kernel, rfl⟩
theorem dX8_likely_212 : DLi mX8_likely 212 11 214 := Or.inr ⟨by decide +kernel, rfl⟩
theorem dX8_likely_214 : DLa mX8_likely 214 0 215 := Or.inl ⟨0, by decide +kernel, rfl, rfl⟩
theorem dX8_likely_215 : D0 mX8_likely 215 (.getfield 43) 3 218 := ⟨by decide +kernel, rfl⟩
theorem dX8_likely_218 : DKi mX8_likely 218 (nI 8) 220 := Or.inr (Or.inl ⟨8, by decide +kernel, by decide, rfl⟩)
theorem dX8_likely_220 : DLi mX8_likely 220 11 222 := Or.inr ⟨by decide +kernel, rfl⟩
theorem dX8_likely_222 : D0 mX8_likely 222 (.iadd) 1 223 := ⟨by decide +kernel, rfl⟩
theorem dX8_likely_223 : D0 mX8_likely 223 (.laload) 1 224 := ⟨by decide +kernel, rfl⟩
theorem dX8_likely_224 : D0 mX8_likely 224 (.lastore) 1 225 := ⟨by decide +kernel, rfl⟩
theorem dX8_likely_225 : DIn mX8_likely 225 11 (nI 1) 228 := ⟨by decide, 1, by decide +kernel, by decide, rfl⟩
theorem dX8_likely_228 : DG mX8_likely 228 201 := ⟨(-27), by decide +kernel, by decide⟩
theorem dX8_likely_231 : DLl mX8_likely 231 8 233 := Or.inr ⟨by decide +kernel, rfl⟩
theorem dX8_likely_233 : DKl mX8_likely 233 (lN 16) 236 := Or.inr ⟨191, by decide +kernel, bt642, rfl⟩
theorem dX8_likely_236 : D0 mX8_likely 236 (.lmul) 1 237 := ⟨by decide +kernel, rfl⟩
theorem dX8_likely_237 : DSl mX8_likely 237 8 239 := ⟨by decide, Or.inr ⟨by decide +kernel, rfl⟩⟩
theorem dX8_likely_239 : DIn mX8_likely 239 10 (nI 1) 242 := ⟨by decide, 1, by decide +kernel, by decide, rfl⟩
theorem dX8_likely_242 : DG mX8_likely 242 117 := ⟨(-125), by decide +kernel, by decide⟩
theorem dX8_likely_245 : DKl mX8_likely 245 (lN 0) 246 := Or.inl ⟨0, by decide +kernel, rfl, rfl⟩
theorem dX8_likely_246 : DSl mX8_likely 246 10 248 := ⟨by decide, Or.inr ⟨by decide +kernel, rfl⟩⟩
theorem dX8_likely_248 : DKi mX8_likely 248 (nI 0) 249 := Or.inl ⟨0, by decide +kernel, by decide, rfl⟩
theorem dX8_likely_249 : DSi mX8_likely 249 12 251 := ⟨by decide, Or.inr ⟨by decide +kernel, rfl⟩⟩
theorem dX8_likely_251 : DLi mX8_likely 251 12 253 := Or.inr ⟨by decide +kernel, rfl⟩
theorem dX8_likely_253 : DKi mX8_likely 253 (nI 8) 255 := Or.inr (Or.inl ⟨8, by decide +kernel, by decide, rfl⟩)
theorem dX8_likely_255 : DCge mX8_likely 255 276 258 := ⟨21, by decide +kernel, by decide, rfl⟩
theorem dX8_likely_258 : DLl mX8_likely 258 10 260 := Or.inr ⟨by decide +kernel, rfl⟩
theorem dX8_likely_260 : DLa mX8_likely 260 0 261 := Or.inl ⟨0, by decide +kernel, rfl, rfl⟩
theorem dX8_likely_261 : D0 mX8_likely 261 (.getfield 43) 3 264 := ⟨by decide +kernel, rfl⟩
theorem dX8_likely_264 : DLi mX8_likely 264 12 266 := Or.inr ⟨by decide +kernel, rfl⟩
theorem dX8_likely_266 : D0 mX8_likely 266 (.laload) 1 267 := ⟨by decide +kernel, rfl⟩
theorem dX8_likely_267 : D0 mX8_likely 267 (.ladd) 1 268 := ⟨by decide +kernel, rfl⟩
theorem dX8_likely_268 : DSl mX8_likely 268 10 270 := ⟨by decide, Or.inr ⟨by decide +kernel, rfl⟩⟩
theorem dX8_likely_270 : DIn mX8_likely 270 12 (nI 1) 273 := ⟨by decide, 1, by decide +kernel, by decide, rfl⟩
theorem dX8_likely_273 : DG mX8_likely 273 251 := ⟨(-22), by decide +kernel, by decide⟩
theorem dX8_likely_276 : DLi mX8_likely 276 5 278 := Or.inr ⟨by decide +kernel, rfl⟩
theorem dX8_likely_278 : DFne mX8_likely 278 287 281 := ⟨9, by decide +kernel, by decide, rfl⟩
theorem dX8_likely_281 : DLi mX8_likely 281 7 283 := Or.inr ⟨by decide +kernel, rfl⟩
theorem dX8_likely_283 : D0 mX8_likely 283 (.i2l) 1 284 := ⟨by decide +kernel, rfl⟩
theorem dX8_likely_284 : DG mX8_likely 284 299 := ⟨15, by decide +kernel, by decide⟩
theorem dX8_likely_287 : DLl mX8_likely 287 8 289 := Or.inr ⟨by decide +kernel, rfl⟩
theorem dX8_likely_289 : DLl mX8_likely 289 10 291 := Or.inr ⟨by decide +kernel, rfl⟩
theorem dX8_likely_291 : D0 mX8_likely 291 (.lsub) 1 292 := ⟨by decide +kernel, rfl⟩
theorem dX8_likely_292 : DLl mX8_likely 292 8 294 := Or.inr ⟨by decide +kernel, rfl⟩
theorem dX8_likely_294 : DLi mX8_likely 294 7 296 := Or.inr ⟨by decide +kernel, rfl⟩
theorem dX8_likely_296 : D0 mX8_likely 296 (.invokestatic 177) 3 299 := ⟨by decide +kernel, rfl⟩
theorem dX8_likely_299 : D0 mX8_likely 299 (.lreturn) 1 300 := ⟨by decide +kernel, rfl⟩
end
section
theorem dX8_begins_0 : DKi mX8_begins 0 (nI 0) 1 := Or.inl ⟨0, by decide +kernel, by decide, rfl⟩
theorem dX8_begins_1 : DSi mX8_begins 1 3 2 := ⟨by decide, Or.inl ⟨3, by decide +kernel, rfl, rfl⟩⟩
theorem dX8_begins_2 : DLi mX8_begins 2 3 3 := Or.inl ⟨3, by decide +kernel, rfl, rfl⟩
theorem dX8_begins_3 : DKi mX8_begins 3 (nI 16) 5 := Or.inr (Or.inl ⟨16, by decide +kernel, by decide, rfl⟩)
theorem dX8_begins_5 : DCge mX8_begins 5 36 8 := ⟨31, by decide +kernel, by decide, rfl⟩
theorem dX8_begins_8 : DLa mX8_begins 8 0 9 := Or.inl ⟨0, by decide +kernel, rfl, rfl⟩
theorem dX8_begins_9 : D0 mX8_begins 9 (.getfield 47) 3 12 := ⟨by decide +kernel, rfl⟩
theorem dX8_begins_12 : DKi mX8_begins 12 (nI 16) 14 := Or.inr (Or.inl ⟨16, by decide +kernel, by decide, rfl⟩)
theorem dX8_begins_14 : DLi mX8_begins 14 1 15 := Or.inl ⟨1, by decide +kernel, rfl, rfl⟩
theorem dX8_begins_15 : D0 mX8_begins 15 (.imul) 1 16 := ⟨by decide +kernel, rfl⟩
theorem dX8_begins_16 : DLi mX8_begins 16 3 17 := Or.inl ⟨3, by decide +kernel, rfl, rfl⟩
theorem dX8_begins_17 : D0 mX8_begins 17 (.iadd) 1 18 := ⟨by decide +kernel, rfl⟩
theorem dX8_begins_18 : DLi mX8_begins 18 3 19 := Or.inl ⟨3, by decide +kernel, rfl, rfl⟩
theorem dX8_begins_19 : DLi mX8_begins 19 2 20 := Or.inl ⟨2, by decide +kernel, rfl, rfl⟩
theorem dX8_begins_20 : DCne mX8_begins 20 27 23 := ⟨7, by decide +kernel, by decide, rfl⟩
theorem dX8_begins_23 : DKi mX8_begins 23 (nI 0) 24 := Or.inl ⟨0, by decide +kernel, by decide, rfl⟩
theorem dX8_begins_24 : DG mX8_begins 24 29 := ⟨5, by decide +kernel, by decide⟩
theorem dX8_begins_27 : DKi mX8_begins 27 (nI 100000) 29 := Or.inr (Or.inr (Or.inr (Or.inl ⟨193, by decide +kernel, bt644, rfl⟩)))
theorem dX8_begins_29 : D0 mX8_begins 29 (.iastore) 1 30 := ⟨by decide +kernel, rfl⟩
theorem dX8_begins_30 : DIn mX8_begins 30 3 (nI 1) 33 := ⟨by decide, 1, by decide +kernel, by decide, rfl⟩
theorem dX8_begins_33 : DG mX8_begins 33 2 := ⟨(-31), by decide +kernel, by decide⟩
theorem dX8_begins_36 : D0 mX8_begins 36 (.return_) 1 37 := ⟨by decide +kernel, rfl⟩
theorem dX8_isStep_0 : DLi mX8_isStep 0 1 1 := Or.inl ⟨1, by decide +kernel, rfl, rfl⟩
theorem dX8_isStep_1 : DKi mX8_isStep 1 (nI 8) 3 := Or.inr (Or.inl ⟨8, by decide +kernel, by decide, rfl⟩)
theorem dX8_isStep_3 : DCge mX8_isStep 3 38 6 := ⟨35, by decide +kernel, by decide, rfl⟩
theorem dX8_isStep_6 : DLi mX8_isStep 6 2 7 := Or.inl ⟨2, by decide +kernel, rfl, rfl⟩
theorem dX8_isStep_7 : DKi mX8_isStep 7 (nI 8) 9 := Or.inr (Or.inl ⟨8, by decide +kernel, by decide, rfl⟩)
theorem dX8_isStep_9 : DCge mX8_isStep 9 38 12 := ⟨29, by decide +kernel, by decide, rfl⟩
theorem dX8_isStep_12 : DLi mX8_isStep 12 1 13 := Or.inl ⟨1, by decide +kernel, rfl, rfl⟩
theorem dX8_isStep_13 : DKi mX8_isStep 13 (nI 1) 14 := Or.inl ⟨1, by decide +kernel, by decide, rfl⟩
theorem dX8_isStep_14 : D0 mX8_isStep 14 (.iadd) 1 15 := ⟨by decide +kernel, rfl⟩
theorem dX8_isStep_15 : DKi mX8_isStep 15 (nI 8) 17 := Or.inr (Or.inl ⟨8, by decide +kernel, by decide, rfl⟩)
theorem dX8_isStep_17 : D0 mX8_isStep 17 (.irem) 1 18 := ⟨by decide +kernel, rfl⟩
theorem dX8_isStep_18 : DLi mX8_isStep 18 2 19 := Or.inl ⟨2, by decide +kernel, rfl, rfl⟩
theorem dX8_isStep_19 : DCeq mX8_isStep 19 32 22 := ⟨13, by decide +kernel, by decide, rfl⟩
theorem dX8_isStep_22 : DLi mX8_isStep 22 2 23 := Or.inl ⟨2, by decide +kernel, rfl, rfl⟩
theorem dX8_isStep_23 : DKi mX8_isStep 23 (nI 1) 24 := Or.inl ⟨1, by decide +kernel, by decide, rfl⟩
theorem dX8_isStep_24 : D0 mX8_isStep 24 (.iadd) 1 25 := ⟨by decide +kernel, rfl⟩
theorem dX8_isStep_25 : DKi mX8_isStep 25 (nI 8) 27 := Or.inr (Or.inl ⟨8, by decide +kernel, by decide, rfl⟩)
theorem dX8_isStep_27 : D0 mX8_isStep 27 (.irem) 1 28 := ⟨by decide +kernel, rfl⟩
theorem dX8_isStep_28 : DLi mX8_isStep 28 1 29 := Or.inl ⟨1, by decide +kernel, rfl, rfl⟩
theorem dX8_isStep_29 : DCne mX8_isStep 29 36 32 := ⟨7, by decide +kernel, by decide, rfl⟩
theorem dX8_isStep_32 : DKi mX8_isStep 32 (nI 1) 33 := Or.inl ⟨1, by decide +kernel, by decide, rfl⟩
theorem dX8_isStep_33 : DG mX8_isStep 33 37 := ⟨4, by decide +kernel, by decide⟩
theorem dX8_isStep_36 : DKi mX8_isStep 36 (nI 0) 37 := Or.inl ⟨0, by decide +kernel, by decide, rfl⟩
theorem dX8_isStep_37 : D0 mX8_isStep 37 (.ireturn) 1 38 := ⟨by decide +kernel, rfl⟩
theorem dX8_isStep_38 : DLi mX8_isStep 38 1 39 := Or.inl ⟨1, by decide +kernel, rfl, rfl⟩
theorem dX8_isStep_39 : DKi mX8_isStep 39 (nI 8) 41 := Or.inr (Or.inl ⟨8, by decide +kernel, by decide, rfl⟩)
theorem dX8_isStep_41 : DCge mX8_isStep 41 63 44 := ⟨22, by decide +kernel, by decide, rfl⟩
theorem dX8_isStep_44 : DLi mX8_isStep 44 1 45 := Or.inl ⟨1, by decide +kernel, rfl, rfl⟩
theorem dX8_isStep_45 : DLi mX8_isStep 45 3 46 := Or.inl ⟨3, by decide +kernel, rfl, rfl⟩
theorem dX8_isStep_46 : D0 mX8_isStep 46 (.iadd) 1 47 := ⟨by decide +kernel, rfl⟩
theorem dX8_isStep_47 : DKi mX8_isStep 47 (nI 8) 49 := Or.inr (Or.inl ⟨8, by decide +kernel, by decide, rfl⟩)
theorem dX8_isStep_49 : D0 mX8_isStep 49 (.irem) 1 50 := ⟨by decide +kernel, rfl⟩
theorem dX8_isStep_50 : DLi mX8_isStep 50 2 51 := Or.inl ⟨2, by decide +kernel, rfl, rfl⟩
theorem dX8_isStep_51 : DKi mX8_isStep 51 (nI 8) 53 := Or.inr (Or.inl ⟨8, by decide +kernel, by decide, rfl⟩)
theorem dX8_isStep_53 : D0 mX8_isStep 53 (.isub) 1 54 := ⟨by decide +kernel, rfl⟩
theorem dX8_isStep_54 : DCne mX8_isStep 54 61 57 := ⟨7, by decide +kernel, by decide, rfl⟩
theorem dX8_isStep_57 : DKi mX8_isStep 57 (nI 1) 58 := Or.inl ⟨1, by decide +kernel, by decide, rfl⟩
theorem dX8_isStep_58 : DG mX8_isStep 58 62 := ⟨4, by decide +kernel, by decide⟩
theorem dX8_isStep_61 : DKi mX8_isStep 61 (nI 0) 62 := Or.inl ⟨0, by decide +kernel, by decide, rfl⟩
theorem dX8_isStep_62 : D0 mX8_isStep 62 (.ireturn) 1 63 := ⟨by decide +kernel, rfl⟩
theorem dX8_isStep_63 : DLi mX8_isStep 63 2 64 := Or.inl ⟨2, by decide +kernel, rfl, rfl⟩
theorem dX8_isStep_64 : DKi mX8_isStep 64 (nI 8) 66 := Or.inr (Or.inl ⟨8, by decide +kernel, by decide, rfl⟩)
theorem dX8_isStep_66 : DCge mX8_isStep 66 88 69 := ⟨22, by decide +kernel, by decide, rfl⟩
theorem dX8_isStep_69 : DLi mX8_isStep 69 2 70 := Or.inl ⟨2, by decide +kernel, rfl, rfl⟩
theorem dX8_isStep_70 : DLi mX8_isStep 70 3 71 := Or.inl ⟨3, by decide +kernel, rfl, rfl⟩
theorem dX8_isStep_71 : D0 mX8_isStep 71 (.iadd) 1 72 := ⟨by decide +kernel, rfl⟩
theorem dX8_isStep_72 : DKi mX8_isStep 72 (nI 8) 74 := Or.inr (Or.inl ⟨8, by decide +kernel, by decide, rfl⟩)
theorem dX8_isStep_74 : D0 mX8_isStep 74 (.irem) 1 75 := ⟨by decide +kernel, rfl⟩
theorem dX8_isStep_75 : DLi mX8_isStep 75 1 76 := Or.inl ⟨1, by decide +kernel, rfl, rfl⟩
theorem dX8_isStep_76 : DKi mX8_isStep 76 (nI 8) 78 := Or.inr (Or.inl ⟨8, by decide +kernel, by decide, rfl⟩)
theorem dX8_isStep_78 : D0 mX8_isStep 78 (.isub) 1 79 := ⟨by decide +kernel, rfl⟩
theorem dX8_isStep_79 : DCne mX8_isStep 79 86 82 := ⟨7, by decide +kernel, by decide, rfl⟩
theorem dX8_isStep_82 : DKi mX8_isStep 82 (nI 1) 83 := Or.inl ⟨1, by decide +kernel, by decide, rfl⟩
theorem dX8_isStep_83 : DG mX8_isStep 83 87 := ⟨4, by decide +kernel, by decide⟩
theorem dX8_isStep_86 : DKi mX8_isStep 86 (nI 0) 87 := Or.inl ⟨0, by decide +kernel, by decide, rfl⟩
theorem dX8_isStep_87 : D0 mX8_isStep 87 (.ireturn) 1 88 := ⟨by decide +kernel, rfl⟩
theorem dX8_isStep_88 : DLi mX8_isStep 88 1 89 := Or.inl ⟨1, by decide +kernel, rfl, rfl⟩
theorem dX8_isStep_89 : DKi mX8_isStep 89 (nI 8) 91 := Or.inr (Or.inl ⟨8, by decide +kernel, by decide, rfl⟩)
theorem dX8_isStep_91 : D0 mX8_isStep 91 (.isub) 1 92 := ⟨by decide +kernel, rfl⟩
theorem dX8_isStep_92 : DSi mX8_isStep 92 4 94 := ⟨by decide, Or.inr ⟨by decide +kernel, rfl⟩⟩
theorem dX8_isStep_94 : DLi mX8_isStep 94 2 95 := Or.inl ⟨2, by decide +kernel, rfl, rfl⟩
theorem dX8_isStep_95 : DKi mX8_isStep 95 (nI 8) 97 := Or.inr (Or.inl ⟨8, by decide +kernel, by decide, rfl⟩)
theorem dX8_isStep_97 : D0 mX8_isStep 97 (.isub) 1 98 := ⟨by decide +kernel, rfl⟩
theorem dX8_isStep_98 : DSi mX8_isStep 98 5 100 := ⟨by decide, Or.inr ⟨by decide +kernel, rfl⟩⟩
theorem dX8_isStep_100 : DLi mX8_isStep 100 4 102 := Or.inr ⟨by decide +kernel, rfl⟩
theorem dX8_isStep_102 : DKi mX8_isStep 102 (nI 1) 103 := Or.inl ⟨1, by decide +kernel, by decide, rfl⟩
theorem dX8_isStep_103 : D0 mX8_isStep 103 (.iadd) 1 104 := ⟨by decide +kernel, rfl⟩
theorem dX8_isStep_104 : DKi mX8_isStep 104 (nI 8) 106 := Or.inr (Or.inl ⟨8, by decide +kernel, by decide, rfl⟩)
theorem dX8_isStep_106 : D0 mX8_isStep 106 (.irem) 1 107 := ⟨by decide +kernel, rfl⟩
theorem dX8_isStep_107 : DLi mX8_isStep 107 5 109 := Or.inr ⟨by decide +kernel, rfl⟩
theorem dX8_isStep_109 : DCne mX8_isStep 109 122 112 := ⟨13, by decide +kernel, by decide, rfl⟩
theorem dX8_isStep_112 : DLa mX8_isStep 112 0 113 := Or.inl ⟨0, by decide +kernel, rfl, rfl⟩
theorem dX8_isStep_113 : D0 mX8_isStep 113 (.getfield 16) 3 116 := ⟨by decide +kernel, rfl⟩
theorem dX8_isStep_116 : DLi mX8_isStep 116 4 118 := Or.inr ⟨by decide +kernel, rfl⟩
theorem dX8_isStep_118 : D0 mX8_isStep 118 (.iaload) 1 119 := ⟨by decide +kernel, rfl⟩
theorem dX8_isStep_119 : DFeq mX8_isStep 119 156 122 := ⟨37, by decide +kernel, by decide, rfl⟩
theorem dX8_isStep_122 : DLi mX8_isStep 122 5 124 := Or.inr ⟨by decide +kernel, rfl⟩
theorem dX8_isStep_124 : DKi mX8_isStep 124 (nI 1) 125 := Or.inl ⟨1, by decide +kernel, by decide, rfl⟩
theorem dX8_isStep_125 : D0 mX8_isStep 125 (.iadd) 1 126 := ⟨by decide +kernel, rfl⟩
theorem dX8_isStep_126 : DKi mX8_isStep 126 (nI 8) 128 := Or.inr (Or.inl ⟨8, by decide +kernel, by decide, rfl⟩)
theorem dX8_isStep_128 : D0 mX8_isStep 128 (.irem) 1 129 := ⟨by decide +kernel, rfl⟩
theorem dX8_isStep_129 : DLi mX8_isStep 129 4 131 := Or.inr ⟨by decide +kernel, rfl⟩
theorem dX8_isStep_131 : DCne mX8_isStep 131 144 134 := ⟨13, by decide +kernel, by decide, rfl⟩
theorem dX8_isStep_134 : DLa mX8_isStep 134 0 135 := Or.inl ⟨0, by decide +kernel, rfl, rfl⟩
theorem dX8_isStep_135 : D0 mX8_isStep 135 (.getfield 16) 3 138 := ⟨by decide +kernel, rfl⟩
theorem dX8_isStep_138 : DLi mX8_isStep 138 5 140 := Or.inr ⟨by decide +kernel, rfl⟩
theorem dX8_isStep_140 : D0 mX8_isStep 140 (.iaload) 1 141 := ⟨by decide +kernel, rfl⟩
theorem dX8_isStep_141 : DFeq mX8_isStep 141 156 144 := ⟨15, by decide +kernel, by decide, rfl⟩
theorem dX8_isStep_144 : DLa mX8_isStep 144 0 145 := Or.inl ⟨0, by decide +kernel, rfl, rfl⟩
theorem dX8_isStep_145 : DLi mX8_isStep 145 4 147 := Or.inr ⟨by decide +kernel, rfl⟩
theorem dX8_isStep_147 : DLi mX8_isStep 147 5 149 := Or.inr ⟨by decide +kernel, rfl⟩
theorem dX8_isStep_149 : DLi mX8_isStep 149 3 150 := Or.inl ⟨3, by decide +kernel, rfl, rfl⟩
theorem dX8_isStep_150 : D0 mX8_isStep 150 (.invokevirtual 154) 3 153 := ⟨by decide +kernel, rfl⟩
theorem dX8_isStep_153 : DFeq mX8_isStep 153 160 156 := ⟨7, by decide +kernel, by decide, rfl⟩
theorem dX8_isStep_156 : DKi mX8_isStep 156 (nI 1) 157 := Or.inl ⟨1, by decide +kernel, by decide, rfl⟩
theorem dX8_isStep_157 : DG mX8_isStep 157 161 := ⟨4, by decide +kernel, by decide⟩
theorem dX8_isStep_160 : DKi mX8_isStep 160 (nI 0) 161 := Or.inl ⟨0, by decide +kernel, by decide, rfl⟩
theorem dX8_isStep_161 : D0 mX8_isStep 161 (.ireturn) 1 162 := ⟨by decide +kernel, rfl⟩
theorem dX8_goes_0 : DKi mX8_goes 0 (nI 0) 1 := Or.inl ⟨0, by decide +kernel, by decide, rfl⟩
theorem dX8_goes_1 : DSi mX8_goes 1 3 2 := ⟨by decide, Or.inl ⟨3, by decide +kernel, rfl, rfl⟩⟩
theorem dX8_goes_2 : DLi mX8_goes 2 3 3 := Or.inl ⟨3, by decide +kernel, rfl, rfl⟩
theorem dX8_goes_3 : DKi mX8_goes 3 (nI 16) 5 := Or.inr (Or.inl ⟨16, by decide +kernel, by decide, rfl⟩)
theorem dX8_goes_5 : DCge mX8_goes 5 100 8 := ⟨95, by decide +kernel, by decide, rfl⟩
theorem dX8_goes_8 : DLa mX8_goes 8 0 9 := Or.inl ⟨0, by decide +kernel, rfl, rfl⟩
theorem dX8_goes_9 : D0 mX8_goes 9 (.getfield 47) 3 12 := ⟨by decide +kernel, rfl⟩
theorem dX8_goes_12 : DKi mX8_goes 12 (nI 16) 14 := Or.inr (Or.inl ⟨16, by decide +kernel, by decide, rfl⟩)
theorem dX8_goes_14 : DLi mX8_goes 14 1 15 := Or.inl ⟨1, by decide +kernel, rfl, rfl⟩
theorem dX8_goes_15 : D0 mX8_goes 15 (.imul) 1 16 := ⟨by decide +kernel, rfl⟩
theorem dX8_goes_16 : DLi mX8_goes 16 3 17 := Or.inl ⟨3, by decide +kernel, rfl, rfl⟩
theorem dX8_goes_17 : D0 mX8_goes 17 (.iadd) 1 18 := ⟨by decide +kernel, rfl⟩
theorem dX8_goes_18 : D0 mX8_goes 18 (.iaload) 1 19 := ⟨by decide +kernel, rfl⟩
theorem dX8_goes_19 : DSi mX8_goes 19 4 21 := ⟨by decide, Or.inr ⟨by decide +kernel, rfl⟩⟩
theorem dX8_goes_21 : DKi mX8_goes 21 (nI 0) 22 := Or.inl ⟨0, by decide +kernel, by decide, rfl⟩
theorem dX8_goes_22 : DSi mX8_goes 22 5 24 := ⟨by decide, Or.inr ⟨by decide +kernel, rfl⟩⟩
theorem dX8_goes_24 : DLi mX8_goes 24 5 26 := Or.inr ⟨by decide +kernel, rfl⟩
theorem dX8_goes_26 : DKi mX8_goes 26 (nI 16) 28 := Or.inr (Or.inl ⟨16, by decide +kernel, by decide, rfl⟩)
theorem dX8_goes_28 : DCge mX8_goes 28 86 31 := ⟨58, by decide +kernel, by decide, rfl⟩
theorem dX8_goes_31 : DLa mX8_goes 31 0 32 := Or.inl ⟨0, by decide +kernel, rfl, rfl⟩
theorem dX8_goes_32 : D0 mX8_goes 32 (.getfield 47) 3 35 := ⟨by decide +kernel, rfl⟩
theorem dX8_goes_35 : DKi mX8_goes 35 (nI 16) 37 := Or.inr (Or.inl ⟨16, by decide +kernel, by decide, rfl⟩)
theorem dX8_goes_37 : DLi mX8_goes 37 1 38 := Or.inl ⟨1, by decide +kernel, rfl, rfl⟩
theorem dX8_goes_38 : D0 mX8_goes 38 (.imul) 1 39 := ⟨by decide +kernel, rfl⟩
theorem dX8_goes_39 : DLi mX8_goes 39 5 41 := Or.inr ⟨by decide +kernel, rfl⟩
theorem dX8_goes_41 : D0 mX8_goes 41 (.iadd) 1 42 := ⟨by decide +kernel, rfl⟩
theorem dX8_goes_42 : D0 mX8_goes 42 (.iaload) 1 43 := ⟨by decide +kernel, rfl⟩
theorem dX8_goes_43 : DKi mX8_goes 43 (nI 1) 44 := Or.inl ⟨1, by decide +kernel, by decide, rfl⟩
theorem dX8_goes_44 : D0 mX8_goes 44 (.iadd) 1 45 := ⟨by decide +kernel, rfl⟩
theorem dX8_goes_45 : DSi mX8_goes 45 6 47 := ⟨by decide, Or.inr ⟨by decide +kernel, rfl⟩⟩
theorem dX8_goes_47 : DLi mX8_goes 47 6 49 := Or.inr ⟨by decide +kernel, rfl⟩
theorem dX8_goes_49 : DLi mX8_goes 49 4 51 := Or.inr ⟨by decide +kernel, rfl⟩
theorem dX8_goes_51 : DCge mX8_goes 51 76 54 := ⟨25, by decide +kernel, by decide, rfl⟩
theorem dX8_goes_54 : DLi mX8_goes 54 5 56 := Or.inr ⟨by decide +kernel, rfl⟩
theorem dX8_goes_56 : DLi mX8_goes 56 3 57 := Or.inl ⟨3, by decide +kernel, rfl, rfl⟩
theorem dX8_goes_57 : DCeq mX8_goes 57 76 60 := ⟨19, by decide +kernel, by decide, rfl⟩
theorem dX8_goes_60 : DLa mX8_goes 60 0 61 := Or.inl ⟨0, by decide +kernel, rfl, rfl⟩
theorem dX8_goes_61 : DLi mX8_goes 61 5 63 := Or.inr ⟨by decide +kernel, rfl⟩
theorem dX8_goes_63 : DLi mX8_goes 63 3 64 := Or.inl ⟨3, by decide +kernel, rfl, rfl⟩
theorem dX8_goes_64 : DLi mX8_goes 64 2 65 := Or.inl ⟨2, by decide +kernel, rfl, rfl⟩
theorem dX8_goes_65 : D0 mX8_goes 65 (.invokevirtual 194) 3 68 := ⟨by decide +kernel, rfl⟩
theorem dX8_goes_68 : DFeq mX8_goes 68 76 71 := ⟨8, by decide +kernel, by decide, rfl⟩
theorem dX8_goes_71 : DLi mX8_goes 71 6 73 := Or.inr ⟨by decide +kernel, rfl⟩
theorem dX8_goes_73 : DG mX8_goes 73 78 := ⟨5, by decide +kernel, by decide⟩
theorem dX8_goes_76 : DLi mX8_goes 76 4 78 := Or.inr ⟨by decide +kernel, rfl⟩
theorem dX8_goes_78 : DSi mX8_goes 78 4 80 := ⟨by decide, Or.inr ⟨by decide +kernel, rfl⟩⟩
theorem dX8_goes_80 : DIn mX8_goes 80 5 (nI 1) 83 := ⟨by decide, 1, by decide +kernel, by decide, rfl⟩
theorem dX8_goes_83 : DG mX8_goes 83 24 := ⟨(-59), by decide +kernel, by decide⟩
theorem dX8_goes_86 : DLa mX8_goes 86 0 87 := Or.inl ⟨0, by decide +kernel, rfl, rfl⟩
theorem dX8_goes_87 : D0 mX8_goes 87 (.getfield 50) 3 90 := ⟨by decide +kernel, rfl⟩
theorem dX8_goes_90 : DLi mX8_goes 90 3 91 := Or.inl ⟨3, by decide +kernel, rfl, rfl⟩
theorem dX8_goes_91 : DLi mX8_goes 91 4 93 := Or.inr ⟨by decide +kernel, rfl⟩
theorem dX8_goes_93 : D0 mX8_goes 93 (.iastore) 1 94 := ⟨by decide +kernel, rfl⟩
theorem dX8_goes_94 : DIn mX8_goes 94 3 (nI 1) 97 := ⟨by decide, 1, by decide +kernel, by decide, rfl⟩
theorem dX8_goes_97 : DG mX8_goes 97 2 := ⟨(-95), by decide +kernel, by decide⟩
theorem dX8_goes_100 : DKi mX8_goes 100 (nI 0) 101 := Or.inl ⟨0, by decide +kernel, by decide, rfl⟩
theorem dX8_goes_101 : DSi mX8_goes 101 3 102 := ⟨by decide, Or.inl ⟨3, by decide +kernel, rfl, rfl⟩⟩
theorem dX8_goes_102 : DLi mX8_goes 102 3 103 := Or.inl ⟨3, by decide +kernel, rfl, rfl⟩
theorem dX8_goes_103 : DKi mX8_goes 103 (nI 16) 105 := Or.inr (Or.inl ⟨16, by decide +kernel, by decide, rfl⟩)
theorem dX8_goes_105 : DCge mX8_goes 105 131 108 := ⟨26, by decide +kernel, by decide, rfl⟩
theorem dX8_goes_108 : DLa mX8_goes 108 0 109 := Or.inl ⟨0, by decide +kernel, rfl, rfl⟩
theorem dX8_goes_109 : D0 mX8_goes 109 (.getfield 47) 3 112 := ⟨by decide +kernel, rfl⟩
theorem dX8_goes_112 : DKi mX8_goes 112 (nI 16) 114 := Or.inr (Or.inl ⟨16, by decide +kernel, by decide, rfl⟩)
theorem dX8_goes_114 : DLi mX8_goes 114 1 115 := Or.inl ⟨1, by decide +kernel, rfl, rfl⟩
theorem dX8_goes_115 : D0 mX8_goes 115 (.imul) 1 116 := ⟨by decide +kernel, rfl⟩
theorem dX8_goes_116 : DLi mX8_goes 116 3 117 := Or.inl ⟨3, by decide +kernel, rfl, rfl⟩
theorem dX8_goes_117 : D0 mX8_goes 117 (.iadd) 1 118 := ⟨by decide +kernel, rfl⟩
theorem dX8_goes_118 : DLa mX8_goes 118 0 119 := Or.inl ⟨0, by decide +kernel, rfl, rfl⟩
theorem dX8_goes_119 : D0 mX8_goes 119 (.getfield 50) 3 122 := ⟨by decide +kernel, rfl⟩
theorem dX8_goes_122 : DLi mX8_goes 122 3 123 := Or.inl ⟨3, by decide +kernel, rfl, rfl⟩
theorem dX8_goes_123 : D0 mX8_goes 123 (.iaload) 1 124 := ⟨by decide +kernel, rfl⟩
theorem dX8_goes_124 : D0 mX8_goes 124 (.iastore) 1 125 := ⟨by decide +kernel, rfl⟩
theorem dX8_goes_125 : DIn mX8_goes 125 3 (nI 1) 128 := ⟨by decide, 1, by decide +kernel, by decide, rfl⟩
theorem dX8_goes_128 : DG mX8_goes 128 102 := ⟨(-26), by decide +kernel, by decide⟩
theorem dX8_goes_131 : D0 mX8_goes 131 (.return_) 1 132 := ⟨by decide +kernel, rfl⟩
theorem dX8_soonOf_0 : DLa mX8_soonOf 0 0 1 := Or.inl ⟨0, by decide +kernel, rfl, rfl⟩
theorem dX8_soonOf_1 : D0 mX8_soonOf 1 (.invokevirtual 145) 3 4 := ⟨by decide +kernel, rfl⟩
theorem dX8_soonOf_4 : DLa mX8_soonOf 4 0 5 := Or.inl ⟨0, by decide +kernel, rfl, rfl⟩
theorem dX8_soonOf_5 : DKi mX8_soonOf 5 (nI 0) 6 := Or.inl ⟨0, by decide +kernel, by decide, rfl⟩
theorem dX8_soonOf_6 : DLi mX8_soonOf 6 1 7 := Or.inl ⟨1, by decide +kernel, rfl, rfl⟩
theorem dX8_soonOf_7 : D0 mX8_soonOf 7 (.invokevirtual 197) 3 10 := ⟨by decide +kernel, rfl⟩
theorem dX8_soonOf_10 : DLi mX8_soonOf 10 3 11 := Or.inl ⟨3, by decide +kernel, rfl, rfl⟩
theorem dX8_soonOf_11 : DSi mX8_soonOf 11 5 13 := ⟨by decide, Or.inr ⟨by decide +kernel, rfl⟩⟩
theorem dX8_soonOf_13 : DLi mX8_soonOf 13 5 15 := Or.inr ⟨by decide +kernel, rfl⟩
theorem dX8_soonOf_15 : DKi mX8_soonOf 15 (nI 100) 17 := Or.inr (Or.inl ⟨100, by decide +kernel, by decide, rfl⟩)
theorem dX8_soonOf_17 : DCge mX8_soonOf 17 72 20 := ⟨55, by decide +kernel, by decide, rfl⟩
theorem dX8_soonOf_20 : DLa mX8_soonOf 20 0 21 := Or.inl ⟨0, by decide +kernel, rfl, rfl⟩
theorem dX8_soonOf_21 : DKi mX8_soonOf 21 (nI 0) 22 := Or.inl ⟨0, by decide +kernel, by decide, rfl⟩
theorem dX8_soonOf_22 : DLa mX8_soonOf 22 0 23 := Or.inl ⟨0, by decide +kernel, rfl, rfl⟩
theorem dX8_soonOf_23 : D0 mX8_soonOf 23 (.getfield 40) 3 26 := ⟨by decide +kernel, rfl⟩
theorem dX8_soonOf_26 : DLi mX8_soonOf 26 5 28 := Or.inr ⟨by decide +kernel, rfl⟩
theorem dX8_soonOf_28 : D0 mX8_soonOf 28 (.iaload) 1 29 := ⟨by decide +kernel, rfl⟩
theorem dX8_soonOf_29 : D0 mX8_soonOf 29 (.invokevirtual 201) 3 32 := ⟨by decide +kernel, rfl⟩
theorem dX8_soonOf_32 : DLa mX8_soonOf 32 0 33 := Or.inl ⟨0, by decide +kernel, rfl, rfl⟩
theorem dX8_soonOf_33 : D0 mX8_soonOf 33 (.getfield 47) 3 36 := ⟨by decide +kernel, rfl⟩
theorem dX8_soonOf_36 : DKi mX8_soonOf 36 (nI 8) 38 := Or.inr (Or.inl ⟨8, by decide +kernel, by decide, rfl⟩)
theorem dX8_soonOf_38 : DLi mX8_soonOf 38 2 39 := Or.inl ⟨2, by decide +kernel, rfl, rfl⟩
theorem dX8_soonOf_39 : D0 mX8_soonOf 39 (.iadd) 1 40 := ⟨by decide +kernel, rfl⟩
theorem dX8_soonOf_40 : D0 mX8_soonOf 40 (.iaload) 1 41 := ⟨by decide +kernel, rfl⟩
theorem dX8_soonOf_41 : DKi mX8_soonOf 41 (nI 100000) 43 := Or.inr (Or.inr (Or.inr (Or.inl ⟨193, by decide +kernel, bt644, rfl⟩)))
theorem dX8_soonOf_43 : DCge mX8_soonOf 43 66 46 := ⟨23, by decide +kernel, by decide, rfl⟩
theorem dX8_soonOf_46 : DLi mX8_soonOf 46 4 48 := Or.inr ⟨by decide +kernel, rfl⟩
theorem dX8_soonOf_48 : DFne mX8_soonOf 48 56 51 := ⟨8, by decide +kernel, by decide, rfl⟩
theorem dX8_soonOf_51 : DLi mX8_soonOf 51 5 53 := Or.inr ⟨by decide +kernel, rfl⟩
theorem dX8_soonOf_53 : DG mX8_soonOf 53 65 := ⟨12, by decide +kernel, by decide⟩
theorem dX8_soonOf_56 : DLa mX8_soonOf 56 0 57 := Or.inl ⟨0, by decide +kernel, rfl, rfl⟩
theorem dX8_soonOf_57 : D0 mX8_soonOf 57 (.getfield 47) 3 60 := ⟨by decide +kernel, rfl⟩
theorem dX8_soonOf_60 : DKi mX8_soonOf 60 (nI 8) 62 := Or.inr (Or.inl ⟨8, by decide +kernel, by decide, rfl⟩)
theorem dX8_soonOf_62 : DLi mX8_soonOf 62 2 63 := Or.inl ⟨2, by decide +kernel, rfl, rfl⟩
theorem dX8_soonOf_63 : D0 mX8_soonOf 63 (.iadd) 1 64 := ⟨by decide +kernel, rfl⟩
theorem dX8_soonOf_64 : D0 mX8_soonOf 64 (.iaload) 1 65 := ⟨by decide +kernel, rfl⟩
theorem dX8_soonOf_65 : D0 mX8_soonOf 65 (.ireturn) 1 66 := ⟨by decide +kernel, rfl⟩
theorem dX8_soonOf_66 : DIn mX8_soonOf 66 5 (nI 1) 69 := ⟨by decide, 1, by decide +kernel, by decide, rfl⟩
theorem dX8_soonOf_69 : DG mX8_soonOf 69 13 := ⟨(-56), by decide +kernel, by decide⟩
theorem dX8_soonOf_72 : DKi mX8_soonOf 72 ((-1)) 73 := Or.inl ⟨(-1), by decide +kernel, by decide, rfl⟩
theorem dX8_soonOf_73 : D0 mX8_soonOf 73 (.ireturn) 1 74 := ⟨by decide +kernel, rfl⟩
theorem dX8_soon_0 : DLi mX8_soon 0 1 1 := Or.inl ⟨1, by decide +kernel, rfl, rfl⟩
theorem dX8_soon_1 : D0 mX8_soon 1 (.invokestatic 118) 3 4 := ⟨by decide +kernel, rfl⟩
theorem dX8_soon_4 : DFeq mX8_soon 4 32 7 := ⟨28, by decide +kernel, by decide, rfl⟩
theorem dX8_soon_7 : DLi mX8_soon 7 2 8 := Or.inl ⟨2, by decide +kernel, rfl, rfl⟩
theorem dX8_soon_8 : D0 mX8_soon 8 (.invokestatic 118) 3 11 := ⟨by decide +kernel, rfl⟩
theorem dX8_soon_11 : DFeq mX8_soon 11 32 14 := ⟨21, by decide +kernel, by decide, rfl⟩
theorem dX8_soon_14 : DLi mX8_soon 14 3 15 := Or.inl ⟨3, by decide +kernel, rfl, rfl⟩
theorem dX8_soon_15 : D0 mX8_soon 15 (.invokestatic 148) 3 18 := ⟨by decide +kernel, rfl⟩
theorem dX8_soon_18 : DFeq mX8_soon 18 32 21 := ⟨14, by decide +kernel, by decide, rfl⟩
theorem dX8_soon_21 : DLa mX8_soon 21 0 22 := Or.inl ⟨0, by decide +kernel, rfl, rfl⟩
theorem dX8_soon_22 : DLi mX8_soon 22 1 23 := Or.inl ⟨1, by decide +kernel, rfl, rfl⟩
theorem dX8_soon_23 : DLi mX8_soon 23 2 24 := Or.inl ⟨2, by decide +kernel, rfl, rfl⟩
theorem dX8_soon_24 : DLi mX8_soon 24 3 25 := Or.inl ⟨3, by decide +kernel, rfl, rfl⟩
theorem dX8_soon_25 : DKi mX8_soon 25 (nI 0) 26 := Or.inl ⟨0, by decide +kernel, by decide, rfl⟩
theorem dX8_soon_26 : D0 mX8_soon 26 (.invokevirtual 204) 3 29 := ⟨by decide +kernel, rfl⟩
theorem dX8_soon_29 : DG mX8_soon 29 34 := ⟨5, by decide +kernel, by decide⟩
theorem dX8_soon_32 : DKi mX8_soon 32 ((-2)) 34 := Or.inr (Or.inl ⟨(-2), by decide +kernel, by decide, rfl⟩)
theorem dX8_soon_34 : D0 mX8_soon 34 (.ireturn) 1 35 := ⟨by decide +kernel, rfl⟩
theorem dX8_carried_0 : DLi mX8_carried 0 1 1 := Or.inl ⟨1, by decide +kernel, rfl, rfl⟩
theorem dX8_carried_1 : D0 mX8_carried 1 (.invokestatic 118) 3 4 := ⟨by decide +kernel, rfl⟩
theorem dX8_carried_4 : DFeq mX8_carried 4 32 7 := ⟨28, by decide +kernel, by decide, rfl⟩
theorem dX8_carried_7 : DLi mX8_carried 7 2 8 := Or.inl ⟨2, by decide +kernel, rfl, rfl⟩
theorem dX8_carried_8 : D0 mX8_carried 8 (.invokestatic 118) 3 11 := ⟨by decide +kernel, rfl⟩
theorem dX8_carried_11 : DFeq mX8_carried 11 32 14 := ⟨21, by decide +kernel, by decide, rfl⟩
theorem dX8_carried_14 : DLi mX8_carried 14 3 15 := Or.inl ⟨3, by decide +kernel, rfl, rfl⟩
theorem dX8_carried_15 : D0 mX8_carried 15 (.invokestatic 148) 3 18 := ⟨by decide +kernel, rfl⟩
theorem dX8_carried_18 : DFeq mX8_carried 18 32 21 := ⟨14, by decide +kernel, by decide, rfl⟩
theorem dX8_carried_21 : DLa mX8_carried 21 0 22 := Or.inl ⟨0, by decide +kernel, rfl, rfl⟩
theorem dX8_carried_22 : DLi mX8_carried 22 1 23 := Or.inl ⟨1, by decide +kernel, rfl, rfl⟩
theorem dX8_carried_23 : DLi mX8_carried 23 2 24 := Or.inl ⟨2, by decide +kernel, rfl, rfl⟩
theorem dX8_carried_24 : DLi mX8_carried 24 3 25 := Or.inl ⟨3, by decide +kernel, rfl, rfl⟩
theorem dX8_carried_25 : DKi mX8_carried 25 (nI 1) 26 := Or.inl ⟨1, by decide +kernel, by decide, rfl⟩
theorem dX8_carried_26 : D0 mX8_carried 26 (.invokevirtual 204) 3 29 := ⟨by decide +kernel, rfl⟩
theorem dX8_carried_29 : DG mX8_carried 29 34 := ⟨5, by decide +kernel, by decide⟩
theorem dX8_carried_32 : DKi mX8_carried 32 ((-2)) 34 := Or.inr (Or.inl ⟨(-2), by decide +kernel, by decide, rfl⟩)
theorem dX8_carried_34 : D0 mX8_carried 34 (.ireturn) 1 35 := ⟨by decide +kernel, rfl⟩
theorem dX8_meetOf_0 : DLa mX8_meetOf 0 0 1 := Or.inl ⟨0, by decide +kernel, rfl, rfl⟩
theorem dX8_meetOf_1 : D0 mX8_meetOf 1 (.invokevirtual 145) 3 4 := ⟨by decide +kernel, rfl⟩
theorem dX8_meetOf_4 : DLa mX8_meetOf 4 0 5 := Or.inl ⟨0, by decide +kernel, rfl, rfl⟩
theorem dX8_meetOf_5 : DKi mX8_meetOf 5 (nI 0) 6 := Or.inl ⟨0, by decide +kernel, by decide, rfl⟩
theorem dX8_meetOf_6 : DLi mX8_meetOf 6 1 7 := Or.inl ⟨1, by decide +kernel, rfl, rfl⟩
theorem dX8_meetOf_7 : D0 mX8_meetOf 7 (.invokevirtual 197) 3 10 := ⟨by decide +kernel, rfl⟩
theorem dX8_meetOf_10 : DLa mX8_meetOf 10 0 11 := Or.inl ⟨0, by decide +kernel, rfl, rfl⟩
theorem dX8_meetOf_11 : DKi mX8_meetOf 11 (nI 1) 12 := Or.inl ⟨1, by decide +kernel, by decide, rfl⟩
theorem dX8_meetOf_12 : DLi mX8_meetOf 12 2 13 := Or.inl ⟨2, by decide +kernel, rfl, rfl⟩
theorem dX8_meetOf_13 : D0 mX8_meetOf 13 (.invokevirtual 197) 3 16 := ⟨by decide +kernel, rfl⟩
theorem dX8_meetOf_16 : DLi mX8_meetOf 16 3 17 := Or.inl ⟨3, by decide +kernel, rfl, rfl⟩
theorem dX8_meetOf_17 : DSi mX8_meetOf 17 5 19 := ⟨by decide, Or.inr ⟨by decide +kernel, rfl⟩⟩
theorem dX8_meetOf_19 : DLi mX8_meetOf 19 5 21 := Or.inr ⟨by decide +kernel, rfl⟩
theorem dX8_meetOf_21 : DKi mX8_meetOf 21 (nI 100) 23 := Or.inr (Or.inl ⟨100, by decide +kernel, by decide, rfl⟩)
theorem dX8_meetOf_23 : DCge mX8_meetOf 23 115 26 := ⟨92, by decide +kernel, by decide, rfl⟩
theorem dX8_meetOf_26 : DLa mX8_meetOf 26 0 27 := Or.inl ⟨0, by decide +kernel, rfl, rfl⟩
theorem dX8_meetOf_27 : DKi mX8_meetOf 27 (nI 0) 28 := Or.inl ⟨0, by decide +kernel, by decide, rfl⟩
theorem dX8_meetOf_28 : DLa mX8_meetOf 28 0 29 := Or.inl ⟨0, by decide +kernel, rfl, rfl⟩
theorem dX8_meetOf_29 : D0 mX8_meetOf 29 (.getfield 40) 3 32 := ⟨by decide +kernel, rfl⟩
theorem dX8_meetOf_32 : DLi mX8_meetOf 32 5 34 := Or.inr ⟨by decide +kernel, rfl⟩
theorem dX8_meetOf_34 : D0 mX8_meetOf 34 (.iaload) 1 35 := ⟨by decide +kernel, rfl⟩
theorem dX8_meetOf_35 : D0 mX8_meetOf 35 (.invokevirtual 201) 3 38 := ⟨by decide +kernel, rfl⟩
theorem dX8_meetOf_38 : DLa mX8_meetOf 38 0 39 := Or.inl ⟨0, by decide +kernel, rfl, rfl⟩
theorem dX8_meetOf_39 : DKi mX8_meetOf 39 (nI 1) 40 := Or.inl ⟨1, by decide +kernel, by decide, rfl⟩
theorem dX8_meetOf_40 : DLa mX8_meetOf 40 0 41 := Or.inl ⟨0, by decide +kernel, rfl, rfl⟩
theorem dX8_meetOf_41 : D0 mX8_meetOf 41 (.getfield 40) 3 44 := ⟨by decide +kernel, rfl⟩
theorem dX8_meetOf_44 : DLi mX8_meetOf 44 5 46 := Or.inr ⟨by decide +kernel, rfl⟩
theorem dX8_meetOf_46 : D0 mX8_meetOf 46 (.iaload) 1 47 := ⟨by decide +kernel, rfl⟩
theorem dX8_meetOf_47 : D0 mX8_meetOf 47 (.invokevirtual 201) 3 50 := ⟨by decide +kernel, rfl⟩
theorem dX8_meetOf_50 : DKi mX8_meetOf 50 (nI 0) 51 := Or.inl ⟨0, by decide +kernel, by decide, rfl⟩
theorem dX8_meetOf_51 : DSi mX8_meetOf 51 6 53 := ⟨by decide, Or.inr ⟨by decide +kernel, rfl⟩⟩
theorem dX8_meetOf_53 : DLi mX8_meetOf 53 6 55 := Or.inr ⟨by decide +kernel, rfl⟩
theorem dX8_meetOf_55 : DKi mX8_meetOf 55 (nI 8) 57 := Or.inr (Or.inl ⟨8, by decide +kernel, by decide, rfl⟩)
theorem dX8_meetOf_57 : DCge mX8_meetOf 57 109 60 := ⟨52, by decide +kernel, by decide, rfl⟩
theorem dX8_meetOf_60 : DLa mX8_meetOf 60 0 61 := Or.inl ⟨0, by decide +kernel, rfl, rfl⟩
theorem dX8_meetOf_61 : D0 mX8_meetOf 61 (.getfield 47) 3 64 := ⟨by decide +kernel, rfl⟩
theorem dX8_meetOf_64 : DKi mX8_meetOf 64 (nI 8) 66 := Or.inr (Or.inl ⟨8, by decide +kernel, by decide, rfl⟩)
theorem dX8_meetOf_66 : DLi mX8_meetOf 66 6 68 := Or.inr ⟨by decide +kernel, rfl⟩
theorem dX8_meetOf_68 : D0 mX8_meetOf 68 (.iadd) 1 69 := ⟨by decide +kernel, rfl⟩
theorem dX8_meetOf_69 : D0 mX8_meetOf 69 (.iaload) 1 70 := ⟨by decide +kernel, rfl⟩
theorem dX8_meetOf_70 : DKi mX8_meetOf 70 (nI 100000) 72 := Or.inr (Or.inr (Or.inr (Or.inl ⟨193, by decide +kernel, bt644, rfl⟩)))
theorem dX8_meetOf_72 : DCge mX8_meetOf 72 103 75 := ⟨31, by decide +kernel, by decide, rfl⟩
theorem dX8_meetOf_75 : DLa mX8_meetOf 75 0 76 := Or.inl ⟨0, by decide +kernel, rfl, rfl⟩
theorem dX8_meetOf_76 : D0 mX8_meetOf 76 (.getfield 47) 3 79 := ⟨by decide +kernel, rfl⟩
theorem dX8_meetOf_79 : DKi mX8_meetOf 79 (nI 24) 81 := Or.inr (Or.inl ⟨24, by decide +kernel, by decide, rfl⟩)
theorem dX8_meetOf_81 : DLi mX8_meetOf 81 6 83 := Or.inr ⟨by decide +kernel, rfl⟩
theorem dX8_meetOf_83 : D0 mX8_meetOf 83 (.iadd) 1 84 := ⟨by decide +kernel, rfl⟩
theorem dX8_meetOf_84 : D0 mX8_meetOf 84 (.iaload) 1 85 := ⟨by decide +kernel, rfl⟩
theorem dX8_meetOf_85 : DKi mX8_meetOf 85 (nI 100000) 87 := Or.inr (Or.inr (Or.inr (Or.inl ⟨193, by decide +kernel, bt644, rfl⟩)))
theorem dX8_meetOf_87 : DCge mX8_meetOf 87 103 90 := ⟨16, by decide +kernel, by decide, rfl⟩
theorem dX8_meetOf_90 : DLi mX8_meetOf 90 4 92 := Or.inr ⟨by decide +kernel, rfl⟩
theorem dX8_meetOf_92 : DFne mX8_meetOf 92 100 95 := ⟨8, by decide +kernel, by decide, rfl⟩
theorem dX8_meetOf_95 : DLi mX8_meetOf 95 5 97 := Or.inr ⟨by decide +kernel, rfl⟩
theorem dX8_meetOf_97 : DG mX8_meetOf 97 102 := ⟨5, by decide +kernel, by decide⟩
theorem dX8_meetOf_100 : DLi mX8_meetOf 100 6 102 := Or.inr ⟨by decide +kernel, rfl⟩
theorem dX8_meetOf_102 : D0 mX8_meetOf 102 (.ireturn) 1 103 := ⟨by decide +kernel, rfl⟩
theorem dX8_meetOf_103 : DIn mX8_meetOf 103 6 (nI 1) 106 := ⟨by decide, 1, by decide +kernel, by decide, rfl⟩
theorem dX8_meetOf_106 : DG mX8_meetOf 106 53 := ⟨(-53), by decide +kernel, by decide⟩
theorem dX8_meetOf_109 : DIn mX8_meetOf 109 5 (nI 1) 112 := ⟨by decide, 1, by decide +kernel, by decide, rfl⟩
theorem dX8_meetOf_112 : DG mX8_meetOf 112 19 := ⟨(-93), by decide +kernel, by decide⟩
theorem dX8_meetOf_115 : DKi mX8_meetOf 115 ((-1)) 116 := Or.inl ⟨(-1), by decide +kernel, by decide, rfl⟩
theorem dX8_meetOf_116 : D0 mX8_meetOf 116 (.ireturn) 1 117 := ⟨by decide +kernel, rfl⟩
theorem dX8_meet_0 : DLi mX8_meet 0 1 1 := Or.inl ⟨1, by decide +kernel, rfl, rfl⟩
theorem dX8_meet_1 : D0 mX8_meet 1 (.invokestatic 118) 3 4 := ⟨by decide +kernel, rfl⟩
theorem dX8_meet_4 : DFeq mX8_meet 4 48 7 := ⟨44, by decide +kernel, by decide, rfl⟩
theorem dX8_meet_7 : DLi mX8_meet 7 2 8 := Or.inl ⟨2, by decide +kernel, rfl, rfl⟩
theorem dX8_meet_8 : D0 mX8_meet 8 (.invokestatic 118) 3 11 := ⟨by decide +kernel, rfl⟩
theorem dX8_meet_11 : DFeq mX8_meet 11 48 14 := ⟨37, by decide +kernel, by decide, rfl⟩
theorem dX8_meet_14 : DLi mX8_meet 14 1 15 := Or.inl ⟨1, by decide +kernel, rfl, rfl⟩
theorem dX8_meet_15 : DLi mX8_meet 15 2 16 := Or.inl ⟨2, by decide +kernel, rfl, rfl⟩
theorem dX8_meet_16 : DCeq mX8_meet 16 48 19 := ⟨32, by decide +kernel, by decide, rfl⟩
theorem dX8_meet_19 : DLi mX8_meet 19 3 20 := Or.inl ⟨3, by decide +kernel, rfl, rfl⟩
theorem dX8_meet_20 : D0 mX8_meet 20 (.invokestatic 148) 3 23 := ⟨by decide +kernel, rfl⟩
theorem dX8_meet_23 : DFeq mX8_meet 23 48 26 := ⟨25, by decide +kernel, by decide, rfl⟩
theorem dX8_meet_26 : DLi mX8_meet 26 4 28 := Or.inr ⟨by decide +kernel, rfl⟩
theorem dX8_meet_28 : DKi mX8_meet 28 (nI 0) 29 := Or.inl ⟨0, by decide +kernel, by decide, rfl⟩
theorem dX8_meet_29 : DKi mX8_meet 29 (nI 1) 30 := Or.inl ⟨1, by decide +kernel, by decide, rfl⟩
theorem dX8_meet_30 : D0 mX8_meet 30 (.invokestatic 89) 3 33 := ⟨by decide +kernel, rfl⟩
theorem dX8_meet_33 : DFeq mX8_meet 33 48 36 := ⟨15, by decide +kernel, by decide, rfl⟩
theorem dX8_meet_36 : DLa mX8_meet 36 0 37 := Or.inl ⟨0, by decide +kernel, rfl, rfl⟩
theorem dX8_meet_37 : DLi mX8_meet 37 1 38 := Or.inl ⟨1, by decide +kernel, rfl, rfl⟩
theorem dX8_meet_38 : DLi mX8_meet 38 2 39 := Or.inl ⟨2, by decide +kernel, rfl, rfl⟩
theorem dX8_meet_39 : DLi mX8_meet 39 3 40 := Or.inl ⟨3, by decide +kernel, rfl, rfl⟩
theorem dX8_meet_40 : DLi mX8_meet 40 4 42 := Or.inr ⟨by decide +kernel, rfl⟩
theorem dX8_meet_42 : D0 mX8_meet 42 (.invokevirtual 207) 3 45 := ⟨by decide +kernel, rfl⟩
theorem dX8_meet_45 : DG mX8_meet 45 50 := ⟨5, by decide +kernel, by decide⟩
theorem dX8_meet_48 : DKi mX8_meet 48 ((-2)) 50 := Or.inr (Or.inl ⟨(-2), by decide +kernel, by decide, rfl⟩)
theorem dX8_meet_50 : D0 mX8_meet 50 (.ireturn) 1 51 := ⟨by decide +kernel, rfl⟩
theorem dX8_wish_0 : DLi mX8_wish 0 1 1 := Or.inl ⟨1, by decide +kernel, rfl, rfl⟩
theorem dX8_wish_1 : D0 mX8_wish 1 (.invokestatic 118) 3 4 := ⟨by decide +kernel, rfl⟩
theorem dX8_wish_4 : DFeq mX8_wish 4 24 7 := ⟨20, by decide +kernel, by decide, rfl⟩
theorem dX8_wish_7 : DLi mX8_wish 7 2 8 := Or.inl ⟨2, by decide +kernel, rfl, rfl⟩
theorem dX8_wish_8 : D0 mX8_wish 8 (.invokestatic 163) 3 11 := ⟨by decide +kernel, rfl⟩
theorem dX8_wish_11 : DFeq mX8_wish 11 24 14 := ⟨13, by decide +kernel, by decide, rfl⟩
theorem dX8_wish_14 : DLi mX8_wish 14 3 15 := Or.inl ⟨3, by decide +kernel, rfl, rfl⟩
theorem dX8_wish_15 : DKi mX8_wish 15 (nI 0) 16 := Or.inl ⟨0, by decide +kernel, by decide, rfl⟩
theorem dX8_wish_16 : DKi mX8_wish 16 (nI 9) 18 := Or.inr (Or.inl ⟨9, by decide +kernel, by decide, rfl⟩)
theorem dX8_wish_18 : D0 mX8_wish 18 (.invokestatic 89) 3 21 := ⟨by decide +kernel, rfl⟩
theorem dX8_wish_21 : DFne mX8_wish 21 27 24 := ⟨6, by decide +kernel, by decide, rfl⟩
theorem dX8_wish_24 : DKi mX8_wish 24 ((-2)) 26 := Or.inr (Or.inl ⟨(-2), by decide +kernel, by decide, rfl⟩)
theorem dX8_wish_26 : D0 mX8_wish 26 (.ireturn) 1 27 := ⟨by decide +kernel, rfl⟩
theorem dX8_wish_27 : DLa mX8_wish 27 0 28 := Or.inl ⟨0, by decide +kernel, rfl, rfl⟩
theorem dX8_wish_28 : D0 mX8_wish 28 (.getfield 53) 3 31 := ⟨by decide +kernel, rfl⟩
theorem dX8_wish_31 : DKi mX8_wish 31 (nI 5) 32 := Or.inl ⟨5, by decide +kernel, by decide, rfl⟩
theorem dX8_wish_32 : DLi mX8_wish 32 1 33 := Or.inl ⟨1, by decide +kernel, rfl, rfl⟩
theorem dX8_wish_33 : D0 mX8_wish 33 (.imul) 1 34 := ⟨by decide +kernel, rfl⟩
theorem dX8_wish_34 : DLi mX8_wish 34 2 35 := Or.inl ⟨2, by decide +kernel, rfl, rfl⟩
theorem dX8_wish_35 : D0 mX8_wish 35 (.iadd) 1 36 := ⟨by decide +kernel, rfl⟩
theorem dX8_wish_36 : D0 mX8_wish 36 (.iaload) 1 37 := ⟨by decide +kernel, rfl⟩
theorem dX8_wish_37 : DSi mX8_wish 37 4 39 := ⟨by decide, Or.inr ⟨by decide +kernel, rfl⟩⟩
theorem dX8_wish_39 : DLa mX8_wish 39 0 40 := Or.inl ⟨0, by decide +kernel, rfl, rfl⟩
theorem dX8_wish_40 : D0 mX8_wish 40 (.getfield 53) 3 43 := ⟨by decide +kernel, rfl⟩
theorem dX8_wish_43 : DKi mX8_wish 43 (nI 5) 44 := Or.inl ⟨5, by decide +kernel, by decide, rfl⟩
theorem dX8_wish_44 : DLi mX8_wish 44 1 45 := Or.inl ⟨1, by decide +kernel, rfl, rfl⟩
theorem dX8_wish_45 : D0 mX8_wish 45 (.imul) 1 46 := ⟨by decide +kernel, rfl⟩
theorem dX8_wish_46 : DLi mX8_wish 46 2 47 := Or.inl ⟨2, by decide +kernel, rfl, rfl⟩
theorem dX8_wish_47 : D0 mX8_wish 47 (.iadd) 1 48 := ⟨by decide +kernel, rfl⟩
theorem dX8_wish_48 : DLi mX8_wish 48 3 49 := Or.inl ⟨3, by decide +kernel, rfl, rfl⟩
theorem dX8_wish_49 : D0 mX8_wish 49 (.iastore) 1 50 := ⟨by decide +kernel, rfl⟩
theorem dX8_wish_50 : DLi mX8_wish 50 4 52 := Or.inr ⟨by decide +kernel, rfl⟩
theorem dX8_wish_52 : D0 mX8_wish 52 (.ireturn) 1 53 := ⟨by decide +kernel, rfl⟩
theorem dX8_lives_0 : DLi mX8_lives 0 1 1 := Or.inl ⟨1, by decide +kernel, rfl, rfl⟩
theorem dX8_lives_1 : D0 mX8_lives 1 (.invokestatic 118) 3 4 := ⟨by decide +kernel, rfl⟩
theorem dX8_lives_4 : DFeq mX8_lives 4 16 7 := ⟨12, by decide +kernel, by decide, rfl⟩
theorem dX8_lives_7 : DLa mX8_lives 7 0 8 := Or.inl ⟨0, by decide +kernel, rfl, rfl⟩
theorem dX8_lives_8 : D0 mX8_lives 8 (.getfield 56) 3 11 := ⟨by decide +kernel, rfl⟩
theorem dX8_lives_11 : DLi mX8_lives 11 1 12 := Or.inl ⟨1, by decide +kernel, rfl, rfl⟩
theorem dX8_lives_12 : D0 mX8_lives 12 (.iaload) 1 13 := ⟨by decide +kernel, rfl⟩
theorem dX8_lives_13 : DG mX8_lives 13 18 := ⟨5, by decide +kernel, by decide⟩
theorem dX8_lives_16 : DKi mX8_lives 16 ((-2)) 18 := Or.inr (Or.inl ⟨(-2), by decide +kernel, by decide, rfl⟩)
theorem dX8_lives_18 : D0 mX8_lives 18 (.ireturn) 1 19 := ⟨by decide +kernel, rfl⟩
theorem dX8_laysJoy_0 : DLa mX8_laysJoy 0 0 1 := Or.inl ⟨0, by decide +kernel, rfl, rfl⟩
theorem dX8_laysJoy_1 : D0 mX8_laysJoy 1 (.invokevirtual 145) 3 4 := ⟨by decide +kernel, rfl⟩
theorem dX8_laysJoy_4 : DKi mX8_laysJoy 4 (nI 0) 5 := Or.inl ⟨0, by decide +kernel, by decide, rfl⟩
theorem dX8_laysJoy_5 : DSi mX8_laysJoy 5 3 6 := ⟨by decide, Or.inl ⟨3, by decide +kernel, rfl, rfl⟩⟩
theorem dX8_laysJoy_6 : DLi mX8_laysJoy 6 3 7 := Or.inl ⟨3, by decide +kernel, rfl, rfl⟩
theorem dX8_laysJoy_7 : DKi mX8_laysJoy 7 (nI 8) 9 := Or.inr (Or.inl ⟨8, by decide +kernel, by decide, rfl⟩)
theorem dX8_laysJoy_9 : DCge mX8_laysJoy 9 93 12 := ⟨84, by decide +kernel, by decide, rfl⟩
theorem dX8_laysJoy_12 : DKi mX8_laysJoy 12 (nI 0) 13 := Or.inl ⟨0, by decide +kernel, by decide, rfl⟩
theorem dX8_laysJoy_13 : DSi mX8_laysJoy 13 4 15 := ⟨by decide, Or.inr ⟨by decide +kernel, rfl⟩⟩
theorem dX8_laysJoy_15 : DLi mX8_laysJoy 15 4 17 := Or.inr ⟨by decide +kernel, rfl⟩
theorem dX8_laysJoy_17 : DKi mX8_laysJoy 17 (nI 8) 19 := Or.inr (Or.inl ⟨8, by decide +kernel, by decide, rfl⟩)
theorem dX8_laysJoy_19 : DCge mX8_laysJoy 19 87 22 := ⟨68, by decide +kernel, by decide, rfl⟩
theorem dX8_laysJoy_22 : DKi mX8_laysJoy 22 (nI 0) 23 := Or.inl ⟨0, by decide +kernel, by decide, rfl⟩
theorem dX8_laysJoy_23 : DSi mX8_laysJoy 23 5 25 := ⟨by decide, Or.inr ⟨by decide +kernel, rfl⟩⟩
theorem dX8_laysJoy_25 : DLi mX8_laysJoy 25 1 26 := Or.inl ⟨1, by decide +kernel, rfl, rfl⟩
theorem dX8_laysJoy_26 : DSi mX8_laysJoy 26 6 28 := ⟨by decide, Or.inr ⟨by decide +kernel, rfl⟩⟩
theorem dX8_laysJoy_28 : DLi mX8_laysJoy 28 6 30 := Or.inr ⟨by decide +kernel, rfl⟩
theorem dX8_laysJoy_30 : DLi mX8_laysJoy 30 2 31 := Or.inl ⟨2, by decide +kernel, rfl, rfl⟩
theorem dX8_laysJoy_31 : DCgt mX8_laysJoy 31 67 34 := ⟨36, by decide +kernel, by decide, rfl⟩
theorem dX8_laysJoy_34 : DLi mX8_laysJoy 34 5 36 := Or.inr ⟨by decide +kernel, rfl⟩
theorem dX8_laysJoy_36 : DLa mX8_laysJoy 36 0 37 := Or.inl ⟨0, by decide +kernel, rfl, rfl⟩
theorem dX8_laysJoy_37 : D0 mX8_laysJoy 37 (.getfield 53) 3 40 := ⟨by decide +kernel, rfl⟩
theorem dX8_laysJoy_40 : DKi mX8_laysJoy 40 (nI 5) 41 := Or.inl ⟨5, by decide +kernel, by decide, rfl⟩
theorem dX8_laysJoy_41 : DLi mX8_laysJoy 41 3 42 := Or.inl ⟨3, by decide +kernel, rfl, rfl⟩
theorem dX8_laysJoy_42 : D0 mX8_laysJoy 42 (.imul) 1 43 := ⟨by decide +kernel, rfl⟩
theorem dX8_laysJoy_43 : DLa mX8_laysJoy 43 0 44 := Or.inl ⟨0, by decide +kernel, rfl, rfl⟩
theorem dX8_laysJoy_44 : D0 mX8_laysJoy 44 (.getfield 13) 3 47 := ⟨by decide +kernel, rfl⟩
theorem dX8_laysJoy_47 : DLa mX8_laysJoy 47 0 48 := Or.inl ⟨0, by decide +kernel, rfl, rfl⟩
theorem dX8_laysJoy_48 : DLi mX8_laysJoy 48 4 50 := Or.inr ⟨by decide +kernel, rfl⟩
theorem dX8_laysJoy_50 : DLi mX8_laysJoy 50 6 52 := Or.inr ⟨by decide +kernel, rfl⟩
theorem dX8_laysJoy_52 : D0 mX8_laysJoy 52 (.invokevirtual 157) 3 55 := ⟨by decide +kernel, rfl⟩
theorem dX8_laysJoy_55 : D0 mX8_laysJoy 55 (.iaload) 1 56 := ⟨by decide +kernel, rfl⟩
theorem dX8_laysJoy_56 : D0 mX8_laysJoy 56 (.iadd) 1 57 := ⟨by decide +kernel, rfl⟩
theorem dX8_laysJoy_57 : D0 mX8_laysJoy 57 (.iaload) 1 58 := ⟨by decide +kernel, rfl⟩
theorem dX8_laysJoy_58 : D0 mX8_laysJoy 58 (.iadd) 1 59 := ⟨by decide +kernel, rfl⟩
theorem dX8_laysJoy_59 : DSi mX8_laysJoy 59 5 61 := ⟨by decide, Or.inr ⟨by decide +kernel, rfl⟩⟩
theorem dX8_laysJoy_61 : DIn mX8_laysJoy 61 6 (nI 1) 64 := ⟨by decide, 1, by decide +kernel, by decide, rfl⟩
theorem dX8_laysJoy_64 : DG mX8_laysJoy 64 28 := ⟨(-36), by decide +kernel, by decide⟩
theorem dX8_laysJoy_67 : DLa mX8_laysJoy 67 0 68 := Or.inl ⟨0, by decide +kernel, rfl, rfl⟩
theorem dX8_laysJoy_68 : D0 mX8_laysJoy 68 (.getfield 59) 3 71 := ⟨by decide +kernel, rfl⟩
theorem dX8_laysJoy_71 : DKi mX8_laysJoy 71 (nI 8) 73 := Or.inr (Or.inl ⟨8, by decide +kernel, by decide, rfl⟩)
theorem dX8_laysJoy_73 : DLi mX8_laysJoy 73 3 74 := Or.inl ⟨3, by decide +kernel, rfl, rfl⟩
theorem dX8_laysJoy_74 : D0 mX8_laysJoy 74 (.imul) 1 75 := ⟨by decide +kernel, rfl⟩
theorem dX8_laysJoy_75 : DLi mX8_laysJoy 75 4 77 := Or.inr ⟨by decide +kernel, rfl⟩
theorem dX8_laysJoy_77 : D0 mX8_laysJoy 77 (.iadd) 1 78 := ⟨by decide +kernel, rfl⟩
theorem dX8_laysJoy_78 : DLi mX8_laysJoy 78 5 80 := Or.inr ⟨by decide +kernel, rfl⟩
theorem dX8_laysJoy_80 : D0 mX8_laysJoy 80 (.iastore) 1 81 := ⟨by decide +kernel, rfl⟩
theorem dX8_laysJoy_81 : DIn mX8_laysJoy 81 4 (nI 1) 84 := ⟨by decide, 1, by decide +kernel, by decide, rfl⟩
theorem dX8_laysJoy_84 : DG mX8_laysJoy 84 15 := ⟨(-69), by decide +kernel, by decide⟩
theorem dX8_laysJoy_87 : DIn mX8_laysJoy 87 3 (nI 1) 90 := ⟨by decide, 1, by decide +kernel, by decide, rfl⟩
theorem dX8_laysJoy_90 : DG mX8_laysJoy 90 6 := ⟨(-84), by decide +kernel, by decide⟩
theorem dX8_laysJoy_93 : D0 mX8_laysJoy 93 (.return_) 1 94 := ⟨by decide +kernel, rfl⟩
theorem dX8_joy_0 : DLi mX8_joy 0 1 1 := Or.inl ⟨1, by decide +kernel, rfl, rfl⟩
theorem dX8_joy_1 : D0 mX8_joy 1 (.invokestatic 118) 3 4 := ⟨by decide +kernel, rfl⟩
theorem dX8_joy_4 : DFeq mX8_joy 4 23 7 := ⟨19, by decide +kernel, by decide, rfl⟩
theorem dX8_joy_7 : DLi mX8_joy 7 2 8 := Or.inl ⟨2, by decide +kernel, rfl, rfl⟩
theorem dX8_joy_8 : D0 mX8_joy 8 (.invokestatic 118) 3 11 := ⟨by decide +kernel, rfl⟩
theorem dX8_joy_11 : DFeq mX8_joy 11 23 14 := ⟨12, by decide +kernel, by decide, rfl⟩
theorem dX8_joy_14 : DLi mX8_joy 14 3 15 := Or.inl ⟨3, by decide +kernel, rfl, rfl⟩
theorem dX8_joy_15 : DLi mX8_joy 15 4 17 := Or.inr ⟨by decide +kernel, rfl⟩
theorem dX8_joy_17 : D0 mX8_joy 17 (.invokestatic 166) 3 20 := ⟨by decide +kernel, rfl⟩
theorem dX8_joy_20 : DFne mX8_joy 20 26 23 := ⟨6, by decide +kernel, by decide, rfl⟩
theorem dX8_joy_23 : DKi mX8_joy 23 ((-2)) 25 := Or.inr (Or.inl ⟨(-2), by decide +kernel, by decide, rfl⟩)
theorem dX8_joy_25 : D0 mX8_joy 25 (.ireturn) 1 26 := ⟨by decide +kernel, rfl⟩
theorem dX8_joy_26 : DLa mX8_joy 26 0 27 := Or.inl ⟨0, by decide +kernel, rfl, rfl⟩
theorem dX8_joy_27 : DLi mX8_joy 27 3 28 := Or.inl ⟨3, by decide +kernel, rfl, rfl⟩
theorem dX8_joy_28 : DLi mX8_joy 28 4 30 := Or.inr ⟨by decide +kernel, rfl⟩
theorem dX8_joy_30 : D0 mX8_joy 30 (.invokevirtual 210) 3 33 := ⟨by decide +kernel, rfl⟩
theorem dX8_joy_33 : DLa mX8_joy 33 0 34 := Or.inl ⟨0, by decide +kernel, rfl, rfl⟩
theorem dX8_joy_34 : D0 mX8_joy 34 (.getfield 59) 3 37 := ⟨by decide +kernel, rfl⟩
theorem dX8_joy_37 : DKi mX8_joy 37 (nI 8) 39 := Or.inr (Or.inl ⟨8, by decide +kernel, by decide, rfl⟩)
theorem dX8_joy_39 : DLi mX8_joy 39 1 40 := Or.inl ⟨1, by decide +kernel, rfl, rfl⟩
theorem dX8_joy_40 : D0 mX8_joy 40 (.imul) 1 41 := ⟨by decide +kernel, rfl⟩
theorem dX8_joy_41 : DLi mX8_joy 41 2 42 := Or.inl ⟨2, by decide +kernel, rfl, rfl⟩
theorem dX8_joy_42 : D0 mX8_joy 42 (.iadd) 1 43 := ⟨by decide +kernel, rfl⟩
theorem dX8_joy_43 : D0 mX8_joy 43 (.iaload) 1 44 := ⟨by decide +kernel, rfl⟩
theorem dX8_joy_44 : D0 mX8_joy 44 (.ireturn) 1 45 := ⟨by decide +kernel, rfl⟩
theorem dX8_swap_0 : DLi mX8_swap 0 1 1 := Or.inl ⟨1, by decide +kernel, rfl, rfl⟩
theorem dX8_swap_1 : DLi mX8_swap 1 2 2 := Or.inl ⟨2, by decide +kernel, rfl, rfl⟩
theorem dX8_swap_2 : D0 mX8_swap 2 (.invokestatic 166) 3 5 := ⟨by decide +kernel, rfl⟩
theorem dX8_swap_5 : DFne mX8_swap 5 11 8 := ⟨6, by decide +kernel, by decide, rfl⟩
theorem dX8_swap_8 : DKi mX8_swap 8 ((-2)) 10 := Or.inr (Or.inl ⟨(-2), by decide +kernel, by decide, rfl⟩)
theorem dX8_swap_10 : D0 mX8_swap 10 (.ireturn) 1 11 := ⟨by decide +kernel, rfl⟩
theorem dX8_swap_11 : DLa mX8_swap 11 0 12 := Or.inl ⟨0, by decide +kernel, rfl, rfl⟩
theorem dX8_swap_12 : DLi mX8_swap 12 1 13 := Or.inl ⟨1, by decide +kernel, rfl, rfl⟩
theorem dX8_swap_13 : DLi mX8_swap 13 2 14 := Or.inl ⟨2, by decide +kernel, rfl, rfl⟩
theorem dX8_swap_14 : D0 mX8_swap 14 (.invokevirtual 210) 3 17 := ⟨by decide +kernel, rfl⟩
theorem dX8_swap_17 : DKi mX8_swap 17 (nI 0) 18 := Or.inl ⟨0, by decide +kernel, by decide, rfl⟩
theorem dX8_swap_18 : DSi mX8_swap 18 3 19 := ⟨by decide, Or.inl ⟨3, by decide +kernel, rfl, rfl⟩⟩
theorem dX8_swap_19 : DKi mX8_swap 19 (nI 1) 20 := Or.inl ⟨1, by decide +kernel, by decide, rfl⟩
theorem dX8_swap_20 : DSi mX8_swap 20 4 22 := ⟨by decide, Or.inr ⟨by decide +kernel, rfl⟩⟩
theorem dX8_swap_22 : DLi mX8_swap 22 4 24 := Or.inr ⟨by decide +kernel, rfl⟩
theorem dX8_swap_24 : DFeq mX8_swap 24 212 27 := ⟨188, by decide +kernel, by decide, rfl⟩
theorem dX8_swap_27 : DKi mX8_swap 27 (nI 0) 28 := Or.inl ⟨0, by decide +kernel, by decide, rfl⟩
theorem dX8_swap_28 : DSi mX8_swap 28 4 30 := ⟨by decide, Or.inr ⟨by decide +kernel, rfl⟩⟩
theorem dX8_swap_30 : DKi mX8_swap 30 (nI 0) 31 := Or.inl ⟨0, by decide +kernel, by decide, rfl⟩
theorem dX8_swap_31 : DSi mX8_swap 31 5 33 := ⟨by decide, Or.inr ⟨by decide +kernel, rfl⟩⟩
theorem dX8_swap_33 : DLi mX8_swap 33 5 35 := Or.inr ⟨by decide +kernel, rfl⟩
theorem dX8_swap_35 : DKi mX8_swap 35 (nI 8) 37 := Or.inr (Or.inl ⟨8, by decide +kernel, by decide, rfl⟩)
theorem dX8_swap_37 : DCge mX8_swap 37 209 40 := ⟨172, by decide +kernel, by decide, rfl⟩
theorem dX8_swap_40 : DLi mX8_swap 40 4 42 := Or.inr ⟨by decide +kernel, rfl⟩
theorem dX8_swap_42 : DFne mX8_swap 42 209 45 := ⟨167, by decide +kernel, by decide, rfl⟩
theorem dX8_swap_45 : DLi mX8_swap 45 5 47 := Or.inr ⟨by decide +kernel, rfl⟩
theorem dX8_swap_47 : DKi mX8_swap 47 (nI 1) 48 := Or.inl ⟨1, by decide +kernel, by decide, rfl⟩
theorem dX8_swap_48 : D0 mX8_swap 48 (.iadd) 1 49 := ⟨by decide +kernel, rfl⟩
theorem dX8_swap_49 : DSi mX8_swap 49 6 51 := ⟨by decide, Or.inr ⟨by decide +kernel, rfl⟩⟩
theorem dX8_swap_51 : DLi mX8_swap 51 6 53 := Or.inr ⟨by decide +kernel, rfl⟩
theorem dX8_swap_53 : DKi mX8_swap 53 (nI 8) 55 := Or.inr (Or.inl ⟨8, by decide +kernel, by decide, rfl⟩)
theorem dX8_swap_55 : DCge mX8_swap 55 203 58 := ⟨148, by decide +kernel, by decide, rfl⟩
theorem dX8_swap_58 : DLi mX8_swap 58 4 60 := Or.inr ⟨by decide +kernel, rfl⟩
theorem dX8_swap_60 : DFne mX8_swap 60 203 63 := ⟨143, by decide +kernel, by decide, rfl⟩
theorem dX8_swap_63 : DLa mX8_swap 63 0 64 := Or.inl ⟨0, by decide +kernel, rfl, rfl⟩
theorem dX8_swap_64 : D0 mX8_swap 64 (.getfield 59) 3 67 := ⟨by decide +kernel, rfl⟩
theorem dX8_swap_67 : DKi mX8_swap 67 (nI 8) 69 := Or.inr (Or.inl ⟨8, by decide +kernel, by decide, rfl⟩)
theorem dX8_swap_69 : DLi mX8_swap 69 5 71 := Or.inr ⟨by decide +kernel, rfl⟩
theorem dX8_swap_71 : D0 mX8_swap 71 (.imul) 1 72 := ⟨by decide +kernel, rfl⟩
theorem dX8_swap_72 : DLa mX8_swap 72 0 73 := Or.inl ⟨0, by decide +kernel, rfl, rfl⟩
theorem dX8_swap_73 : D0 mX8_swap 73 (.getfield 56) 3 76 := ⟨by decide +kernel, rfl⟩
theorem dX8_swap_76 : DLi mX8_swap 76 6 78 := Or.inr ⟨by decide +kernel, rfl⟩
theorem dX8_swap_78 : D0 mX8_swap 78 (.iaload) 1 79 := ⟨by decide +kernel, rfl⟩
theorem dX8_swap_79 : D0 mX8_swap 79 (.iadd) 1 80 := ⟨by decide +kernel, rfl⟩
theorem dX8_swap_80 : D0 mX8_swap 80 (.iaload) 1 81 := ⟨by decide +kernel, rfl⟩
theorem dX8_swap_81 : DLa mX8_swap 81 0 82 := Or.inl ⟨0, by decide +kernel, rfl, rfl⟩
theorem dX8_swap_82 : D0 mX8_swap 82 (.getfield 59) 3 85 := ⟨by decide +kernel, rfl⟩
theorem dX8_swap_85 : DKi mX8_swap 85 (nI 8) 87 := Or.inr (Or.inl ⟨8, by decide +kernel, by decide, rfl⟩)
theorem dX8_swap_87 : DLi mX8_swap 87 5 89 := Or.inr ⟨by decide +kernel, rfl⟩
theorem dX8_swap_89 : D0 mX8_swap 89 (.imul) 1 90 := ⟨by decide +kernel, rfl⟩
theorem dX8_swap_90 : DLa mX8_swap 90 0 91 := Or.inl ⟨0, by decide +kernel, rfl, rfl⟩
theorem dX8_swap_91 : D0 mX8_swap 91 (.getfield 56) 3 94 := ⟨by decide +kernel, rfl⟩
theorem dX8_swap_94 : DLi mX8_swap 94 5 96 := Or.inr ⟨by decide +kernel, rfl⟩
theorem dX8_swap_96 : D0 mX8_swap 96 (.iaload) 1 97 := ⟨by decide +kernel, rfl⟩
theorem dX8_swap_97 : D0 mX8_swap 97 (.iadd) 1 98 := ⟨by decide +kernel, rfl⟩
theorem dX8_swap_98 : D0 mX8_swap 98 (.iaload) 1 99 := ⟨by decide +kernel, rfl⟩
theorem dX8_swap_99 : D0 mX8_swap 99 (.isub) 1 100 := ⟨by decide +kernel, rfl⟩
theorem dX8_swap_100 : DSi mX8_swap 100 7 102 := ⟨by decide, Or.inr ⟨by decide +kernel, rfl⟩⟩
theorem dX8_swap_102 : DLa mX8_swap 102 0 103 := Or.inl ⟨0, by decide +kernel, rfl, rfl⟩
theorem dX8_swap_103 : D0 mX8_swap 103 (.getfield 59) 3 106 := ⟨by decide +kernel, rfl⟩
theorem dX8_swap_106 : DKi mX8_swap 106 (nI 8) 108 := Or.inr (Or.inl ⟨8, by decide +kernel, by decide, rfl⟩)
theorem dX8_swap_108 : DLi mX8_swap 108 6 110 := Or.inr ⟨by decide +kernel, rfl⟩
theorem dX8_swap_110 : D0 mX8_swap 110 (.imul) 1 111 := ⟨by decide +kernel, rfl⟩
theorem dX8_swap_111 : DLa mX8_swap 111 0 112 := Or.inl ⟨0, by decide +kernel, rfl, rfl⟩
theorem dX8_swap_112 : D0 mX8_swap 112 (.getfield 56) 3 115 := ⟨by decide +kernel, rfl⟩
theorem dX8_swap_115 : DLi mX8_swap 115 5 117 := Or.inr ⟨by decide +kernel, rfl⟩
theorem dX8_swap_117 : D0 mX8_swap 117 (.iaload) 1 118 := ⟨by decide +kernel, rfl⟩
theorem dX8_swap_118 : D0 mX8_swap 118 (.iadd) 1 119 := ⟨by decide +kernel, rfl⟩
theorem dX8_swap_119 : D0 mX8_swap 119 (.iaload) 1 120 := ⟨by decide +kernel, rfl⟩
theorem dX8_swap_120 : DLa mX8_swap 120 0 121 := Or.inl ⟨0, by decide +kernel, rfl, rfl⟩
theorem dX8_swap_121 : D0 mX8_swap 121 (.getfield 59) 3 124 := ⟨by decide +kernel, rfl⟩
theorem dX8_swap_124 : DKi mX8_swap 124 (nI 8) 126 := Or.inr (Or.inl ⟨8, by decide +kernel, by decide, rfl⟩)
theorem dX8_swap_126 : DLi mX8_swap 126 6 128 := Or.inr ⟨by decide +kernel, rfl⟩
theorem dX8_swap_128 : D0 mX8_swap 128 (.imul) 1 129 := ⟨by decide +kernel, rfl⟩
theorem dX8_swap_129 : DLa mX8_swap 129 0 130 := Or.inl ⟨0, by decide +kernel, rfl, rfl⟩
theorem dX8_swap_130 : D0 mX8_swap 130 (.getfield 56) 3 133 := ⟨by decide +kernel, rfl⟩
theorem dX8_swap_133 : DLi mX8_swap 133 6 135 := Or.inr ⟨by decide +kernel, rfl⟩
theorem dX8_swap_135 : D0 mX8_swap 135 (.iaload) 1 136 := ⟨by decide +kernel, rfl⟩
theorem dX8_swap_136 : D0 mX8_swap 136 (.iadd) 1 137 := ⟨by decide +kernel, rfl⟩
theorem dX8_swap_137 : D0 mX8_swap 137 (.iaload) 1 138 := ⟨by decide +kernel, rfl⟩
theorem dX8_swap_138 : D0 mX8_swap 138 (.isub) 1 139 := ⟨by decide +kernel, rfl⟩
theorem dX8_swap_139 : DSi mX8_swap 139 8 141 := ⟨by decide, Or.inr ⟨by decide +kernel, rfl⟩⟩
theorem dX8_swap_141 : DLi mX8_swap 141 7 143 := Or.inr ⟨by decide +kernel, rfl⟩
theorem dX8_swap_143 : DFlt mX8_swap 143 197 146 := ⟨54, by decide +kernel, by decide, rfl⟩
theorem dX8_swap_146 : DLi mX8_swap 146 8 148 := Or.inr ⟨by decide +kernel, rfl⟩
theorem dX8_swap_148 : DFlt mX8_swap 148 197 151 := ⟨49, by decide +kernel, by decide, rfl⟩
theorem dX8_swap_151 : DLi mX8_swap 151 7 153 := Or.inr ⟨by decide +kernel, rfl⟩
theorem dX8_swap_153 : DLi mX8_swap 153 8 155 := Or.inr ⟨by decide +kernel, rfl⟩
theorem dX8_swap_155 : D0 mX8_swap 155 (.iadd) 1 156 := ⟨by decide +kernel, rfl⟩
theorem dX8_swap_156 : DFle mX8_swap 156 197 159 := ⟨41, by decide +kernel, by decide, rfl⟩
theorem dX8_swap_159 : DLa mX8_swap 159 0 160 := Or.inl ⟨0, by decide +kernel, rfl, rfl⟩
theorem dX8_swap_160 : D0 mX8_swap 160 (.getfield 56) 3 163 := ⟨by decide +kernel, rfl⟩
theorem dX8_swap_163 : DLi mX8_swap 163 5 165 := Or.inr ⟨by decide +kernel, rfl⟩
theorem dX8_swap_165 : D0 mX8_swap 165 (.iaload) 1 166 := ⟨by decide +kernel, rfl⟩
theorem dX8_swap_166 : DSi mX8_swap 166 9 168 := ⟨by decide, Or.inr ⟨by decide +kernel, rfl⟩⟩
theorem dX8_swap_168 : DLa mX8_swap 168 0 169 := Or.inl ⟨0, by decide +kernel, rfl, rfl⟩
theorem dX8_swap_169 : D0 mX8_swap 169 (.getfield 56) 3 172 := ⟨by decide +kernel, rfl⟩
theorem dX8_swap_172 : DLi mX8_swap 172 5 174 := Or.inr ⟨by decide +kernel, rfl⟩
theorem dX8_swap_174 : DLa mX8_swap 174 0 175 := Or.inl ⟨0, by decide +kernel, rfl, rfl⟩
theorem dX8_swap_175 : D0 mX8_swap 175 (.getfield 56) 3 178 := ⟨by decide +kernel, rfl⟩
theorem dX8_swap_178 : DLi mX8_swap 178 6 180 := Or.inr ⟨by decide +kernel, rfl⟩
theorem dX8_swap_180 : D0 mX8_swap 180 (.iaload) 1 181 := ⟨by decide +kernel, rfl⟩
theorem dX8_swap_181 : D0 mX8_swap 181 (.iastore) 1 182 := ⟨by decide +kernel, rfl⟩
theorem dX8_swap_182 : DLa mX8_swap 182 0 183 := Or.inl ⟨0, by decide +kernel, rfl, rfl⟩
theorem dX8_swap_183 : D0 mX8_swap 183 (.getfield 56) 3 186 := ⟨by decide +kernel, rfl⟩
theorem dX8_swap_186 : DLi mX8_swap 186 6 188 := Or.inr ⟨by decide +kernel, rfl⟩
theorem dX8_swap_188 : DLi mX8_swap 188 9 190 := Or.inr ⟨by decide +kernel, rfl⟩
theorem dX8_swap_190 : D0 mX8_swap 190 (.iastore) 1 191 := ⟨by decide +kernel, rfl⟩
theorem dX8_swap_191 : DIn mX8_swap 191 3 (nI 1) 194 := ⟨by decide, 1, by decide +kernel, by decide, rfl⟩
theorem dX8_swap_194 : DKi mX8_swap 194 (nI 1) 195 := Or.inl ⟨1, by decide +kernel, by decide, rfl⟩
theorem dX8_swap_195 : DSi mX8_swap 195 4 197 := ⟨by decide, Or.inr ⟨by decide +kernel, rfl⟩⟩
theorem dX8_swap_197 : DIn mX8_swap 197 6 (nI 1) 200 := ⟨by decide, 1, by decide +kernel, by decide, rfl⟩
theorem dX8_swap_200 : DG mX8_swap 200 51 := ⟨(-149), by decide +kernel, by decide⟩
theorem dX8_swap_203 : DIn mX8_swap 203 5 (nI 1) 206 := ⟨by decide, 1, by decide +kernel, by decide, rfl⟩
theorem dX8_swap_206 : DG mX8_swap 206 33 := ⟨(-173), by decide +kernel, by decide⟩
theorem dX8_swap_209 : DG mX8_swap 209 22 := ⟨(-187), by decide +kernel, by decide⟩
theorem dX8_swap_212 : DLi mX8_swap 212 3 213 := Or.inl ⟨3, by decide +kernel, rfl, rfl⟩
theorem dX8_swap_213 : D0 mX8_swap 213 (.ireturn) 1 214 := ⟨by decide +kernel, rfl⟩
theorem dX8_ones_0 : DKi mX8_ones 0 (nI 0) 1 := Or.inl ⟨0, by decide +kernel, by decide, rfl⟩
theorem dX8_ones_1 : DSi mX8_ones 1 1 2 := ⟨by decide, Or.inl ⟨1, by decide +kernel, rfl, rfl⟩⟩
theorem dX8_ones_2 : DKi mX8_ones 2 (nI 0) 3 := Or.inl ⟨0, by decide +kernel, by decide, rfl⟩
theorem dX8_ones_3 : DSi mX8_ones 3 2 4 := ⟨by decide, Or.inl ⟨2, by decide +kernel, rfl, rfl⟩⟩
theorem dX8_ones_4 : DLi mX8_ones 4 2 5 := Or.inl ⟨2, by decide +kernel, rfl, rfl⟩
theorem dX8_ones_5 : DKi mX8_ones 5 (nI 12) 7 := Or.inr (Or.inl ⟨12, by decide +kernel, by decide, rfl⟩)
theorem dX8_ones_7 : DCge mX8_ones 7 24 10 := ⟨17, by decide +kernel, by decide, rfl⟩
theorem dX8_ones_10 : DLi mX8_ones 10 1 11 := Or.inl ⟨1, by decide +kernel, rfl, rfl⟩
theorem dX8_ones_11 : DLi mX8_ones 11 0 12 := Or.inl ⟨0, by decide +kernel, rfl, rfl⟩
theorem dX8_ones_12 : DLi mX8_ones 12 2 13 := Or.inl ⟨2, by decide +kernel, rfl, rfl⟩
theorem dX8_ones_13 : D0 mX8_ones 13 (.ishr) 1 14 := ⟨by decide +kernel, rfl⟩
theorem dX8_ones_14 : DKi mX8_ones 14 (nI 1) 15 := Or.inl ⟨1, by decide +kernel, by decide, rfl⟩
theorem dX8_ones_15 : D0 mX8_ones 15 (.iand) 1 16 := ⟨by decide +kernel, rfl⟩
theorem dX8_ones_16 : D0 mX8_ones 16 (.iadd) 1 17 := ⟨by decide +kernel, rfl⟩
theorem dX8_ones_17 : DSi mX8_ones 17 1 18 := ⟨by decide, Or.inl ⟨1, by decide +kernel, rfl, rfl⟩⟩
theorem dX8_ones_18 : DIn mX8_ones 18 2 (nI 1) 21 := ⟨by decide, 1, by decide +kernel, by decide, rfl⟩
theorem dX8_ones_21 : DG mX8_ones 21 4 := ⟨(-17), by decide +kernel, by decide⟩
theorem dX8_ones_24 : DLi mX8_ones 24 1 25 := Or.inl ⟨1, by decide +kernel, rfl, rfl⟩
theorem dX8_ones_25 : D0 mX8_ones 25 (.ireturn) 1 26 := ⟨by decide +kernel, rfl⟩
theorem dX8_bestOf_0 : DLa mX8_bestOf 0 0 1 := Or.inl ⟨0, by decide +kernel, rfl, rfl⟩
theorem dX8_bestOf_1 : DLi mX8_bestOf 1 2 2 := Or.inl ⟨2, by decide +kernel, rfl, rfl⟩
theorem dX8_bestOf_2 : DLi mX8_bestOf 2 3 3 := Or.inl ⟨3, by decide +kernel, rfl, rfl⟩
theorem dX8_bestOf_3 : D0 mX8_bestOf 3 (.invokevirtual 210) 3 6 := ⟨by decide +kernel, rfl⟩
theorem dX8_bestOf_6 : DKi mX8_bestOf 6 (nI 255) 9 := Or.inr (Or.inr (Or.inl ⟨255, by decide +kernel, by decide, rfl⟩))
theorem dX8_bestOf_9 : DSi mX8_bestOf 9 4 11 := ⟨by decide, Or.inr ⟨by decide +kernel, rfl⟩⟩
theorem dX8_bestOf_11 : DLi mX8_bestOf 11 4 13 := Or.inr ⟨by decide +kernel, rfl⟩
theorem dX8_bestOf_13 : DFlt mX8_bestOf 13 122 16 := ⟨109, by decide +kernel, by decide, rfl⟩
theorem dX8_bestOf_16 : DLi mX8_bestOf 16 4 18 := Or.inr ⟨by decide +kernel, rfl⟩
theorem dX8_bestOf_18 : D0 mX8_bestOf 18 (.invokestatic 213) 3 21 := ⟨by decide +kernel, rfl⟩
theorem dX8_bestOf_21 : DSi mX8_bestOf 21 5 23 := ⟨by decide, Or.inr ⟨by decide +kernel, rfl⟩⟩
theorem dX8_bestOf_23 : DKi mX8_bestOf 23 (nI 0) 24 := Or.inl ⟨0, by decide +kernel, by decide, rfl⟩
theorem dX8_bestOf_24 : DSi mX8_bestOf 24 6 26 := ⟨by decide, Or.inr ⟨by decide +kernel, rfl⟩⟩
theorem dX8_bestOf_26 : DKi mX8_bestOf 26 (nI 0) 27 := Or.inl ⟨0, by decide +kernel, by decide, rfl⟩
theorem dX8_bestOf_27 : DSi mX8_bestOf 27 7 29 := ⟨by decide, Or.inr ⟨by decide +kernel, rfl⟩⟩
theorem dX8_bestOf_29 : DLi mX8_bestOf 29 7 31 := Or.inr ⟨by decide +kernel, rfl⟩
theorem dX8_bestOf_31 : DKi mX8_bestOf 31 (nI 8) 33 := Or.inr (Or.inl ⟨8, by decide +kernel, by decide, rfl⟩)
theorem dX8_bestOf_33 : DCge mX8_bestOf 33 107 36 := ⟨74, by decide +kernel, by decide, rfl⟩
theorem dX8_bestOf_36 : DLi mX8_bestOf 36 5 38 := Or.inr ⟨by decide +kernel, rfl⟩
theorem dX8_bestOf_38 : DKi mX8_bestOf 38 (nI 8) 40 := Or.inr (Or.inl ⟨8, by decide +kernel, by decide, rfl⟩)
theorem dX8_bestOf_40 : DCge mX8_bestOf 40 107 43 := ⟨67, by decide +kernel, by decide, rfl⟩
theorem dX8_bestOf_43 : DLi mX8_bestOf 43 4 45 := Or.inr ⟨by decide +kernel, rfl⟩
theorem dX8_bestOf_45 : DLi mX8_bestOf 45 7 47 := Or.inr ⟨by decide +kernel, rfl⟩
theorem dX8_bestOf_47 : D0 mX8_bestOf 47 (.invokestatic 216) 3 50 := ⟨by decide +kernel, rfl⟩
theorem dX8_bestOf_50 : DFeq mX8_bestOf 50 57 53 := ⟨7, by decide +kernel, by decide, rfl⟩
theorem dX8_bestOf_53 : DKi mX8_bestOf 53 ((-1)) 54 := Or.inl ⟨(-1), by decide +kernel, by decide, rfl⟩
theorem dX8_bestOf_54 : DG mX8_bestOf 54 83 := ⟨29, by decide +kernel, by decide⟩
theorem dX8_bestOf_57 : DLa mX8_bestOf 57 0 58 := Or.inl ⟨0, by decide +kernel, rfl, rfl⟩
theorem dX8_bestOf_58 : D0 mX8_bestOf 58 (.getfield 59) 3 61 := ⟨by decide +kernel, rfl⟩
theorem dX8_bestOf_61 : DKi mX8_bestOf 61 (nI 8) 63 := Or.inr (Or.inl ⟨8, by decide +kernel, by decide, rfl⟩)
theorem dX8_bestOf_63 : DLi mX8_bestOf 63 5 65 := Or.inr ⟨by decide +kernel, rfl⟩
theorem dX8_bestOf_65 : D0 mX8_bestOf 65 (.imul) 1 66 := ⟨by decide +kernel, rfl⟩
theorem dX8_bestOf_66 : DLi mX8_bestOf 66 7 68 := Or.inr ⟨by decide +kernel, rfl⟩
theorem dX8_bestOf_68 : D0 mX8_bestOf 68 (.iadd) 1 69 := ⟨by decide +kernel, rfl⟩
theorem dX8_bestOf_69 : D0 mX8_bestOf 69 (.iaload) 1 70 := ⟨by decide +kernel, rfl⟩
theorem dX8_bestOf_70 : DLa mX8_bestOf 70 0 71 := Or.inl ⟨0, by decide +kernel, rfl, rfl⟩
theorem dX8_bestOf_71 : D0 mX8_bestOf 71 (.getfield 62) 3 74 := ⟨by decide +kernel, rfl⟩
theorem dX8_bestOf_74 : DLi mX8_bestOf 74 4 76 := Or.inr ⟨by decide +kernel, rfl⟩
theorem dX8_bestOf_76 : DKi mX8_bestOf 76 (nI 1) 77 := Or.inl ⟨1, by decide +kernel, by decide, rfl⟩
theorem dX8_bestOf_77 : DLi mX8_bestOf 77 7 79 := Or.inr ⟨by decide +kernel, rfl⟩
theorem dX8_bestOf_79 : D0 mX8_bestOf 79 (.ishl) 1 80 := ⟨by decide +kernel, rfl⟩
theorem dX8_bestOf_80 : D0 mX8_bestOf 80 (.ior) 1 81 := ⟨by decide +kernel, rfl⟩
theorem dX8_bestOf_81 : D0 mX8_bestOf 81 (.iaload) 1 82 := ⟨by decide +kernel, rfl⟩
theorem dX8_bestOf_82 : D0 mX8_bestOf 82 (.iadd) 1 83 := ⟨by decide +kernel, rfl⟩
theorem dX8_bestOf_83 : DSi mX8_bestOf 83 8 85 := ⟨by decide, Or.inr ⟨by decide +kernel, rfl⟩⟩
theorem dX8_bestOf_85 : DLi mX8_bestOf 85 8 87 := Or.inr ⟨by decide +kernel, rfl⟩
theorem dX8_bestOf_87 : DLi mX8_bestOf 87 6 89 := Or.inr ⟨by decide +kernel, rfl⟩
theorem dX8_bestOf_89 : DCle mX8_bestOf 89 97 92 := ⟨8, by decide +kernel, by decide, rfl⟩
theorem dX8_bestOf_92 : DLi mX8_bestOf 92 8 94 := Or.inr ⟨by decide +kernel, rfl⟩
theorem dX8_bestOf_94 : DG mX8_bestOf 94 99 := ⟨5, by decide +kernel, by decide⟩
theorem dX8_bestOf_97 : DLi mX8_bestOf 97 6 99 := Or.inr ⟨by decide +kernel, rfl⟩
theorem dX8_bestOf_99 : DSi mX8_bestOf 99 6 101 := ⟨by decide, Or.inr ⟨by decide +kernel, rfl⟩⟩
theorem dX8_bestOf_101 : DIn mX8_bestOf 101 7 (nI 1) 104 := ⟨by decide, 1, by decide +kernel, by decide, rfl⟩
theorem dX8_bestOf_104 : DG mX8_bestOf 104 29 := ⟨(-75), by decide +kernel, by decide⟩
theorem dX8_bestOf_107 : DLa mX8_bestOf 107 0 108 := Or.inl ⟨0, by decide +kernel, rfl, rfl⟩
theorem dX8_bestOf_108 : D0 mX8_bestOf 108 (.getfield 62) 3 111 := ⟨by decide +kernel, rfl⟩
theorem dX8_bestOf_111 : DLi mX8_bestOf 111 4 113 := Or.inr ⟨by decide +kernel, rfl⟩
theorem dX8_bestOf_113 : DLi mX8_bestOf 113 6 115 := Or.inr ⟨by decide +kernel, rfl⟩
theorem dX8_bestOf_115 : D0 mX8_bestOf 115 (.iastore) 1 116 := ⟨by decide +kernel, rfl⟩
theorem dX8_bestOf_116 : DIn mX8_bestOf 116 4 ((-1)) 119 := ⟨by decide, (-1), by decide +kernel, by decide, rfl⟩
theorem dX8_bestOf_119 : DG mX8_bestOf 119 11 := ⟨(-108), by decide +kernel, by decide⟩
theorem dX8_bestOf_122 : DLi mX8_bestOf 122 1 123 := Or.inl ⟨1, by decide +kernel, rfl, rfl⟩
theorem dX8_bestOf_123 : DKi mX8_bestOf 123 ((-1)) 124 := Or.inl ⟨(-1), by decide +kernel, by decide, rfl⟩
theorem dX8_bestOf_124 : DCne mX8_bestOf 124 134 127 := ⟨10, by decide +kernel, by decide, rfl⟩
theorem dX8_bestOf_127 : DLa mX8_bestOf 127 0 128 := Or.inl ⟨0, by decide +kernel, rfl, rfl⟩
theorem dX8_bestOf_128 : D0 mX8_bestOf 128 (.getfield 62) 3 131 := ⟨by decide +kernel, rfl⟩
theorem dX8_bestOf_131 : DKi mX8_bestOf 131 (nI 0) 132 := Or.inl ⟨0, by decide +kernel, by decide, rfl⟩
theorem dX8_bestOf_132 : D0 mX8_bestOf 132 (.iaload) 1 133 := ⟨by decide +kernel, rfl⟩
theorem dX8_bestOf_133 : D0 mX8_bestOf 133 (.ireturn) 1 134 := ⟨by decide +kernel, rfl⟩
theorem dX8_bestOf_134 : DKi mX8_bestOf 134 (nI 0) 135 := Or.inl ⟨0, by decide +kernel, by decide, rfl⟩
theorem dX8_bestOf_135 : DSi mX8_bestOf 135 4 137 := ⟨by decide, Or.inr ⟨by decide +kernel, rfl⟩⟩
theorem dX8_bestOf_137 : DKi mX8_bestOf 137 ((-1)) 138 := Or.inl ⟨(-1), by decide +kernel, by decide, rfl⟩
theorem dX8_bestOf_138 : DSi mX8_bestOf 138 5 140 := ⟨by decide, Or.inr ⟨by decide +kernel, rfl⟩⟩
theorem dX8_bestOf_140 : DKi mX8_bestOf 140 (nI 0) 141 := Or.inl ⟨0, by decide +kernel, by decide, rfl⟩
theorem dX8_bestOf_141 : DSi mX8_bestOf 141 6 143 := ⟨by decide, Or.inr ⟨by decide +kernel, rfl⟩⟩
theorem dX8_bestOf_143 : DLi mX8_bestOf 143 6 145 := Or.inr ⟨by decide +kernel, rfl⟩
theorem dX8_bestOf_145 : DLi mX8_bestOf 145 1 146 := Or.inl ⟨1, by decide +kernel, rfl, rfl⟩
theorem dX8_bestOf_146 : DCgt mX8_bestOf 146 243 149 := ⟨97, by decide +kernel, by decide, rfl⟩
theorem dX8_bestOf_149 : DKi mX8_bestOf 149 ((-1)) 150 := Or.inl ⟨(-1), by decide +kernel, by decide, rfl⟩
theorem dX8_bestOf_150 : DSi mX8_bestOf 150 5 152 := ⟨by decide, Or.inr ⟨by decide +kernel, rfl⟩⟩
theorem dX8_bestOf_152 : DKi mX8_bestOf 152 (nI 0) 153 := Or.inl ⟨0, by decide +kernel, by decide, rfl⟩
theorem dX8_bestOf_153 : DSi mX8_bestOf 153 7 155 := ⟨by decide, Or.inr ⟨by decide +kernel, rfl⟩⟩
theorem dX8_bestOf_155 : DLi mX8_bestOf 155 7 157 := Or.inr ⟨by decide +kernel, rfl⟩
theorem dX8_bestOf_157 : DKi mX8_bestOf 157 (nI 8) 159 := Or.inr (Or.inl ⟨8, by decide +kernel, by decide, rfl⟩)
theorem dX8_bestOf_159 : DCge mX8_bestOf 159 228 162 := ⟨69, by decide +kernel, by decide, rfl⟩
theorem dX8_bestOf_162 : DLi mX8_bestOf 162 5 164 := Or.inr ⟨by decide +kernel, rfl⟩
theorem dX8_bestOf_164 : DKi mX8_bestOf 164 ((-1)) 165 := Or.inl ⟨(-1), by decide +kernel, by decide, rfl⟩
theorem dX8_bestOf_165 : DCne mX8_bestOf 165 228 168 := ⟨63, by decide +kernel, by decide, rfl⟩
theorem dX8_bestOf_168 : DLi mX8_bestOf 168 4 170 := Or.inr ⟨by decide +kernel, rfl⟩
theorem dX8_bestOf_170 : DLi mX8_bestOf 170 7 172 := Or.inr ⟨by decide +kernel, rfl⟩
theorem dX8_bestOf_172 : D0 mX8_bestOf 172 (.invokestatic 216) 3 175 := ⟨by decide +kernel, rfl⟩
theorem dX8_bestOf_175 : DFne mX8_bestOf 175 219 178 := ⟨44, by decide +kernel, by decide, rfl⟩
theorem dX8_bestOf_178 : DLa mX8_bestOf 178 0 179 := Or.inl ⟨0, by decide +kernel, rfl, rfl⟩
theorem dX8_bestOf_179 : D0 mX8_bestOf 179 (.getfield 59) 3 182 := ⟨by decide +kernel, rfl⟩
theorem dX8_bestOf_182 : DKi mX8_bestOf 182 (nI 8) 184 := Or.inr (Or.inl ⟨8, by decide +kernel, by decide, rfl⟩)
theorem dX8_bestOf_184 : DLi mX8_bestOf 184 6 186 := Or.inr ⟨by decide +kernel, rfl⟩
theorem dX8_bestOf_186 : D0 mX8_bestOf 186 (.imul) 1 187 := ⟨by decide +kernel, rfl⟩
theorem dX8_bestOf_187 : DLi mX8_bestOf 187 7 189 := Or.inr ⟨by decide +kernel, rfl⟩
theorem dX8_bestOf_189 : D0 mX8_bestOf 189 (.iadd) 1 190 := ⟨by decide +kernel, rfl⟩
theorem dX8_bestOf_190 : D0 mX8_bestOf 190 (.iaload) 1 191 := ⟨by decide +kernel, rfl⟩
theorem dX8_bestOf_191 : DLa mX8_bestOf 191 0 192 := Or.inl ⟨0, by decide +kernel, rfl, rfl⟩
theorem dX8_bestOf_192 : D0 mX8_bestOf 192 (.getfield 62) 3 195 := ⟨by decide +kernel, rfl⟩
theorem dX8_bestOf_195 : DLi mX8_bestOf 195 4 197 := Or.inr ⟨by decide +kernel, rfl⟩
theorem dX8_bestOf_197 : DKi mX8_bestOf 197 (nI 1) 198 := Or.inl ⟨1, by decide +kernel, by decide, rfl⟩
theorem dX8_bestOf_198 : DLi mX8_bestOf 198 7 200 := Or.inr ⟨by decide +kernel, rfl⟩
theorem dX8_bestOf_200 : D0 mX8_bestOf 200 (.ishl) 1 201 := ⟨by decide +kernel, rfl⟩
theorem dX8_bestOf_201 : D0 mX8_bestOf 201 (.ior) 1 202 := ⟨by decide +kernel, rfl⟩
theorem dX8_bestOf_202 : D0 mX8_bestOf 202 (.iaload) 1 203 := ⟨by decide +kernel, rfl⟩
theorem dX8_bestOf_203 : D0 mX8_bestOf 203 (.iadd) 1 204 := ⟨by decide +kernel, rfl⟩
theorem dX8_bestOf_204 : DLa mX8_bestOf 204 0 205 := Or.inl ⟨0, by decide +kernel, rfl, rfl⟩
theorem dX8_bestOf_205 : D0 mX8_bestOf 205 (.getfield 62) 3 208 := ⟨by decide +kernel, rfl⟩
theorem dX8_bestOf_208 : DLi mX8_bestOf 208 4 210 := Or.inr ⟨by decide +kernel, rfl⟩
theorem dX8_bestOf_210 : D0 mX8_bestOf 210 (.iaload) 1 211 := ⟨by decide +kernel, rfl⟩
theorem dX8_bestOf_211 : DCne mX8_bestOf 211 219 214 := ⟨8, by decide +kernel, by decide, rfl⟩
theorem dX8_bestOf_214 : DLi mX8_bestOf 214 7 216 := Or.inr ⟨by decide +kernel, rfl⟩
theorem dX8_bestOf_216 : DG mX8_bestOf 216 220 := ⟨4, by decide +kernel, by decide⟩
theorem dX8_bestOf_219 : DKi mX8_bestOf 219 ((-1)) 220 := Or.inl ⟨(-1), by decide +kernel, by decide, rfl⟩
theorem dX8_bestOf_220 : DSi mX8_bestOf 220 5 222 := ⟨by decide, Or.inr ⟨by decide +kernel, rfl⟩⟩
theorem dX8_bestOf_222 : DIn mX8_bestOf 222 7 (nI 1) 225 := ⟨by decide, 1, by decide +kernel, by decide, rfl⟩
theorem dX8_bestOf_225 : DG mX8_bestOf 225 155 := ⟨(-70), by decide +kernel, by decide⟩
theorem dX8_bestOf_228 : DLi mX8_bestOf 228 4 230 := Or.inr ⟨by decide +kernel, rfl⟩
theorem dX8_bestOf_230 : DKi mX8_bestOf 230 (nI 1) 231 := Or.inl ⟨1, by decide +kernel, by decide, rfl⟩
theorem dX8_bestOf_231 : DLi mX8_bestOf 231 5 233 := Or.inr ⟨by decide +kernel, rfl⟩
theorem dX8_bestOf_233 : D0 mX8_bestOf 233 (.ishl) 1 234 := ⟨by decide +kernel, rfl⟩
theorem dX8_bestOf_234 : D0 mX8_bestOf 234 (.ior) 1 235 := ⟨by decide +kernel, rfl⟩
theorem dX8_bestOf_235 : DSi mX8_bestOf 235 4 237 := ⟨by decide, Or.inr ⟨by decide +kernel, rfl⟩⟩
theorem dX8_bestOf_237 : DIn mX8_bestOf 237 6 (nI 1) 240 := ⟨by decide, 1, by decide +kernel, by decide, rfl⟩
theorem dX8_bestOf_240 : DG mX8_bestOf 240 143 := ⟨(-97), by decide +kernel, by decide⟩
theorem dX8_bestOf_243 : DLi mX8_bestOf 243 5 245 := Or.inr ⟨by decide +kernel, rfl⟩
theorem dX8_bestOf_245 : D0 mX8_bestOf 245 (.ireturn) 1 246 := ⟨by decide +kernel, rfl⟩
theorem dX8_best_0 : DLi mX8_best 0 1 1 := Or.inl ⟨1, by decide +kernel, rfl, rfl⟩
theorem dX8_best_1 : DKi mX8_best 1 ((-1)) 2 := Or.inl ⟨(-1), by decide +kernel, by decide, rfl⟩
theorem dX8_best_2 : DCeq mX8_best 2 12 5 := ⟨10, by decide +kernel, by decide, rfl⟩
theorem dX8_best_5 : DLi mX8_best 5 1 6 := Or.inl ⟨1, by decide +kernel, rfl, rfl⟩
theorem dX8_best_6 : D0 mX8_best 6 (.invokestatic 118) 3 9 := ⟨by decide +kernel, rfl⟩
theorem dX8_best_9 : DFeq mX8_best 9 30 12 := ⟨21, by decide +kernel, by decide, rfl⟩
theorem dX8_best_12 : DLi mX8_best 12 2 13 := Or.inl ⟨2, by decide +kernel, rfl, rfl⟩
theorem dX8_best_13 : DLi mX8_best 13 3 14 := Or.inl ⟨3, by decide +kernel, rfl, rfl⟩
theorem dX8_best_14 : D0 mX8_best 14 (.invokestatic 166) 3 17 := ⟨by decide +kernel, rfl⟩
theorem dX8_best_17 : DFeq mX8_best 17 30 20 := ⟨13, by decide +kernel, by decide, rfl⟩
theorem dX8_best_20 : DLa mX8_best 20 0 21 := Or.inl ⟨0, by decide +kernel, rfl, rfl⟩
theorem dX8_best_21 : DLi mX8_best 21 1 22 := Or.inl ⟨1, by decide +kernel, rfl, rfl⟩
theorem dX8_best_22 : DLi mX8_best 22 2 23 := Or.inl ⟨2, by decide +kernel, rfl, rfl⟩
theorem dX8_best_23 : DLi mX8_best 23 3 24 := Or.inl ⟨3, by decide +kernel, rfl, rfl⟩
theorem dX8_best_24 : D0 mX8_best 24 (.invokevirtual 219) 3 27 := ⟨by decide +kernel, rfl⟩
theorem dX8_best_27 : DG mX8_best 27 32 := ⟨5, by decide +kernel, by decide⟩
theorem dX8_best_30 : DKi mX8_best 30 ((-2)) 32 := Or.inr (Or.inl ⟨(-2), by decide +kernel, by decide, rfl⟩)
theorem dX8_best_32 : D0 mX8_best 32 (.ireturn) 1 33 := ⟨by decide +kernel, rfl⟩
theorem dX8_envyOf_0 : DLa mX8_envyOf 0 0 1 := Or.inl ⟨0, by decide +kernel, rfl, rfl⟩
theorem dX8_envyOf_1 : DLi mX8_envyOf 1 1 2 := Or.inl ⟨1, by decide +kernel, rfl, rfl⟩
theorem dX8_envyOf_2 : DLi mX8_envyOf 2 2 3 := Or.inl ⟨2, by decide +kernel, rfl, rfl⟩
theorem dX8_envyOf_3 : D0 mX8_envyOf 3 (.invokevirtual 210) 3 6 := ⟨by decide +kernel, rfl⟩
theorem dX8_envyOf_6 : DKi mX8_envyOf 6 (nI 0) 7 := Or.inl ⟨0, by decide +kernel, by decide, rfl⟩
theorem dX8_envyOf_7 : DSi mX8_envyOf 7 3 8 := ⟨by decide, Or.inl ⟨3, by decide +kernel, rfl, rfl⟩⟩
theorem dX8_envyOf_8 : DKi mX8_envyOf 8 (nI 0) 9 := Or.inl ⟨0, by decide +kernel, by decide, rfl⟩
theorem dX8_envyOf_9 : DSi mX8_envyOf 9 4 11 := ⟨by decide, Or.inr ⟨by decide +kernel, rfl⟩⟩
theorem dX8_envyOf_11 : DLi mX8_envyOf 11 4 13 := Or.inr ⟨by decide +kernel, rfl⟩
theorem dX8_envyOf_13 : DKi mX8_envyOf 13 (nI 8) 15 := Or.inr (Or.inl ⟨8, by decide +kernel, by decide, rfl⟩)
theorem dX8_envyOf_15 : DCge mX8_envyOf 15 102 18 := ⟨87, by decide +kernel, by decide, rfl⟩
theorem dX8_envyOf_18 : DKi mX8_envyOf 18 (nI 0) 19 := Or.inl ⟨0, by decide +kernel, by decide, rfl⟩
theorem dX8_envyOf_19 : DSi mX8_envyOf 19 5 21 := ⟨by decide, Or.inr ⟨by decide +kernel, rfl⟩⟩
theorem dX8_envyOf_21 : DKi mX8_envyOf 21 (nI 0) 22 := Or.inl ⟨0, by decide +kernel, by decide, rfl⟩
theorem dX8_envyOf_22 : DSi mX8_envyOf 22 6 24 := ⟨by decide, Or.inr ⟨by decide +kernel, rfl⟩⟩
theorem dX8_envyOf_24 : DLi mX8_envyOf 24 6 26 := Or.inr ⟨by decide +kernel, rfl⟩
theorem dX8_envyOf_26 : DKi mX8_envyOf 26 (nI 8) 28 := Or.inr (Or.inl ⟨8, by decide +kernel, by decide, rfl⟩)
theorem dX8_envyOf_28 : DCge mX8_envyOf 28 83 31 := ⟨55, by decide +kernel, by decide, rfl⟩
theorem dX8_envyOf_31 : DLi mX8_envyOf 31 5 33 := Or.inr ⟨by decide +kernel, rfl⟩
theorem dX8_envyOf_33 : DFne mX8_envyOf 33 70 36 := ⟨37, by decide +kernel, by decide, rfl⟩
theorem dX8_envyOf_36 : DLa mX8_envyOf 36 0 37 := Or.inl ⟨0, by decide +kernel, rfl, rfl⟩
theorem dX8_envyOf_37 : D0 mX8_envyOf 37 (.getfield 59) 3 40 := ⟨by decide +kernel, rfl⟩
theorem dX8_envyOf_40 : DKi mX8_envyOf 40 (nI 8) 42 := Or.inr (Or.inl ⟨8, by decide +kernel, by decide, rfl⟩)
theorem dX8_envyOf_42 : DLi mX8_envyOf 42 4 44 := Or.inr ⟨by decide +kernel, rfl⟩
theorem dX8_envyOf_44 : D0 mX8_envyOf 44 (.imul) 1 45 := ⟨by decide +kernel, rfl⟩
theorem dX8_envyOf_45 : DLi mX8_envyOf 45 6 47 := Or.inr ⟨by decide +kernel, rfl⟩
theorem dX8_envyOf_47 : D0 mX8_envyOf 47 (.iadd) 1 48 := ⟨by decide +kernel, rfl⟩
theorem dX8_envyOf_48 : D0 mX8_envyOf 48 (.iaload) 1 49 := ⟨by decide +kernel, rfl⟩
theorem dX8_envyOf_49 : DLa mX8_envyOf 49 0 50 := Or.inl ⟨0, by decide +kernel, rfl, rfl⟩
theorem dX8_envyOf_50 : D0 mX8_envyOf 50 (.getfield 59) 3 53 := ⟨by decide +kernel, rfl⟩
theorem dX8_envyOf_53 : DKi mX8_envyOf 53 (nI 8) 55 := Or.inr (Or.inl ⟨8, by decide +kernel, by decide, rfl⟩)
theorem dX8_envyOf_55 : DLi mX8_envyOf 55 4 57 := Or.inr ⟨by decide +kernel, rfl⟩
theorem dX8_envyOf_57 : D0 mX8_envyOf 57 (.imul) 1 58 := ⟨by decide +kernel, rfl⟩
theorem dX8_envyOf_58 : DLa mX8_envyOf 58 0 59 := Or.inl ⟨0, by decide +kernel, rfl, rfl⟩
theorem dX8_envyOf_59 : D0 mX8_envyOf 59 (.getfield 56) 3 62 := ⟨by decide +kernel, rfl⟩
theorem dX8_envyOf_62 : DLi mX8_envyOf 62 4 64 := Or.inr ⟨by decide +kernel, rfl⟩
theorem dX8_envyOf_64 : D0 mX8_envyOf 64 (.iaload) 1 65 := ⟨by decide +kernel, rfl⟩
theorem dX8_envyOf_65 : D0 mX8_envyOf 65 (.iadd) 1 66 := ⟨by decide +kernel, rfl⟩
theorem dX8_envyOf_66 : D0 mX8_envyOf 66 (.iaload) 1 67 := ⟨by decide +kernel, rfl⟩
theorem dX8_envyOf_67 : DCle mX8_envyOf 67 74 70 := ⟨7, by decide +kernel, by decide, rfl⟩
theorem dX8_envyOf_70 : DKi mX8_envyOf 70 (nI 1) 71 := Or.inl ⟨1, by decide +kernel, by decide, rfl⟩
theorem dX8_envyOf_71 : DG mX8_envyOf 71 75 := ⟨4, by decide +kernel, by decide⟩
theorem dX8_envyOf_74 : DKi mX8_envyOf 74 (nI 0) 75 := Or.inl ⟨0, by decide +kernel, by decide, rfl⟩
theorem dX8_envyOf_75 : DSi mX8_envyOf 75 5 77 := ⟨by decide, Or.inr ⟨by decide +kernel, rfl⟩⟩
theorem dX8_envyOf_77 : DIn mX8_envyOf 77 6 (nI 1) 80 := ⟨by decide, 1, by decide +kernel, by decide, rfl⟩
theorem dX8_envyOf_80 : DG mX8_envyOf 80 24 := ⟨(-56), by decide +kernel, by decide⟩
theorem dX8_envyOf_83 : DLi mX8_envyOf 83 3 84 := Or.inl ⟨3, by decide +kernel, rfl, rfl⟩
theorem dX8_envyOf_84 : DLi mX8_envyOf 84 5 86 := Or.inr ⟨by decide +kernel, rfl⟩
theorem dX8_envyOf_86 : DFeq mX8_envyOf 86 93 89 := ⟨7, by decide +kernel, by decide, rfl⟩
theorem dX8_envyOf_89 : DKi mX8_envyOf 89 (nI 1) 90 := Or.inl ⟨1, by decide +kernel, by decide, rfl⟩
theorem dX8_envyOf_90 : DG mX8_envyOf 90 94 := ⟨4, by decide +kernel, by decide⟩
theorem dX8_envyOf_93 : DKi mX8_envyOf 93 (nI 0) 94 := Or.inl ⟨0, by decide +kernel, by decide, rfl⟩
theorem dX8_envyOf_94 : D0 mX8_envyOf 94 (.iadd) 1 95 := ⟨by decide +kernel, rfl⟩
theorem dX8_envyOf_95 : DSi mX8_envyOf 95 3 96 := ⟨by decide, Or.inl ⟨3, by decide +kernel, rfl, rfl⟩⟩
theorem dX8_envyOf_96 : DIn mX8_envyOf 96 4 (nI 1) 99 := ⟨by decide, 1, by decide +kernel, by decide, rfl⟩
theorem dX8_envyOf_99 : DG mX8_envyOf 99 11 := ⟨(-88), by decide +kernel, by decide⟩
theorem dX8_envyOf_102 : DLi mX8_envyOf 102 3 103 := Or.inl ⟨3, by decide +kernel, rfl, rfl⟩
theorem dX8_envyOf_103 : D0 mX8_envyOf 103 (.ireturn) 1 104 := ⟨by decide +kernel, rfl⟩
theorem dX8_envy_0 : DLi mX8_envy 0 1 1 := Or.inl ⟨1, by decide +kernel, rfl, rfl⟩
theorem dX8_envy_1 : DLi mX8_envy 1 2 2 := Or.inl ⟨2, by decide +kernel, rfl, rfl⟩
theorem dX8_envy_2 : D0 mX8_envy 2 (.invokestatic 166) 3 5 := ⟨by decide +kernel, rfl⟩
theorem dX8_envy_5 : DFeq mX8_envy 5 17 8 := ⟨12, by decide +kernel, by decide, rfl⟩
theorem dX8_envy_8 : DLa mX8_envy 8 0 9 := Or.inl ⟨0, by decide +kernel, rfl, rfl⟩
theorem dX8_envy_9 : DLi mX8_envy 9 1 10 := Or.inl ⟨1, by decide +kernel, rfl, rfl⟩
theorem dX8_envy_10 : DLi mX8_envy 10 2 11 := Or.inl ⟨2, by decide +kernel, rfl, rfl⟩
theorem dX8_envy_11 : D0 mX8_envy 11 (.invokevirtual 222) 3 14 := ⟨by decide +kernel, rfl⟩
theorem dX8_envy_14 : DG mX8_envy 14 19 := ⟨5, by decide +kernel, by decide⟩
theorem dX8_envy_17 : DKi mX8_envy 17 ((-2)) 19 := Or.inr (Or.inl ⟨(-2), by decide +kernel, by decide, rfl⟩)
theorem dX8_envy_19 : D0 mX8_envy 19 (.ireturn) 1 20 := ⟨by decide +kernel, rfl⟩
theorem dX8_reaped_0 : DLi mX8_reaped 0 1 1 := Or.inl ⟨1, by decide +kernel, rfl, rfl⟩
theorem dX8_reaped_1 : D0 mX8_reaped 1 (.invokestatic 118) 3 4 := ⟨by decide +kernel, rfl⟩
theorem dX8_reaped_4 : DFeq mX8_reaped 4 17 7 := ⟨13, by decide +kernel, by decide, rfl⟩
theorem dX8_reaped_7 : DLi mX8_reaped 7 2 8 := Or.inl ⟨2, by decide +kernel, rfl, rfl⟩
theorem dX8_reaped_8 : DKi mX8_reaped 8 ((-1)) 9 := Or.inl ⟨(-1), by decide +kernel, by decide, rfl⟩
theorem dX8_reaped_9 : DKi mX8_reaped 9 (nI 12) 11 := Or.inr (Or.inl ⟨12, by decide +kernel, by decide, rfl⟩)
theorem dX8_reaped_11 : D0 mX8_reaped 11 (.invokestatic 89) 3 14 := ⟨by decide +kernel, rfl⟩
theorem dX8_reaped_14 : DFne mX8_reaped 14 20 17 := ⟨6, by decide +kernel, by decide, rfl⟩
theorem dX8_reaped_17 : DKi mX8_reaped 17 ((-5)) 19 := Or.inr (Or.inl ⟨(-5), by decide +kernel, by decide, rfl⟩)
theorem dX8_reaped_19 : D0 mX8_reaped 19 (.ireturn) 1 20 := ⟨by decide +kernel, rfl⟩
theorem dX8_reaped_20 : DLa mX8_reaped 20 0 21 := Or.inl ⟨0, by decide +kernel, rfl, rfl⟩
theorem dX8_reaped_21 : D0 mX8_reaped 21 (.getfield 65) 3 24 := ⟨by decide +kernel, rfl⟩
theorem dX8_reaped_24 : DLi mX8_reaped 24 1 25 := Or.inl ⟨1, by decide +kernel, rfl, rfl⟩
theorem dX8_reaped_25 : D0 mX8_reaped 25 (.iaload) 1 26 := ⟨by decide +kernel, rfl⟩
theorem dX8_reaped_26 : DSi mX8_reaped 26 3 27 := ⟨by decide, Or.inl ⟨3, by decide +kernel, rfl, rfl⟩⟩
theorem dX8_reaped_27 : DLa mX8_reaped 27 0 28 := Or.inl ⟨0, by decide +kernel, rfl, rfl⟩
theorem dX8_reaped_28 : D0 mX8_reaped 28 (.getfield 65) 3 31 := ⟨by decide +kernel, rfl⟩
theorem dX8_reaped_31 : DLi mX8_reaped 31 1 32 := Or.inl ⟨1, by decide +kernel, rfl, rfl⟩
theorem dX8_reaped_32 : DLi mX8_reaped 32 2 33 := Or.inl ⟨2, by decide +kernel, rfl, rfl⟩
theorem dX8_reaped_33 : D0 mX8_reaped 33 (.iastore) 1 34 := ⟨by decide +kernel, rfl⟩
theorem dX8_reaped_34 : DLi mX8_reaped 34 3 35 := Or.inl ⟨3, by decide +kernel, rfl, rfl⟩
theorem dX8_reaped_35 : D0 mX8_reaped 35 (.ireturn) 1 36 := ⟨by decide +kernel, rfl⟩
theorem dX8_historyOf_0 : DLa mX8_historyOf 0 0 1 := Or.inl ⟨0, by decide +kernel, rfl, rfl⟩
theorem dX8_historyOf_1 : D0 mX8_historyOf 1 (.invokevirtual 145) 3 4 := ⟨by decide +kernel, rfl⟩
theorem dX8_historyOf_4 : DKi mX8_historyOf 4 (nI 0) 5 := Or.inl ⟨0, by decide +kernel, by decide, rfl⟩
theorem dX8_historyOf_5 : DSi mX8_historyOf 5 4 7 := ⟨by decide, Or.inr ⟨by decide +kernel, rfl⟩⟩
theorem dX8_historyOf_7 : DKi mX8_historyOf 7 ((-1)) 8 := Or.inl ⟨(-1), by decide +kernel, by decide, rfl⟩
theorem dX8_historyOf_8 : DSi mX8_historyOf 8 5 10 := ⟨by decide, Or.inr ⟨by decide +kernel, rfl⟩⟩
theorem dX8_historyOf_10 : DKi mX8_historyOf 10 (nI 1) 11 := Or.inl ⟨1, by decide +kernel, by decide, rfl⟩
theorem dX8_historyOf_11 : DLi mX8_historyOf 11 2 12 := Or.inl ⟨2, by decide +kernel, rfl, rfl⟩
theorem dX8_historyOf_12 : D0 mX8_historyOf 12 (.ishl) 1 13 := ⟨by decide +kernel, rfl⟩
theorem dX8_historyOf_13 : DKi mX8_historyOf 13 (nI 1) 14 := Or.inl ⟨1, by decide +kernel, by decide, rfl⟩
theorem dX8_historyOf_14 : D0 mX8_historyOf 14 (.isub) 1 15 := ⟨by decide +kernel, rfl⟩
theorem dX8_historyOf_15 : DSi mX8_historyOf 15 6 17 := ⟨by decide, Or.inr ⟨by decide +kernel, rfl⟩⟩
theorem dX8_historyOf_17 : DLi mX8_historyOf 17 6 19 := Or.inr ⟨by decide +kernel, rfl⟩
theorem dX8_historyOf_19 : DSi mX8_historyOf 19 7 21 := ⟨by decide, Or.inr ⟨by decide +kernel, rfl⟩⟩
theorem dX8_historyOf_21 : DKi mX8_historyOf 21 (nI 0) 22 := Or.inl ⟨0, by decide +kernel, by decide, rfl⟩
theorem dX8_historyOf_22 : DSi mX8_historyOf 22 8 24 := ⟨by decide, Or.inr ⟨by decide +kernel, rfl⟩⟩
theorem dX8_historyOf_24 : DLi mX8_historyOf 24 8 26 := Or.inr ⟨by decide +kernel, rfl⟩
theorem dX8_historyOf_26 : DKi mX8_historyOf 26 (nI 1) 27 := Or.inl ⟨1, by decide +kernel, by decide, rfl⟩
theorem dX8_historyOf_27 : DLi mX8_historyOf 27 2 28 := Or.inl ⟨2, by decide +kernel, rfl, rfl⟩
theorem dX8_historyOf_28 : D0 mX8_historyOf 28 (.ishl) 1 29 := ⟨by decide +kernel, rfl⟩
theorem dX8_historyOf_29 : DCge mX8_historyOf 29 290 32 := ⟨261, by decide +kernel, by decide, rfl⟩
theorem dX8_historyOf_32 : DLi mX8_historyOf 32 1 33 := Or.inl ⟨1, by decide +kernel, rfl, rfl⟩
theorem dX8_historyOf_33 : DFne mX8_historyOf 33 45 36 := ⟨12, by decide +kernel, by decide, rfl⟩
theorem dX8_historyOf_36 : DLa mX8_historyOf 36 0 37 := Or.inl ⟨0, by decide +kernel, rfl, rfl⟩
theorem dX8_historyOf_37 : D0 mX8_historyOf 37 (.getfield 37) 3 40 := ⟨by decide +kernel, rfl⟩
theorem dX8_historyOf_40 : DKi mX8_historyOf 40 (nI 2) 41 := Or.inl ⟨2, by decide +kernel, by decide, rfl⟩
theorem dX8_historyOf_41 : D0 mX8_historyOf 41 (.iaload) 1 42 := ⟨by decide +kernel, rfl⟩
theorem dX8_historyOf_42 : DG mX8_historyOf 42 53 := ⟨11, by decide +kernel, by decide⟩
theorem dX8_historyOf_45 : DLa mX8_historyOf 45 0 46 := Or.inl ⟨0, by decide +kernel, rfl, rfl⟩
theorem dX8_historyOf_46 : D0 mX8_historyOf 46 (.getfield 40) 3 49 := ⟨by decide +kernel, rfl⟩
theorem dX8_historyOf_49 : DLi mX8_historyOf 49 1 50 := Or.inl ⟨1, by decide +kernel, rfl, rfl⟩
theorem dX8_historyOf_50 : DKi mX8_historyOf 50 (nI 1) 51 := Or.inl ⟨1, by decide +kernel, by decide, rfl⟩
theorem dX8_historyOf_51 : D0 mX8_historyOf 51 (.isub) 1 52 := ⟨by decide +kernel, rfl⟩
theorem dX8_historyOf_52 : D0 mX8_historyOf 52 (.iaload) 1 53 := ⟨by decide +kernel, rfl⟩
theorem dX8_historyOf_53 : DSi mX8_historyOf 53 9 55 := ⟨by decide, Or.inr ⟨by decide +kernel, rfl⟩⟩
theorem dX8_historyOf_55 : DKi mX8_historyOf 55 (nI 0) 56 := Or.inl ⟨0, by decide +kernel, by decide, rfl⟩
theorem dX8_historyOf_56 : DSi mX8_historyOf 56 10 58 := ⟨by decide, Or.inr ⟨by decide +kernel, rfl⟩⟩
theorem dX8_historyOf_58 : DLi mX8_historyOf 58 10 60 := Or.inr ⟨by decide +kernel, rfl⟩
theorem dX8_historyOf_60 : DKi mX8_historyOf 60 (nI 8) 62 := Or.inr (Or.inl ⟨8, by decide +kernel, by decide, rfl⟩)
theorem dX8_historyOf_62 : DCge mX8_historyOf 62 79 65 := ⟨17, by decide +kernel, by decide, rfl⟩
theorem dX8_historyOf_65 : DLa mX8_historyOf 65 0 66 := Or.inl ⟨0, by decide +kernel, rfl, rfl⟩
theorem dX8_historyOf_66 : D0 mX8_historyOf 66 (.getfield 68) 3 69 := ⟨by decide +kernel, rfl⟩
theorem dX8_historyOf_69 : DLi mX8_historyOf 69 10 71 := Or.inr ⟨by decide +kernel, rfl⟩
theorem dX8_historyOf_71 : DKi mX8_historyOf 71 (nI 0) 72 := Or.inl ⟨0, by decide +kernel, by decide, rfl⟩
theorem dX8_historyOf_72 : D0 mX8_historyOf 72 (.iastore) 1 73 := ⟨by decide +kernel, rfl⟩
theorem dX8_historyOf_73 : DIn mX8_historyOf 73 10 (nI 1) 76 := ⟨by decide, 1, by decide +kernel, by decide, rfl⟩
theorem dX8_historyOf_76 : DG mX8_historyOf 76 58 := ⟨(-18), by decide +kernel, by decide⟩
theorem dX8_historyOf_79 : DKi mX8_historyOf 79 (nI 0) 80 := Or.inl ⟨0, by decide +kernel, by decide, rfl⟩
theorem dX8_historyOf_80 : DSi mX8_historyOf 80 10 82 := ⟨by decide, Or.inr ⟨by decide +kernel, rfl⟩⟩
theorem dX8_historyOf_82 : DLi mX8_historyOf 82 10 84 := Or.inr ⟨by decide +kernel, rfl⟩
theorem dX8_historyOf_84 : DLi mX8_historyOf 84 2 85 := Or.inl ⟨2, by decide +kernel, rfl, rfl⟩
theorem dX8_historyOf_85 : DCge mX8_historyOf 85 154 88 := ⟨69, by decide +kernel, by decide, rfl⟩
theorem dX8_historyOf_88 : DLi mX8_historyOf 88 9 90 := Or.inr ⟨by decide +kernel, rfl⟩
theorem dX8_historyOf_90 : DLi mX8_historyOf 90 8 92 := Or.inr ⟨by decide +kernel, rfl⟩
theorem dX8_historyOf_92 : DLi mX8_historyOf 92 10 94 := Or.inr ⟨by decide +kernel, rfl⟩
theorem dX8_historyOf_94 : D0 mX8_historyOf 94 (.ishr) 1 95 := ⟨by decide +kernel, rfl⟩
theorem dX8_historyOf_95 : DKi mX8_historyOf 95 (nI 1) 96 := Or.inl ⟨1, by decide +kernel, by decide, rfl⟩
theorem dX8_historyOf_96 : D0 mX8_historyOf 96 (.iand) 1 97 := ⟨by decide +kernel, rfl⟩
theorem dX8_historyOf_97 : D0 mX8_historyOf 97 (.iadd) 1 98 := ⟨by decide +kernel, rfl⟩
theorem dX8_historyOf_98 : DSi mX8_historyOf 98 9 100 := ⟨by decide, Or.inr ⟨by decide +kernel, rfl⟩⟩
theorem dX8_historyOf_100 : DKi mX8_historyOf 100 (nI 0) 101 := Or.inl ⟨0, by decide +kernel, by decide, rfl⟩
theorem dX8_historyOf_101 : DSi mX8_historyOf 101 11 103 := ⟨by decide, Or.inr ⟨by decide +kernel, rfl⟩⟩
theorem dX8_historyOf_103 : DLi mX8_historyOf 103 11 105 := Or.inr ⟨by decide +kernel, rfl⟩
theorem dX8_historyOf_105 : DKi mX8_historyOf 105 (nI 8) 107 := Or.inr (Or.inl ⟨8, by decide +kernel, by decide, rfl⟩)
theorem dX8_historyOf_107 : DCge mX8_historyOf 107 148 110 := ⟨41, by decide +kernel, by decide, rfl⟩
theorem dX8_historyOf_110 : DLa mX8_historyOf 110 0 111 := Or.inl ⟨0, by decide +kernel, rfl, rfl⟩
theorem dX8_historyOf_111 : D0 mX8_historyOf 111 (.getfield 68) 3 114 := ⟨by decide +kernel, rfl⟩
theorem dX8_historyOf_114 : DLi mX8_historyOf 114 11 116 := Or.inr ⟨by decide +kernel, rfl⟩
theorem dX8_historyOf_116 : D0 mX8_historyOf 116 (.dup2) 1 117 := ⟨by decide +kernel, rfl⟩
theorem dX8_historyOf_117 : D0 mX8_historyOf 117 (.iaload) 1 118 := ⟨by decide +kernel, rfl⟩
theorem dX8_historyOf_118 : DLa mX8_historyOf 118 0 119 := Or.inl ⟨0, by decide +kernel, rfl, rfl⟩
theorem dX8_historyOf_119 : D0 mX8_historyOf 119 (.getfield 13) 3 122 := ⟨by decide +kernel, rfl⟩
theorem dX8_historyOf_122 : DLi mX8_historyOf 122 11 124 := Or.inr ⟨by decide +kernel, rfl⟩
theorem dX8_historyOf_124 : DLi mX8_historyOf 124 9 126 := Or.inr ⟨by decide +kernel, rfl⟩
theorem dX8_historyOf_126 : D0 mX8_historyOf 126 (.iadd) 1 127 := ⟨by decide +kernel, rfl⟩
theorem dX8_historyOf_127 : DKi mX8_historyOf 127 (nI 8) 129 := Or.inr (Or.inl ⟨8, by decide +kernel, by decide, rfl⟩)
theorem dX8_historyOf_129 : D0 mX8_historyOf 129 (.irem) 1 130 := ⟨by decide +kernel, rfl⟩
theorem dX8_historyOf_130 : D0 mX8_historyOf 130 (.iaload) 1 131 := ⟨by decide +kernel, rfl⟩
theorem dX8_historyOf_131 : DKi mX8_historyOf 131 (nI 4) 132 := Or.inl ⟨4, by decide +kernel, by decide, rfl⟩
theorem dX8_historyOf_132 : DCne mX8_historyOf 132 139 135 := ⟨7, by decide +kernel, by decide, rfl⟩
theorem dX8_historyOf_135 : DKi mX8_historyOf 135 (nI 1) 136 := Or.inl ⟨1, by decide +kernel, by decide, rfl⟩
theorem dX8_historyOf_136 : DG mX8_historyOf 136 140 := ⟨4, by decide +kernel, by decide⟩
theorem dX8_historyOf_139 : DKi mX8_historyOf 139 (nI 0) 140 := Or.inl ⟨0, by decide +kernel, by decide, rfl⟩
theorem dX8_historyOf_140 : D0 mX8_historyOf 140 (.iadd) 1 141 := ⟨by decide +kernel, rfl⟩
theorem dX8_historyOf_141 : D0 mX8_historyOf 141 (.iastore) 1 142 := ⟨by decide +kernel, rfl⟩
theorem dX8_historyOf_142 : DIn mX8_historyOf 142 11 (nI 1) 145 := ⟨by decide, 1, by decide +kernel, by decide, rfl⟩
theorem dX8_historyOf_145 : DG mX8_historyOf 145 103 := ⟨(-42), by decide +kernel, by decide⟩
theorem dX8_historyOf_148 : DIn mX8_historyOf 148 10 (nI 1) 151 := ⟨by decide, 1, by decide +kernel, by decide, rfl⟩
theorem dX8_historyOf_151 : DG mX8_historyOf 151 82 := ⟨(-69), by decide +kernel, by decide⟩
theorem dX8_historyOf_154 : DKi mX8_historyOf 154 (nI 1) 155 := Or.inl ⟨1, by decide +kernel, by decide, rfl⟩
theorem dX8_historyOf_155 : DSi mX8_historyOf 155 10 157 := ⟨by decide, Or.inr ⟨by decide +kernel, rfl⟩⟩
theorem dX8_historyOf_157 : DKi mX8_historyOf 157 (nI 0) 158 := Or.inl ⟨0, by decide +kernel, by decide, rfl⟩
theorem dX8_historyOf_158 : DSi mX8_historyOf 158 11 160 := ⟨by decide, Or.inr ⟨by decide +kernel, rfl⟩⟩
theorem dX8_historyOf_160 : DLi mX8_historyOf 160 11 162 := Or.inr ⟨by decide +kernel, rfl⟩
theorem dX8_historyOf_162 : DKi mX8_historyOf 162 (nI 8) 164 := Or.inr (Or.inl ⟨8, by decide +kernel, by decide, rfl⟩)
theorem dX8_historyOf_164 : DCge mX8_historyOf 164 213 167 := ⟨49, by decide +kernel, by decide, rfl⟩
theorem dX8_historyOf_167 : DLi mX8_historyOf 167 10 169 := Or.inr ⟨by decide +kernel, rfl⟩
theorem dX8_historyOf_169 : DFeq mX8_historyOf 169 204 172 := ⟨35, by decide +kernel, by decide, rfl⟩
theorem dX8_historyOf_172 : DLa mX8_historyOf 172 0 173 := Or.inl ⟨0, by decide +kernel, rfl, rfl⟩
theorem dX8_historyOf_173 : D0 mX8_historyOf 173 (.getfield 65) 3 176 := ⟨by decide +kernel, rfl⟩
theorem dX8_historyOf_176 : DLi mX8_historyOf 176 11 178 := Or.inr ⟨by decide +kernel, rfl⟩
theorem dX8_historyOf_178 : D0 mX8_historyOf 178 (.iaload) 1 179 := ⟨by decide +kernel, rfl⟩
theorem dX8_historyOf_179 : DKi mX8_historyOf 179 ((-1)) 180 := Or.inl ⟨(-1), by decide +kernel, by decide, rfl⟩
theorem dX8_historyOf_180 : DCeq mX8_historyOf 180 200 183 := ⟨20, by decide +kernel, by decide, rfl⟩
theorem dX8_historyOf_183 : DLa mX8_historyOf 183 0 184 := Or.inl ⟨0, by decide +kernel, rfl, rfl⟩
theorem dX8_historyOf_184 : D0 mX8_historyOf 184 (.getfield 65) 3 187 := ⟨by decide +kernel, rfl⟩
theorem dX8_historyOf_187 : DLi mX8_historyOf 187 11 189 := Or.inr ⟨by decide +kernel, rfl⟩
theorem dX8_historyOf_189 : D0 mX8_historyOf 189 (.iaload) 1 190 := ⟨by decide +kernel, rfl⟩
theorem dX8_historyOf_190 : DLa mX8_historyOf 190 0 191 := Or.inl ⟨0, by decide +kernel, rfl, rfl⟩
theorem dX8_historyOf_191 : D0 mX8_historyOf 191 (.getfield 68) 3 194 := ⟨by decide +kernel, rfl⟩
theorem dX8_historyOf_194 : DLi mX8_historyOf 194 11 196 := Or.inr ⟨by decide +kernel, rfl⟩
theorem dX8_historyOf_196 : D0 mX8_historyOf 196 (.iaload) 1 197 := ⟨by decide +kernel, rfl⟩
theorem dX8_historyOf_197 : DCne mX8_historyOf 197 204 200 := ⟨7, by decide +kernel, by decide, rfl⟩
theorem dX8_historyOf_200 : DKi mX8_historyOf 200 (nI 1) 201 := Or.inl ⟨1, by decide +kernel, by decide, rfl⟩
theorem dX8_historyOf_201 : DG mX8_historyOf 201 205 := ⟨4, by decide +kernel, by decide⟩
theorem dX8_historyOf_204 : DKi mX8_historyOf 204 (nI 0) 205 := Or.inl ⟨0, by decide +kernel, by decide, rfl⟩
theorem dX8_historyOf_205 : DSi mX8_historyOf 205 10 207 := ⟨by decide, Or.inr ⟨by decide +kernel, rfl⟩⟩
theorem dX8_historyOf_207 : DIn mX8_historyOf 207 11 (nI 1) 210 := ⟨by decide, 1, by decide +kernel, by decide, rfl⟩
theorem dX8_historyOf_210 : DG mX8_historyOf 210 160 := ⟨(-50), by decide +kernel, by decide⟩
theorem dX8_historyOf_213 : DLi mX8_historyOf 213 4 215 := Or.inr ⟨by decide +kernel, rfl⟩
theorem dX8_historyOf_215 : DLi mX8_historyOf 215 10 217 := Or.inr ⟨by decide +kernel, rfl⟩
theorem dX8_historyOf_217 : DFeq mX8_historyOf 217 224 220 := ⟨7, by decide +kernel, by decide, rfl⟩
theorem dX8_historyOf_220 : DKi mX8_historyOf 220 (nI 1) 221 := Or.inl ⟨1, by decide +kernel, by decide, rfl⟩
theorem dX8_historyOf_221 : DG mX8_historyOf 221 225 := ⟨4, by decide +kernel, by decide⟩
theorem dX8_historyOf_224 : DKi mX8_historyOf 224 (nI 0) 225 := Or.inl ⟨0, by decide +kernel, by decide, rfl⟩
theorem dX8_historyOf_225 : D0 mX8_historyOf 225 (.iadd) 1 226 := ⟨by decide +kernel, rfl⟩
theorem dX8_historyOf_226 : DSi mX8_historyOf 226 4 228 := ⟨by decide, Or.inr ⟨by decide +kernel, rfl⟩⟩
theorem dX8_historyOf_228 : DLi mX8_historyOf 228 10 230 := Or.inr ⟨by decide +kernel, rfl⟩
theorem dX8_historyOf_230 : DFeq mX8_historyOf 230 244 233 := ⟨14, by decide +kernel, by decide, rfl⟩
theorem dX8_historyOf_233 : DLi mX8_historyOf 233 5 235 := Or.inr ⟨by decide +kernel, rfl⟩
theorem dX8_historyOf_235 : DKi mX8_historyOf 235 ((-1)) 236 := Or.inl ⟨(-1), by decide +kernel, by decide, rfl⟩
theorem dX8_historyOf_236 : DCne mX8_historyOf 236 244 239 := ⟨8, by decide +kernel, by decide, rfl⟩
theorem dX8_historyOf_239 : DLi mX8_historyOf 239 8 241 := Or.inr ⟨by decide +kernel, rfl⟩
theorem dX8_historyOf_241 : DG mX8_historyOf 241 246 := ⟨5, by decide +kernel, by decide⟩
theorem dX8_historyOf_244 : DLi mX8_historyOf 244 5 246 := Or.inr ⟨by decide +kernel, rfl⟩
theorem dX8_historyOf_246 : DSi mX8_historyOf 246 5 248 := ⟨by decide, Or.inr ⟨by decide +kernel, rfl⟩⟩
theorem dX8_historyOf_248 : DLi mX8_historyOf 248 10 250 := Or.inr ⟨by decide +kernel, rfl⟩
theorem dX8_historyOf_250 : DFeq mX8_historyOf 250 261 253 := ⟨11, by decide +kernel, by decide, rfl⟩
theorem dX8_historyOf_253 : DLi mX8_historyOf 253 6 255 := Or.inr ⟨by decide +kernel, rfl⟩
theorem dX8_historyOf_255 : DLi mX8_historyOf 255 8 257 := Or.inr ⟨by decide +kernel, rfl⟩
theorem dX8_historyOf_257 : D0 mX8_historyOf 257 (.iand) 1 258 := ⟨by decide +kernel, rfl⟩
theorem dX8_historyOf_258 : DG mX8_historyOf 258 263 := ⟨5, by decide +kernel, by decide⟩
theorem dX8_historyOf_261 : DLi mX8_historyOf 261 6 263 := Or.inr ⟨by decide +kernel, rfl⟩
theorem dX8_historyOf_263 : DSi mX8_historyOf 263 6 265 := ⟨by decide, Or.inr ⟨by decide +kernel, rfl⟩⟩
theorem dX8_historyOf_265 : DLi mX8_historyOf 265 10 267 := Or.inr ⟨by decide +kernel, rfl⟩
theorem dX8_historyOf_267 : DFeq mX8_historyOf 267 280 270 := ⟨13, by decide +kernel, by decide, rfl⟩
theorem dX8_historyOf_270 : DLi mX8_historyOf 270 7 272 := Or.inr ⟨by decide +kernel, rfl⟩
theorem dX8_historyOf_272 : DLi mX8_historyOf 272 8 274 := Or.inr ⟨by decide +kernel, rfl⟩
theorem dX8_historyOf_274 : DKi mX8_historyOf 274 ((-1)) 275 := Or.inl ⟨(-1), by decide +kernel, by decide, rfl⟩
theorem dX8_historyOf_275 : D0 mX8_historyOf 275 (.ixor) 1 276 := ⟨by decide +kernel, rfl⟩
theorem dX8_historyOf_276 : D0 mX8_historyOf 276 (.iand) 1 277 := ⟨by decide +kernel, rfl⟩
theorem dX8_historyOf_277 : DG mX8_historyOf 277 282 := ⟨5, by decide +kernel, by decide⟩
theorem dX8_historyOf_280 : DLi mX8_historyOf 280 7 282 := Or.inr ⟨by decide +kernel, rfl⟩
theorem dX8_historyOf_282 : DSi mX8_historyOf 282 7 284 := ⟨by decide, Or.inr ⟨by decide +kernel, rfl⟩⟩
theorem dX8_historyOf_284 : DIn mX8_historyOf 284 8 (nI 1) 287 := ⟨by decide, 1, by decide +kernel, by decide, rfl⟩
theorem dX8_historyOf_287 : DG mX8_historyOf 287 24 := ⟨(-263), by decide +kernel, by decide⟩
theorem dX8_historyOf_290 : DLi mX8_historyOf 290 3 291 := Or.inl ⟨3, by decide +kernel, rfl, rfl⟩
theorem dX8_historyOf_291 : DFne mX8_historyOf 291 299 294 := ⟨8, by decide +kernel, by decide, rfl⟩
theorem dX8_historyOf_294 : DLi mX8_historyOf 294 4 296 := Or.inr ⟨by decide +kernel, rfl⟩
theorem dX8_historyOf_296 : DG mX8_historyOf 296 331 := ⟨35, by decide +kernel, by decide⟩
theorem dX8_historyOf_299 : DLi mX8_historyOf 299 3 300 := Or.inl ⟨3, by decide +kernel, rfl, rfl⟩
theorem dX8_historyOf_300 : DKi mX8_historyOf 300 (nI 1) 301 := Or.inl ⟨1, by decide +kernel, by decide, rfl⟩
theorem dX8_historyOf_301 : DCne mX8_historyOf 301 309 304 := ⟨8, by decide +kernel, by decide, rfl⟩
theorem dX8_historyOf_304 : DLi mX8_historyOf 304 5 306 := Or.inr ⟨by decide +kernel, rfl⟩
theorem dX8_historyOf_306 : DG mX8_historyOf 306 331 := ⟨25, by decide +kernel, by decide⟩
theorem dX8_historyOf_309 : DLi mX8_historyOf 309 4 311 := Or.inr ⟨by decide +kernel, rfl⟩
theorem dX8_historyOf_311 : DFne mX8_historyOf 311 319 314 := ⟨8, by decide +kernel, by decide, rfl⟩
theorem dX8_historyOf_314 : DKi mX8_historyOf 314 ((-3)) 316 := Or.inr (Or.inl ⟨(-3), by decide +kernel, by decide, rfl⟩)
theorem dX8_historyOf_316 : DG mX8_historyOf 316 331 := ⟨15, by decide +kernel, by decide⟩
theorem dX8_historyOf_319 : DLi mX8_historyOf 319 3 320 := Or.inl ⟨3, by decide +kernel, rfl, rfl⟩
theorem dX8_historyOf_320 : DKi mX8_historyOf 320 (nI 2) 321 := Or.inl ⟨2, by decide +kernel, by decide, rfl⟩
theorem dX8_historyOf_321 : DCne mX8_historyOf 321 329 324 := ⟨8, by decide +kernel, by decide, rfl⟩
theorem dX8_historyOf_324 : DLi mX8_historyOf 324 6 326 := Or.inr ⟨by decide +kernel, rfl⟩
theorem dX8_historyOf_326 : DG mX8_historyOf 326 331 := ⟨5, by decide +kernel, by decide⟩
theorem dX8_historyOf_329 : DLi mX8_historyOf 329 7 331 := Or.inr ⟨by decide +kernel, rfl⟩
theorem dX8_historyOf_331 : D0 mX8_historyOf 331 (.ireturn) 1 332 := ⟨by decide +kernel, rfl⟩
end
section
theorem dX8_history_0 : DLi mX8_history 0 1 1 := Or.inl ⟨1, by decide +kernel, rfl, rfl⟩
theorem dX8_history_1 : D0 mX8_history 1 (.invokestatic 148) 3 4 := ⟨by decide +kernel, rfl⟩
theorem dX8_history_4 : DFeq mX8_history 4 44 7 := ⟨40, by decide +kernel, by decide, rfl⟩
theorem dX8_history_7 : DLi mX8_history 7 2 8 := Or.inl ⟨2, by decide +kernel, rfl, rfl⟩
theorem dX8_history_8 : DKi mX8_history 8 (nI 0) 9 := Or.inl ⟨0, by decide +kernel, by decide, rfl⟩
theorem dX8_history_9 : DKi mX8_history 9 (nI 12) 11 := Or.inr (Or.inl ⟨12, by decide +kernel, by decide, rfl⟩)
theorem dX8_history_11 : D0 mX8_history 11 (.invokestatic 89) 3 14 := ⟨by decide +kernel, rfl⟩
theorem dX8_history_14 : DFeq mX8_history 14 44 17 := ⟨30, by decide +kernel, by decide, rfl⟩
theorem dX8_history_17 : DLi mX8_history 17 1 18 := Or.inl ⟨1, by decide +kernel, rfl, rfl⟩
theorem dX8_history_18 : DLi mX8_history 18 2 19 := Or.inl ⟨2, by decide +kernel, rfl, rfl⟩
theorem dX8_history_19 : D0 mX8_history 19 (.iadd) 1 20 := ⟨by decide +kernel, rfl⟩
theorem dX8_history_20 : DKi mX8_history 20 (nI 100) 22 := Or.inr (Or.inl ⟨100, by decide +kernel, by decide, rfl⟩)
theorem dX8_history_22 : DCgt mX8_history 22 44 25 := ⟨22, by decide +kernel, by decide, rfl⟩
theorem dX8_history_25 : DLi mX8_history 25 3 26 := Or.inl ⟨3, by decide +kernel, rfl, rfl⟩
theorem dX8_history_26 : DKi mX8_history 26 (nI 0) 27 := Or.inl ⟨0, by decide +kernel, by decide, rfl⟩
theorem dX8_history_27 : DKi mX8_history 27 (nI 3) 28 := Or.inl ⟨3, by decide +kernel, by decide, rfl⟩
theorem dX8_history_28 : D0 mX8_history 28 (.invokestatic 89) 3 31 := ⟨by decide +kernel, rfl⟩
theorem dX8_history_31 : DFeq mX8_history 31 44 34 := ⟨13, by decide +kernel, by decide, rfl⟩
theorem dX8_history_34 : DLa mX8_history 34 0 35 := Or.inl ⟨0, by decide +kernel, rfl, rfl⟩
theorem dX8_history_35 : DLi mX8_history 35 1 36 := Or.inl ⟨1, by decide +kernel, rfl, rfl⟩
theorem dX8_history_36 : DLi mX8_history 36 2 37 := Or.inl ⟨2, by decide +kernel, rfl, rfl⟩
theorem dX8_history_37 : DLi mX8_history 37 3 38 := Or.inl ⟨3, by decide +kernel, rfl, rfl⟩
theorem dX8_history_38 : D0 mX8_history 38 (.invokevirtual 225) 3 41 := ⟨by decide +kernel, rfl⟩
theorem dX8_history_41 : DG mX8_history 41 46 := ⟨5, by decide +kernel, by decide⟩
theorem dX8_history_44 : DKi mX8_history 44 ((-2)) 46 := Or.inr (Or.inl ⟨(-2), by decide +kernel, by decide, rfl⟩)
theorem dX8_history_46 : D0 mX8_history 46 (.ireturn) 1 47 := ⟨by decide +kernel, rfl⟩
theorem dX8_waitsOf_0 : DLa mX8_waitsOf 0 0 1 := Or.inl ⟨0, by decide +kernel, rfl, rfl⟩
theorem dX8_waitsOf_1 : D0 mX8_waitsOf 1 (.invokevirtual 145) 3 4 := ⟨by decide +kernel, rfl⟩
theorem dX8_waitsOf_4 : DKi mX8_waitsOf 4 (nI 0) 5 := Or.inl ⟨0, by decide +kernel, by decide, rfl⟩
theorem dX8_waitsOf_5 : DSi mX8_waitsOf 5 3 6 := ⟨by decide, Or.inl ⟨3, by decide +kernel, rfl, rfl⟩⟩
theorem dX8_waitsOf_6 : DKi mX8_waitsOf 6 (nI 0) 7 := Or.inl ⟨0, by decide +kernel, by decide, rfl⟩
theorem dX8_waitsOf_7 : DSi mX8_waitsOf 7 4 9 := ⟨by decide, Or.inr ⟨by decide +kernel, rfl⟩⟩
theorem dX8_waitsOf_9 : DLi mX8_waitsOf 9 4 11 := Or.inr ⟨by decide +kernel, rfl⟩
theorem dX8_waitsOf_11 : DKi mX8_waitsOf 11 (nI 8) 13 := Or.inr (Or.inl ⟨8, by decide +kernel, by decide, rfl⟩)
theorem dX8_waitsOf_13 : DCge mX8_waitsOf 13 93 16 := ⟨80, by decide +kernel, by decide, rfl⟩
theorem dX8_waitsOf_16 : DLi mX8_waitsOf 16 2 17 := Or.inl ⟨2, by decide +kernel, rfl, rfl⟩
theorem dX8_waitsOf_17 : DSi mX8_waitsOf 17 5 19 := ⟨by decide, Or.inr ⟨by decide +kernel, rfl⟩⟩
theorem dX8_waitsOf_19 : DLi mX8_waitsOf 19 5 21 := Or.inr ⟨by decide +kernel, rfl⟩
theorem dX8_waitsOf_21 : DKi mX8_waitsOf 21 (nI 100) 23 := Or.inr (Or.inl ⟨100, by decide +kernel, by decide, rfl⟩)
theorem dX8_waitsOf_23 : DCge mX8_waitsOf 23 61 26 := ⟨38, by decide +kernel, by decide, rfl⟩
theorem dX8_waitsOf_26 : DLa mX8_waitsOf 26 0 27 := Or.inl ⟨0, by decide +kernel, rfl, rfl⟩
theorem dX8_waitsOf_27 : DLi mX8_waitsOf 27 4 29 := Or.inr ⟨by decide +kernel, rfl⟩
theorem dX8_waitsOf_29 : DLi mX8_waitsOf 29 5 31 := Or.inr ⟨by decide +kernel, rfl⟩
theorem dX8_waitsOf_31 : D0 mX8_waitsOf 31 (.invokevirtual 157) 3 34 := ⟨by decide +kernel, rfl⟩
theorem dX8_waitsOf_34 : DLi mX8_waitsOf 34 1 35 := Or.inl ⟨1, by decide +kernel, rfl, rfl⟩
theorem dX8_waitsOf_35 : DCeq mX8_waitsOf 35 61 38 := ⟨26, by decide +kernel, by decide, rfl⟩
theorem dX8_waitsOf_38 : DLa mX8_waitsOf 38 0 39 := Or.inl ⟨0, by decide +kernel, rfl, rfl⟩
theorem dX8_waitsOf_39 : D0 mX8_waitsOf 39 (.getfield 13) 3 42 := ⟨by decide +kernel, rfl⟩
theorem dX8_waitsOf_42 : DLa mX8_waitsOf 42 0 43 := Or.inl ⟨0, by decide +kernel, rfl, rfl⟩
theorem dX8_waitsOf_43 : DLi mX8_waitsOf 43 4 45 := Or.inr ⟨by decide +kernel, rfl⟩
theorem dX8_waitsOf_45 : DLi mX8_waitsOf 45 5 47 := Or.inr ⟨by decide +kernel, rfl⟩
theorem dX8_waitsOf_47 : D0 mX8_waitsOf 47 (.invokevirtual 157) 3 50 := ⟨by decide +kernel, rfl⟩
theorem dX8_waitsOf_50 : D0 mX8_waitsOf 50 (.iaload) 1 51 := ⟨by decide +kernel, rfl⟩
theorem dX8_waitsOf_51 : DKi mX8_waitsOf 51 (nI 2) 52 := Or.inl ⟨2, by decide +kernel, by decide, rfl⟩
theorem dX8_waitsOf_52 : DCeq mX8_waitsOf 52 61 55 := ⟨9, by decide +kernel, by decide, rfl⟩
theorem dX8_waitsOf_55 : DIn mX8_waitsOf 55 5 (nI 1) 58 := ⟨by decide, 1, by decide +kernel, by decide, rfl⟩
theorem dX8_waitsOf_58 : DG mX8_waitsOf 58 19 := ⟨(-39), by decide +kernel, by decide⟩
theorem dX8_waitsOf_61 : DLi mX8_waitsOf 61 5 63 := Or.inr ⟨by decide +kernel, rfl⟩
theorem dX8_waitsOf_63 : DKi mX8_waitsOf 63 (nI 100) 65 := Or.inr (Or.inl ⟨100, by decide +kernel, by decide, rfl⟩)
theorem dX8_waitsOf_65 : DCne mX8_waitsOf 65 70 68 := ⟨5, by decide +kernel, by decide, rfl⟩
theorem dX8_waitsOf_68 : DKi mX8_waitsOf 68 ((-1)) 69 := Or.inl ⟨(-1), by decide +kernel, by decide, rfl⟩
theorem dX8_waitsOf_69 : D0 mX8_waitsOf 69 (.ireturn) 1 70 := ⟨by decide +kernel, rfl⟩
theorem dX8_waitsOf_70 : DLi mX8_waitsOf 70 5 72 := Or.inr ⟨by decide +kernel, rfl⟩
theorem dX8_waitsOf_72 : DLi mX8_waitsOf 72 2 73 := Or.inl ⟨2, by decide +kernel, rfl, rfl⟩
theorem dX8_waitsOf_73 : D0 mX8_waitsOf 73 (.isub) 1 74 := ⟨by decide +kernel, rfl⟩
theorem dX8_waitsOf_74 : DLi mX8_waitsOf 74 3 75 := Or.inl ⟨3, by decide +kernel, rfl, rfl⟩
theorem dX8_waitsOf_75 : DCle mX8_waitsOf 75 85 78 := ⟨10, by decide +kernel, by decide, rfl⟩
theorem dX8_waitsOf_78 : DLi mX8_waitsOf 78 5 80 := Or.inr ⟨by decide +kernel, rfl⟩
theorem dX8_waitsOf_80 : DLi mX8_waitsOf 80 2 81 := Or.inl ⟨2, by decide +kernel, rfl, rfl⟩
theorem dX8_waitsOf_81 : D0 mX8_waitsOf 81 (.isub) 1 82 := ⟨by decide +kernel, rfl⟩
theorem dX8_waitsOf_82 : DG mX8_waitsOf 82 86 := ⟨4, by decide +kernel, by decide⟩
theorem dX8_waitsOf_85 : DLi mX8_waitsOf 85 3 86 := Or.inl ⟨3, by decide +kernel, rfl, rfl⟩
theorem dX8_waitsOf_86 : DSi mX8_waitsOf 86 3 87 := ⟨by decide, Or.inl ⟨3, by decide +kernel, rfl, rfl⟩⟩
theorem dX8_waitsOf_87 : DIn mX8_waitsOf 87 4 (nI 1) 90 := ⟨by decide, 1, by decide +kernel, by decide, rfl⟩
theorem dX8_waitsOf_90 : DG mX8_waitsOf 90 9 := ⟨(-81), by decide +kernel, by decide⟩
theorem dX8_waitsOf_93 : DLi mX8_waitsOf 93 3 94 := Or.inl ⟨3, by decide +kernel, rfl, rfl⟩
theorem dX8_waitsOf_94 : D0 mX8_waitsOf 94 (.ireturn) 1 95 := ⟨by decide +kernel, rfl⟩
theorem dX8_waits_0 : DLi mX8_waits 0 1 1 := Or.inl ⟨1, by decide +kernel, rfl, rfl⟩
theorem dX8_waits_1 : D0 mX8_waits 1 (.invokestatic 118) 3 4 := ⟨by decide +kernel, rfl⟩
theorem dX8_waits_4 : DFeq mX8_waits 4 23 7 := ⟨19, by decide +kernel, by decide, rfl⟩
theorem dX8_waits_7 : DLi mX8_waits 7 2 8 := Or.inl ⟨2, by decide +kernel, rfl, rfl⟩
theorem dX8_waits_8 : D0 mX8_waits 8 (.invokestatic 148) 3 11 := ⟨by decide +kernel, rfl⟩
theorem dX8_waits_11 : DFeq mX8_waits 11 23 14 := ⟨12, by decide +kernel, by decide, rfl⟩
theorem dX8_waits_14 : DLa mX8_waits 14 0 15 := Or.inl ⟨0, by decide +kernel, rfl, rfl⟩
theorem dX8_waits_15 : DLi mX8_waits 15 1 16 := Or.inl ⟨1, by decide +kernel, rfl, rfl⟩
theorem dX8_waits_16 : DLi mX8_waits 16 2 17 := Or.inl ⟨2, by decide +kernel, rfl, rfl⟩
theorem dX8_waits_17 : D0 mX8_waits 17 (.invokevirtual 228) 3 20 := ⟨by decide +kernel, rfl⟩
theorem dX8_waits_20 : DG mX8_waits 20 25 := ⟨5, by decide +kernel, by decide⟩
theorem dX8_waits_23 : DKi mX8_waits 23 ((-2)) 25 := Or.inr (Or.inl ⟨(-2), by decide +kernel, by decide, rfl⟩)
theorem dX8_waits_25 : D0 mX8_waits 25 (.ireturn) 1 26 := ⟨by decide +kernel, rfl⟩
theorem dX8_digOf_0 : DKi mX8_digOf 0 ((-1)) 1 := Or.inl ⟨(-1), by decide +kernel, by decide, rfl⟩
theorem dX8_digOf_1 : DSi mX8_digOf 1 3 2 := ⟨by decide, Or.inl ⟨3, by decide +kernel, rfl, rfl⟩⟩
theorem dX8_digOf_2 : DLi mX8_digOf 2 2 3 := Or.inl ⟨2, by decide +kernel, rfl, rfl⟩
theorem dX8_digOf_3 : DKi mX8_digOf 3 (nI 1) 4 := Or.inl ⟨1, by decide +kernel, by decide, rfl⟩
theorem dX8_digOf_4 : D0 mX8_digOf 4 (.iadd) 1 5 := ⟨by decide +kernel, rfl⟩
theorem dX8_digOf_5 : DSi mX8_digOf 5 4 7 := ⟨by decide, Or.inr ⟨by decide +kernel, rfl⟩⟩
theorem dX8_digOf_7 : DKi mX8_digOf 7 (nI 0) 8 := Or.inl ⟨0, by decide +kernel, by decide, rfl⟩
theorem dX8_digOf_8 : DSi mX8_digOf 8 5 10 := ⟨by decide, Or.inr ⟨by decide +kernel, rfl⟩⟩
theorem dX8_digOf_10 : DLi mX8_digOf 10 5 12 := Or.inr ⟨by decide +kernel, rfl⟩
theorem dX8_digOf_12 : DKi mX8_digOf 12 (nI 8) 14 := Or.inr (Or.inl ⟨8, by decide +kernel, by decide, rfl⟩)
theorem dX8_digOf_14 : DCge mX8_digOf 14 78 17 := ⟨64, by decide +kernel, by decide, rfl⟩
theorem dX8_digOf_17 : DLa mX8_digOf 17 0 18 := Or.inl ⟨0, by decide +kernel, rfl, rfl⟩
theorem dX8_digOf_18 : DLi mX8_digOf 18 5 20 := Or.inr ⟨by decide +kernel, rfl⟩
theorem dX8_digOf_20 : DLi mX8_digOf 20 1 21 := Or.inl ⟨1, by decide +kernel, rfl, rfl⟩
theorem dX8_digOf_21 : D0 mX8_digOf 21 (.invokevirtual 228) 3 24 := ⟨by decide +kernel, rfl⟩
theorem dX8_digOf_24 : DSi mX8_digOf 24 6 26 := ⟨by decide, Or.inr ⟨by decide +kernel, rfl⟩⟩
theorem dX8_digOf_26 : DLi mX8_digOf 26 6 28 := Or.inr ⟨by decide +kernel, rfl⟩
theorem dX8_digOf_28 : DKi mX8_digOf 28 ((-1)) 29 := Or.inl ⟨(-1), by decide +kernel, by decide, rfl⟩
theorem dX8_digOf_29 : DCeq mX8_digOf 29 43 32 := ⟨14, by decide +kernel, by decide, rfl⟩
theorem dX8_digOf_32 : DLi mX8_digOf 32 6 34 := Or.inr ⟨by decide +kernel, rfl⟩
theorem dX8_digOf_34 : DLi mX8_digOf 34 4 36 := Or.inr ⟨by decide +kernel, rfl⟩
theorem dX8_digOf_36 : DCge mX8_digOf 36 43 39 := ⟨7, by decide +kernel, by decide, rfl⟩
theorem dX8_digOf_39 : DKi mX8_digOf 39 (nI 1) 40 := Or.inl ⟨1, by decide +kernel, by decide, rfl⟩
theorem dX8_digOf_40 : DG mX8_digOf 40 44 := ⟨4, by decide +kernel, by decide⟩
theorem dX8_digOf_43 : DKi mX8_digOf 43 (nI 0) 44 := Or.inl ⟨0, by decide +kernel, by decide, rfl⟩
theorem dX8_digOf_44 : DSi mX8_digOf 44 7 46 := ⟨by decide, Or.inr ⟨by decide +kernel, rfl⟩⟩
theorem dX8_digOf_46 : DLi mX8_digOf 46 7 48 := Or.inr ⟨by decide +kernel, rfl⟩
theorem dX8_digOf_48 : DFeq mX8_digOf 48 56 51 := ⟨8, by decide +kernel, by decide, rfl⟩
theorem dX8_digOf_51 : DLi mX8_digOf 51 5 53 := Or.inr ⟨by decide +kernel, rfl⟩
theorem dX8_digOf_53 : DG mX8_digOf 53 57 := ⟨4, by decide +kernel, by decide⟩
theorem dX8_digOf_56 : DLi mX8_digOf 56 3 57 := Or.inl ⟨3, by decide +kernel, rfl, rfl⟩
theorem dX8_digOf_57 : DSi mX8_digOf 57 3 58 := ⟨by decide, Or.inl ⟨3, by decide +kernel, rfl, rfl⟩⟩
theorem dX8_digOf_58 : DLi mX8_digOf 58 7 60 := Or.inr ⟨by decide +kernel, rfl⟩
theorem dX8_digOf_60 : DFeq mX8_digOf 60 68 63 := ⟨8, by decide +kernel, by decide, rfl⟩
theorem dX8_digOf_63 : DLi mX8_digOf 63 6 65 := Or.inr ⟨by decide +kernel, rfl⟩
theorem dX8_digOf_65 : DG mX8_digOf 65 70 := ⟨5, by decide +kernel, by decide⟩
theorem dX8_digOf_68 : DLi mX8_digOf 68 4 70 := Or.inr ⟨by decide +kernel, rfl⟩
theorem dX8_digOf_70 : DSi mX8_digOf 70 4 72 := ⟨by decide, Or.inr ⟨by decide +kernel, rfl⟩⟩
theorem dX8_digOf_72 : DIn mX8_digOf 72 5 (nI 1) 75 := ⟨by decide, 1, by decide +kernel, by decide, rfl⟩
theorem dX8_digOf_75 : DG mX8_digOf 75 10 := ⟨(-65), by decide +kernel, by decide⟩
theorem dX8_digOf_78 : DLi mX8_digOf 78 3 79 := Or.inl ⟨3, by decide +kernel, rfl, rfl⟩
theorem dX8_digOf_79 : D0 mX8_digOf 79 (.ireturn) 1 80 := ⟨by decide +kernel, rfl⟩
theorem dX8_dig_0 : DLi mX8_dig 0 1 1 := Or.inl ⟨1, by decide +kernel, rfl, rfl⟩
theorem dX8_dig_1 : D0 mX8_dig 1 (.invokestatic 148) 3 4 := ⟨by decide +kernel, rfl⟩
theorem dX8_dig_4 : DFeq mX8_dig 4 26 7 := ⟨22, by decide +kernel, by decide, rfl⟩
theorem dX8_dig_7 : DLi mX8_dig 7 2 8 := Or.inl ⟨2, by decide +kernel, rfl, rfl⟩
theorem dX8_dig_8 : DKi mX8_dig 8 (nI 0) 9 := Or.inl ⟨0, by decide +kernel, by decide, rfl⟩
theorem dX8_dig_9 : DKi mX8_dig 9 (nI 99) 11 := Or.inr (Or.inl ⟨99, by decide +kernel, by decide, rfl⟩)
theorem dX8_dig_11 : D0 mX8_dig 11 (.invokestatic 89) 3 14 := ⟨by decide +kernel, rfl⟩
theorem dX8_dig_14 : DFeq mX8_dig 14 26 17 := ⟨12, by decide +kernel, by decide, rfl⟩
theorem dX8_dig_17 : DLa mX8_dig 17 0 18 := Or.inl ⟨0, by decide +kernel, rfl, rfl⟩
theorem dX8_dig_18 : DLi mX8_dig 18 1 19 := Or.inl ⟨1, by decide +kernel, rfl, rfl⟩
theorem dX8_dig_19 : DLi mX8_dig 19 2 20 := Or.inl ⟨2, by decide +kernel, rfl, rfl⟩
theorem dX8_dig_20 : D0 mX8_dig 20 (.invokevirtual 231) 3 23 := ⟨by decide +kernel, rfl⟩
theorem dX8_dig_23 : DG mX8_dig 23 28 := ⟨5, by decide +kernel, by decide⟩
theorem dX8_dig_26 : DKi mX8_dig 26 ((-2)) 28 := Or.inr (Or.inl ⟨(-2), by decide +kernel, by decide, rfl⟩)
theorem dX8_dig_28 : D0 mX8_dig 28 (.ireturn) 1 29 := ⟨by decide +kernel, rfl⟩
theorem dX8_meets_0 : DLa mX8_meets 0 0 1 := Or.inl ⟨0, by decide +kernel, rfl, rfl⟩
theorem dX8_meets_1 : DLi mX8_meets 1 1 2 := Or.inl ⟨1, by decide +kernel, rfl, rfl⟩
theorem dX8_meets_2 : D0 mX8_meets 2 (.putfield 234) 3 5 := ⟨by decide +kernel, rfl⟩
theorem dX8_meets_5 : DKi mX8_meets 5 ((-10)) 7 := Or.inr (Or.inl ⟨(-10), by decide +kernel, by decide, rfl⟩)
theorem dX8_meets_7 : DLi mX8_meets 7 1 8 := Or.inl ⟨1, by decide +kernel, rfl, rfl⟩
theorem dX8_meets_8 : D0 mX8_meets 8 (.isub) 1 9 := ⟨by decide +kernel, rfl⟩
theorem dX8_meets_9 : D0 mX8_meets 9 (.ireturn) 1 10 := ⟨by decide +kernel, rfl⟩
theorem dX8_isSheet_0 : DLi mX8_isSheet 0 0 1 := Or.inl ⟨0, by decide +kernel, rfl, rfl⟩
theorem dX8_isSheet_1 : DKi mX8_isSheet 1 (nI 0) 2 := Or.inl ⟨0, by decide +kernel, by decide, rfl⟩
theorem dX8_isSheet_2 : DKi mX8_isSheet 2 (nI 3) 3 := Or.inl ⟨3, by decide +kernel, by decide, rfl⟩
theorem dX8_isSheet_3 : D0 mX8_isSheet 3 (.invokestatic 89) 3 6 := ⟨by decide +kernel, rfl⟩
theorem dX8_isSheet_6 : D0 mX8_isSheet 6 (.ireturn) 1 7 := ⟨by decide +kernel, rfl⟩
theorem dX8_sheet_0 : DLi mX8_sheet 0 1 1 := Or.inl ⟨1, by decide +kernel, rfl, rfl⟩
theorem dX8_sheet_1 : D0 mX8_sheet 1 (.invokestatic 136) 3 4 := ⟨by decide +kernel, rfl⟩
theorem dX8_sheet_4 : DFeq mX8_sheet 4 22 7 := ⟨18, by decide +kernel, by decide, rfl⟩
theorem dX8_sheet_7 : DLi mX8_sheet 7 2 8 := Or.inl ⟨2, by decide +kernel, rfl, rfl⟩
theorem dX8_sheet_8 : DKi mX8_sheet 8 (nI 0) 9 := Or.inl ⟨0, by decide +kernel, by decide, rfl⟩
theorem dX8_sheet_9 : DKi mX8_sheet 9 (nI 2) 10 := Or.inl ⟨2, by decide +kernel, by decide, rfl⟩
theorem dX8_sheet_10 : D0 mX8_sheet 10 (.invokestatic 89) 3 13 := ⟨by decide +kernel, rfl⟩
theorem dX8_sheet_13 : DFeq mX8_sheet 13 22 16 := ⟨9, by decide +kernel, by decide, rfl⟩
theorem dX8_sheet_16 : DLi mX8_sheet 16 3 17 := Or.inl ⟨3, by decide +kernel, rfl, rfl⟩
theorem dX8_sheet_17 : DKi mX8_sheet 17 (nI 60) 19 := Or.inr (Or.inl ⟨60, by decide +kernel, by decide, rfl⟩)
theorem dX8_sheet_19 : DCle mX8_sheet 19 25 22 := ⟨6, by decide +kernel, by decide, rfl⟩
theorem dX8_sheet_22 : DKi mX8_sheet 22 ((-2)) 24 := Or.inr (Or.inl ⟨(-2), by decide +kernel, by decide, rfl⟩)
theorem dX8_sheet_24 : D0 mX8_sheet 24 (.ireturn) 1 25 := ⟨by decide +kernel, rfl⟩
theorem dX8_sheet_25 : DLi mX8_sheet 25 3 26 := Or.inl ⟨3, by decide +kernel, rfl, rfl⟩
theorem dX8_sheet_26 : DFge mX8_sheet 26 35 29 := ⟨9, by decide +kernel, by decide, rfl⟩
theorem dX8_sheet_29 : DLa mX8_sheet 29 0 30 := Or.inl ⟨0, by decide +kernel, rfl, rfl⟩
theorem dX8_sheet_30 : DKi mX8_sheet 30 (nI 5) 31 := Or.inl ⟨5, by decide +kernel, by decide, rfl⟩
theorem dX8_sheet_31 : D0 mX8_sheet 31 (.invokevirtual 139) 3 34 := ⟨by decide +kernel, rfl⟩
theorem dX8_sheet_34 : D0 mX8_sheet 34 (.ireturn) 1 35 := ⟨by decide +kernel, rfl⟩
theorem dX8_sheet_35 : DLa mX8_sheet 35 0 36 := Or.inl ⟨0, by decide +kernel, rfl, rfl⟩
theorem dX8_sheet_36 : D0 mX8_sheet 36 (.getfield 71) 3 39 := ⟨by decide +kernel, rfl⟩
theorem dX8_sheet_39 : DLi mX8_sheet 39 1 40 := Or.inl ⟨1, by decide +kernel, rfl, rfl⟩
theorem dX8_sheet_40 : DKi mX8_sheet 40 (nI 1) 41 := Or.inl ⟨1, by decide +kernel, by decide, rfl⟩
theorem dX8_sheet_41 : D0 mX8_sheet 41 (.bastore) 1 42 := ⟨by decide +kernel, rfl⟩
theorem dX8_sheet_42 : DLa mX8_sheet 42 0 43 := Or.inl ⟨0, by decide +kernel, rfl, rfl⟩
theorem dX8_sheet_43 : D0 mX8_sheet 43 (.getfield 75) 3 46 := ⟨by decide +kernel, rfl⟩
theorem dX8_sheet_46 : DLi mX8_sheet 46 1 47 := Or.inl ⟨1, by decide +kernel, rfl, rfl⟩
theorem dX8_sheet_47 : DLi mX8_sheet 47 2 48 := Or.inl ⟨2, by decide +kernel, rfl, rfl⟩
theorem dX8_sheet_48 : D0 mX8_sheet 48 (.iastore) 1 49 := ⟨by decide +kernel, rfl⟩
theorem dX8_sheet_49 : DLa mX8_sheet 49 0 50 := Or.inl ⟨0, by decide +kernel, rfl, rfl⟩
theorem dX8_sheet_50 : D0 mX8_sheet 50 (.getfield 78) 3 53 := ⟨by decide +kernel, rfl⟩
theorem dX8_sheet_53 : DLi mX8_sheet 53 1 54 := Or.inl ⟨1, by decide +kernel, rfl, rfl⟩
theorem dX8_sheet_54 : DLi mX8_sheet 54 3 55 := Or.inl ⟨3, by decide +kernel, rfl, rfl⟩
theorem dX8_sheet_55 : D0 mX8_sheet 55 (.iastore) 1 56 := ⟨by decide +kernel, rfl⟩
theorem dX8_sheet_56 : DKi mX8_sheet 56 (nI 0) 57 := Or.inl ⟨0, by decide +kernel, by decide, rfl⟩
theorem dX8_sheet_57 : DSi mX8_sheet 57 4 59 := ⟨by decide, Or.inr ⟨by decide +kernel, rfl⟩⟩
theorem dX8_sheet_59 : DLi mX8_sheet 59 4 61 := Or.inr ⟨by decide +kernel, rfl⟩
theorem dX8_sheet_61 : DKi mX8_sheet 61 (nI 60) 63 := Or.inr (Or.inl ⟨60, by decide +kernel, by decide, rfl⟩)
theorem dX8_sheet_63 : DCge mX8_sheet 63 85 66 := ⟨22, by decide +kernel, by decide, rfl⟩
theorem dX8_sheet_66 : DLa mX8_sheet 66 0 67 := Or.inl ⟨0, by decide +kernel, rfl, rfl⟩
theorem dX8_sheet_67 : D0 mX8_sheet 67 (.getfield 81) 3 70 := ⟨by decide +kernel, rfl⟩
theorem dX8_sheet_70 : DKi mX8_sheet 70 (nI 60) 72 := Or.inr (Or.inl ⟨60, by decide +kernel, by decide, rfl⟩)
theorem dX8_sheet_72 : DLi mX8_sheet 72 1 73 := Or.inl ⟨1, by decide +kernel, rfl, rfl⟩
theorem dX8_sheet_73 : D0 mX8_sheet 73 (.imul) 1 74 := ⟨by decide +kernel, rfl⟩
theorem dX8_sheet_74 : DLi mX8_sheet 74 4 76 := Or.inr ⟨by decide +kernel, rfl⟩
theorem dX8_sheet_76 : D0 mX8_sheet 76 (.iadd) 1 77 := ⟨by decide +kernel, rfl⟩
theorem dX8_sheet_77 : DKi mX8_sheet 77 (nI 0) 78 := Or.inl ⟨0, by decide +kernel, by decide, rfl⟩
theorem dX8_sheet_78 : D0 mX8_sheet 78 (.iastore) 1 79 := ⟨by decide +kernel, rfl⟩
theorem dX8_sheet_79 : DIn mX8_sheet 79 4 (nI 1) 82 := ⟨by decide, 1, by decide +kernel, by decide, rfl⟩
theorem dX8_sheet_82 : DG mX8_sheet 82 59 := ⟨(-23), by decide +kernel, by decide⟩
theorem dX8_sheet_85 : DLi mX8_sheet 85 3 86 := Or.inl ⟨3, by decide +kernel, rfl, rfl⟩
theorem dX8_sheet_86 : D0 mX8_sheet 86 (.ireturn) 1 87 := ⟨by decide +kernel, rfl⟩
theorem dX8_lose_0 : DLi mX8_lose 0 1 1 := Or.inl ⟨1, by decide +kernel, rfl, rfl⟩
theorem dX8_lose_1 : D0 mX8_lose 1 (.invokestatic 136) 3 4 := ⟨by decide +kernel, rfl⟩
theorem dX8_lose_4 : DFne mX8_lose 4 10 7 := ⟨6, by decide +kernel, by decide, rfl⟩
theorem dX8_lose_7 : DKi mX8_lose 7 ((-2)) 9 := Or.inr (Or.inl ⟨(-2), by decide +kernel, by decide, rfl⟩)
theorem dX8_lose_9 : D0 mX8_lose 9 (.ireturn) 1 10 := ⟨by decide +kernel, rfl⟩
theorem dX8_lose_10 : DLa mX8_lose 10 0 11 := Or.inl ⟨0, by decide +kernel, rfl, rfl⟩
theorem dX8_lose_11 : D0 mX8_lose 11 (.getfield 71) 3 14 := ⟨by decide +kernel, rfl⟩
theorem dX8_lose_14 : DLi mX8_lose 14 1 15 := Or.inl ⟨1, by decide +kernel, rfl, rfl⟩
theorem dX8_lose_15 : D0 mX8_lose 15 (.baload) 1 16 := ⟨by decide +kernel, rfl⟩
theorem dX8_lose_16 : DFne mX8_lose 16 25 19 := ⟨9, by decide +kernel, by decide, rfl⟩
theorem dX8_lose_19 : DLa mX8_lose 19 0 20 := Or.inl ⟨0, by decide +kernel, rfl, rfl⟩
theorem dX8_lose_20 : DKi mX8_lose 20 (nI 1) 21 := Or.inl ⟨1, by decide +kernel, by decide, rfl⟩
theorem dX8_lose_21 : D0 mX8_lose 21 (.invokevirtual 139) 3 24 := ⟨by decide +kernel, rfl⟩
theorem dX8_lose_24 : D0 mX8_lose 24 (.ireturn) 1 25 := ⟨by decide +kernel, rfl⟩
theorem dX8_lose_25 : DLa mX8_lose 25 0 26 := Or.inl ⟨0, by decide +kernel, rfl, rfl⟩
theorem dX8_lose_26 : D0 mX8_lose 26 (.getfield 71) 3 29 := ⟨by decide +kernel, rfl⟩
theorem dX8_lose_29 : DLi mX8_lose 29 1 30 := Or.inl ⟨1, by decide +kernel, rfl, rfl⟩
theorem dX8_lose_30 : DKi mX8_lose 30 (nI 0) 31 := Or.inl ⟨0, by decide +kernel, by decide, rfl⟩
theorem dX8_lose_31 : D0 mX8_lose 31 (.bastore) 1 32 := ⟨by decide +kernel, rfl⟩
theorem dX8_lose_32 : DLa mX8_lose 32 0 33 := Or.inl ⟨0, by decide +kernel, rfl, rfl⟩
theorem dX8_lose_33 : D0 mX8_lose 33 (.getfield 78) 3 36 := ⟨by decide +kernel, rfl⟩
theorem dX8_lose_36 : DLi mX8_lose 36 1 37 := Or.inl ⟨1, by decide +kernel, rfl, rfl⟩
theorem dX8_lose_37 : D0 mX8_lose 37 (.iaload) 1 38 := ⟨by decide +kernel, rfl⟩
theorem dX8_lose_38 : D0 mX8_lose 38 (.ireturn) 1 39 := ⟨by decide +kernel, rfl⟩
theorem dX8_lacks_0 : DLa mX8_lacks 0 0 1 := Or.inl ⟨0, by decide +kernel, rfl, rfl⟩
theorem dX8_lacks_1 : D0 mX8_lacks 1 (.getfield 71) 3 4 := ⟨by decide +kernel, rfl⟩
theorem dX8_lacks_4 : DLi mX8_lacks 4 1 5 := Or.inl ⟨1, by decide +kernel, rfl, rfl⟩
theorem dX8_lacks_5 : D0 mX8_lacks 5 (.baload) 1 6 := ⟨by decide +kernel, rfl⟩
theorem dX8_lacks_6 : DFne mX8_lacks 6 13 9 := ⟨7, by decide +kernel, by decide, rfl⟩
theorem dX8_lacks_9 : DKi mX8_lacks 9 (nI 1) 10 := Or.inl ⟨1, by decide +kernel, by decide, rfl⟩
theorem dX8_lacks_10 : DG mX8_lacks 10 48 := ⟨38, by decide +kernel, by decide⟩
theorem dX8_lacks_13 : DLa mX8_lacks 13 0 14 := Or.inl ⟨0, by decide +kernel, rfl, rfl⟩
theorem dX8_lacks_14 : D0 mX8_lacks 14 (.getfield 75) 3 17 := ⟨by decide +kernel, rfl⟩
theorem dX8_lacks_17 : DLi mX8_lacks 17 1 18 := Or.inl ⟨1, by decide +kernel, rfl, rfl⟩
theorem dX8_lacks_18 : D0 mX8_lacks 18 (.iaload) 1 19 := ⟨by decide +kernel, rfl⟩
theorem dX8_lacks_19 : DLi mX8_lacks 19 2 20 := Or.inl ⟨2, by decide +kernel, rfl, rfl⟩
theorem dX8_lacks_20 : DCeq mX8_lacks 20 27 23 := ⟨7, by decide +kernel, by decide, rfl⟩
theorem dX8_lacks_23 : DKi mX8_lacks 23 (nI 3) 24 := Or.inl ⟨3, by decide +kernel, by decide, rfl⟩
theorem dX8_lacks_24 : DG mX8_lacks 24 48 := ⟨24, by decide +kernel, by decide⟩
theorem dX8_lacks_27 : DLi mX8_lacks 27 3 28 := Or.inl ⟨3, by decide +kernel, rfl, rfl⟩
theorem dX8_lacks_28 : DKi mX8_lacks 28 (nI 0) 29 := Or.inl ⟨0, by decide +kernel, by decide, rfl⟩
theorem dX8_lacks_29 : DLa mX8_lacks 29 0 30 := Or.inl ⟨0, by decide +kernel, rfl, rfl⟩
theorem dX8_lacks_30 : D0 mX8_lacks 30 (.getfield 78) 3 33 := ⟨by decide +kernel, rfl⟩
theorem dX8_lacks_33 : DLi mX8_lacks 33 1 34 := Or.inl ⟨1, by decide +kernel, rfl, rfl⟩
theorem dX8_lacks_34 : D0 mX8_lacks 34 (.iaload) 1 35 := ⟨by decide +kernel, rfl⟩
theorem dX8_lacks_35 : DKi mX8_lacks 35 (nI 1) 36 := Or.inl ⟨1, by decide +kernel, by decide, rfl⟩
theorem dX8_lacks_36 : D0 mX8_lacks 36 (.isub) 1 37 := ⟨by decide +kernel, rfl⟩
theorem dX8_lacks_37 : D0 mX8_lacks 37 (.invokestatic 89) 3 40 := ⟨by decide +kernel, rfl⟩
theorem dX8_lacks_40 : DFeq mX8_lacks 40 47 43 := ⟨7, by decide +kernel, by decide, rfl⟩
theorem dX8_lacks_43 : DKi mX8_lacks 43 (nI 0) 44 := Or.inl ⟨0, by decide +kernel, by decide, rfl⟩
theorem dX8_lacks_44 : DG mX8_lacks 44 48 := ⟨4, by decide +kernel, by decide⟩
theorem dX8_lacks_47 : DKi mX8_lacks 47 (nI 2) 48 := Or.inl ⟨2, by decide +kernel, by decide, rfl⟩
theorem dX8_lacks_48 : D0 mX8_lacks 48 (.ireturn) 1 49 := ⟨by decide +kernel, rfl⟩
theorem dX8_keep_0 : DLa mX8_keep 0 0 1 := Or.inl ⟨0, by decide +kernel, rfl, rfl⟩
theorem dX8_keep_1 : D0 mX8_keep 1 (.getfield 81) 3 4 := ⟨by decide +kernel, rfl⟩
theorem dX8_keep_4 : DKi mX8_keep 4 (nI 60) 6 := Or.inr (Or.inl ⟨60, by decide +kernel, by decide, rfl⟩)
theorem dX8_keep_6 : DLi mX8_keep 6 1 7 := Or.inl ⟨1, by decide +kernel, rfl, rfl⟩
theorem dX8_keep_7 : D0 mX8_keep 7 (.imul) 1 8 := ⟨by decide +kernel, rfl⟩
theorem dX8_keep_8 : DLi mX8_keep 8 2 9 := Or.inl ⟨2, by decide +kernel, rfl, rfl⟩
theorem dX8_keep_9 : D0 mX8_keep 9 (.iadd) 1 10 := ⟨by decide +kernel, rfl⟩
theorem dX8_keep_10 : DLa mX8_keep 10 0 11 := Or.inl ⟨0, by decide +kernel, rfl, rfl⟩
theorem dX8_keep_11 : D0 mX8_keep 11 (.getfield 75) 3 14 := ⟨by decide +kernel, rfl⟩
theorem dX8_keep_14 : DLi mX8_keep 14 1 15 := Or.inl ⟨1, by decide +kernel, rfl, rfl⟩
theorem dX8_keep_15 : D0 mX8_keep 15 (.iaload) 1 16 := ⟨by decide +kernel, rfl⟩
theorem dX8_keep_16 : DFne mX8_keep 16 24 19 := ⟨8, by decide +kernel, by decide, rfl⟩
theorem dX8_keep_19 : DLi mX8_keep 19 3 20 := Or.inl ⟨3, by decide +kernel, rfl, rfl⟩
theorem dX8_keep_20 : D0 mX8_keep 20 (.i2b) 1 21 := ⟨by decide +kernel, rfl⟩
theorem dX8_keep_21 : DG mX8_keep 21 40 := ⟨19, by decide +kernel, by decide⟩
theorem dX8_keep_24 : DLa mX8_keep 24 0 25 := Or.inl ⟨0, by decide +kernel, rfl, rfl⟩
theorem dX8_keep_25 : D0 mX8_keep 25 (.getfield 75) 3 28 := ⟨by decide +kernel, rfl⟩
theorem dX8_keep_28 : DLi mX8_keep 28 1 29 := Or.inl ⟨1, by decide +kernel, rfl, rfl⟩
theorem dX8_keep_29 : D0 mX8_keep 29 (.iaload) 1 30 := ⟨by decide +kernel, rfl⟩
theorem dX8_keep_30 : DKi mX8_keep 30 (nI 1) 31 := Or.inl ⟨1, by decide +kernel, by decide, rfl⟩
theorem dX8_keep_31 : DCne mX8_keep 31 39 34 := ⟨8, by decide +kernel, by decide, rfl⟩
theorem dX8_keep_34 : DLi mX8_keep 34 3 35 := Or.inl ⟨3, by decide +kernel, rfl, rfl⟩
theorem dX8_keep_35 : D0 mX8_keep 35 (.i2s) 1 36 := ⟨by decide +kernel, rfl⟩
theorem dX8_keep_36 : DG mX8_keep 36 40 := ⟨4, by decide +kernel, by decide⟩
theorem dX8_keep_39 : DLi mX8_keep 39 3 40 := Or.inl ⟨3, by decide +kernel, rfl, rfl⟩
theorem dX8_keep_40 : D0 mX8_keep 40 (.iastore) 1 41 := ⟨by decide +kernel, rfl⟩
theorem dX8_keep_41 : D0 mX8_keep 41 (.return_) 1 42 := ⟨by decide +kernel, rfl⟩
theorem dX8_put_0 : DLi mX8_put 0 1 1 := Or.inl ⟨1, by decide +kernel, rfl, rfl⟩
theorem dX8_put_1 : D0 mX8_put 1 (.invokestatic 136) 3 4 := ⟨by decide +kernel, rfl⟩
theorem dX8_put_4 : DFeq mX8_put 4 16 7 := ⟨12, by decide +kernel, by decide, rfl⟩
theorem dX8_put_7 : DLi mX8_put 7 2 8 := Or.inl ⟨2, by decide +kernel, rfl, rfl⟩
theorem dX8_put_8 : DKi mX8_put 8 (nI 0) 9 := Or.inl ⟨0, by decide +kernel, by decide, rfl⟩
theorem dX8_put_9 : DKi mX8_put 9 (nI 2) 10 := Or.inl ⟨2, by decide +kernel, by decide, rfl⟩
theorem dX8_put_10 : D0 mX8_put 10 (.invokestatic 89) 3 13 := ⟨by decide +kernel, rfl⟩
theorem dX8_put_13 : DFne mX8_put 13 19 16 := ⟨6, by decide +kernel, by decide, rfl⟩
theorem dX8_put_16 : DKi mX8_put 16 ((-2)) 18 := Or.inr (Or.inl ⟨(-2), by decide +kernel, by decide, rfl⟩)
theorem dX8_put_18 : D0 mX8_put 18 (.ireturn) 1 19 := ⟨by decide +kernel, rfl⟩
theorem dX8_put_19 : DLa mX8_put 19 0 20 := Or.inl ⟨0, by decide +kernel, rfl, rfl⟩
theorem dX8_put_20 : DLi mX8_put 20 1 21 := Or.inl ⟨1, by decide +kernel, rfl, rfl⟩
theorem dX8_put_21 : DLi mX8_put 21 2 22 := Or.inl ⟨2, by decide +kernel, rfl, rfl⟩
theorem dX8_put_22 : DLi mX8_put 22 3 23 := Or.inl ⟨3, by decide +kernel, rfl, rfl⟩
theorem dX8_put_23 : D0 mX8_put 23 (.invokevirtual 237) 3 26 := ⟨by decide +kernel, rfl⟩
theorem dX8_put_26 : DSi mX8_put 26 5 28 := ⟨by decide, Or.inr ⟨by decide +kernel, rfl⟩⟩
theorem dX8_put_28 : DLi mX8_put 28 5 30 := Or.inr ⟨by decide +kernel, rfl⟩
theorem dX8_put_30 : DFle mX8_put 30 40 33 := ⟨10, by decide +kernel, by decide, rfl⟩
theorem dX8_put_33 : DLa mX8_put 33 0 34 := Or.inl ⟨0, by decide +kernel, rfl, rfl⟩
theorem dX8_put_34 : DLi mX8_put 34 5 36 := Or.inr ⟨by decide +kernel, rfl⟩
theorem dX8_put_36 : D0 mX8_put 36 (.invokevirtual 139) 3 39 := ⟨by decide +kernel, rfl⟩
theorem dX8_put_39 : D0 mX8_put 39 (.ireturn) 1 40 := ⟨by decide +kernel, rfl⟩
theorem dX8_put_40 : DLa mX8_put 40 0 41 := Or.inl ⟨0, by decide +kernel, rfl, rfl⟩
theorem dX8_put_41 : DLi mX8_put 41 1 42 := Or.inl ⟨1, by decide +kernel, rfl, rfl⟩
theorem dX8_put_42 : DLi mX8_put 42 3 43 := Or.inl ⟨3, by decide +kernel, rfl, rfl⟩
theorem dX8_put_43 : DLi mX8_put 43 4 45 := Or.inr ⟨by decide +kernel, rfl⟩
theorem dX8_put_45 : D0 mX8_put 45 (.invokevirtual 240) 3 48 := ⟨by decide +kernel, rfl⟩
theorem dX8_put_48 : DKi mX8_put 48 (nI 1) 49 := Or.inl ⟨1, by decide +kernel, by decide, rfl⟩
theorem dX8_put_49 : D0 mX8_put 49 (.ireturn) 1 50 := ⟨by decide +kernel, rfl⟩
theorem dX8_get_0 : DLi mX8_get 0 1 1 := Or.inl ⟨1, by decide +kernel, rfl, rfl⟩
theorem dX8_get_1 : D0 mX8_get 1 (.invokestatic 136) 3 4 := ⟨by decide +kernel, rfl⟩
theorem dX8_get_4 : DFeq mX8_get 4 16 7 := ⟨12, by decide +kernel, by decide, rfl⟩
theorem dX8_get_7 : DLi mX8_get 7 2 8 := Or.inl ⟨2, by decide +kernel, rfl, rfl⟩
theorem dX8_get_8 : DKi mX8_get 8 (nI 0) 9 := Or.inl ⟨0, by decide +kernel, by decide, rfl⟩
theorem dX8_get_9 : DKi mX8_get 9 (nI 2) 10 := Or.inl ⟨2, by decide +kernel, by decide, rfl⟩
theorem dX8_get_10 : D0 mX8_get 10 (.invokestatic 89) 3 13 := ⟨by decide +kernel, rfl⟩
theorem dX8_get_13 : DFne mX8_get 13 19 16 := ⟨6, by decide +kernel, by decide, rfl⟩
theorem dX8_get_16 : DKi mX8_get 16 ((-2147483648)) 18 := Or.inr (Or.inr (Or.inr (Or.inl ⟨244, by decide +kernel, bt712, rfl⟩)))
theorem dX8_get_18 : D0 mX8_get 18 (.ireturn) 1 19 := ⟨by decide +kernel, rfl⟩
theorem dX8_get_19 : DLa mX8_get 19 0 20 := Or.inl ⟨0, by decide +kernel, rfl, rfl⟩
theorem dX8_get_20 : DLi mX8_get 20 1 21 := Or.inl ⟨1, by decide +kernel, rfl, rfl⟩
theorem dX8_get_21 : DLi mX8_get 21 2 22 := Or.inl ⟨2, by decide +kernel, rfl, rfl⟩
theorem dX8_get_22 : DLi mX8_get 22 3 23 := Or.inl ⟨3, by decide +kernel, rfl, rfl⟩
theorem dX8_get_23 : D0 mX8_get 23 (.invokevirtual 237) 3 26 := ⟨by decide +kernel, rfl⟩
theorem dX8_get_26 : DSi mX8_get 26 4 28 := ⟨by decide, Or.inr ⟨by decide +kernel, rfl⟩⟩
theorem dX8_get_28 : DLi mX8_get 28 4 30 := Or.inr ⟨by decide +kernel, rfl⟩
theorem dX8_get_30 : DFle mX8_get 30 42 33 := ⟨12, by decide +kernel, by decide, rfl⟩
theorem dX8_get_33 : DLa mX8_get 33 0 34 := Or.inl ⟨0, by decide +kernel, rfl, rfl⟩
theorem dX8_get_34 : DLi mX8_get 34 4 36 := Or.inr ⟨by decide +kernel, rfl⟩
theorem dX8_get_36 : D0 mX8_get 36 (.putfield 234) 3 39 := ⟨by decide +kernel, rfl⟩
theorem dX8_get_39 : DKi mX8_get 39 ((-2147483648)) 41 := Or.inr (Or.inr (Or.inr (Or.inl ⟨244, by decide +kernel, bt712, rfl⟩)))
theorem dX8_get_41 : D0 mX8_get 41 (.ireturn) 1 42 := ⟨by decide +kernel, rfl⟩
theorem dX8_get_42 : DLa mX8_get 42 0 43 := Or.inl ⟨0, by decide +kernel, rfl, rfl⟩
theorem dX8_get_43 : D0 mX8_get 43 (.getfield 81) 3 46 := ⟨by decide +kernel, rfl⟩
theorem dX8_get_46 : DKi mX8_get 46 (nI 60) 48 := Or.inr (Or.inl ⟨60, by decide +kernel, by decide, rfl⟩)
theorem dX8_get_48 : DLi mX8_get 48 1 49 := Or.inl ⟨1, by decide +kernel, rfl, rfl⟩
theorem dX8_get_49 : D0 mX8_get 49 (.imul) 1 50 := ⟨by decide +kernel, rfl⟩
theorem dX8_get_50 : DLi mX8_get 50 3 51 := Or.inl ⟨3, by decide +kernel, rfl, rfl⟩
theorem dX8_get_51 : D0 mX8_get 51 (.iadd) 1 52 := ⟨by decide +kernel, rfl⟩
theorem dX8_get_52 : D0 mX8_get 52 (.iaload) 1 53 := ⟨by decide +kernel, rfl⟩
theorem dX8_get_53 : D0 mX8_get 53 (.ireturn) 1 54 := ⟨by decide +kernel, rfl⟩
theorem dX8_copy_0 : DLi mX8_copy 0 1 1 := Or.inl ⟨1, by decide +kernel, rfl, rfl⟩
theorem dX8_copy_1 : D0 mX8_copy 1 (.invokestatic 136) 3 4 := ⟨by decide +kernel, rfl⟩
theorem dX8_copy_4 : DFeq mX8_copy 4 14 7 := ⟨10, by decide +kernel, by decide, rfl⟩
theorem dX8_copy_7 : DLi mX8_copy 7 3 8 := Or.inl ⟨3, by decide +kernel, rfl, rfl⟩
theorem dX8_copy_8 : D0 mX8_copy 8 (.invokestatic 136) 3 11 := ⟨by decide +kernel, rfl⟩
theorem dX8_copy_11 : DFne mX8_copy 11 17 14 := ⟨6, by decide +kernel, by decide, rfl⟩
theorem dX8_copy_14 : DKi mX8_copy 14 ((-2)) 16 := Or.inr (Or.inl ⟨(-2), by decide +kernel, by decide, rfl⟩)
theorem dX8_copy_16 : D0 mX8_copy 16 (.ireturn) 1 17 := ⟨by decide +kernel, rfl⟩
theorem dX8_copy_17 : DLa mX8_copy 17 0 18 := Or.inl ⟨0, by decide +kernel, rfl, rfl⟩
theorem dX8_copy_18 : D0 mX8_copy 18 (.getfield 71) 3 21 := ⟨by decide +kernel, rfl⟩
theorem dX8_copy_21 : DLi mX8_copy 21 1 22 := Or.inl ⟨1, by decide +kernel, rfl, rfl⟩
theorem dX8_copy_22 : D0 mX8_copy 22 (.baload) 1 23 := ⟨by decide +kernel, rfl⟩
theorem dX8_copy_23 : DFeq mX8_copy 23 35 26 := ⟨12, by decide +kernel, by decide, rfl⟩
theorem dX8_copy_26 : DLa mX8_copy 26 0 27 := Or.inl ⟨0, by decide +kernel, rfl, rfl⟩
theorem dX8_copy_27 : D0 mX8_copy 27 (.getfield 71) 3 30 := ⟨by decide +kernel, rfl⟩
theorem dX8_copy_30 : DLi mX8_copy 30 3 31 := Or.inl ⟨3, by decide +kernel, rfl, rfl⟩
theorem dX8_copy_31 : D0 mX8_copy 31 (.baload) 1 32 := ⟨by decide +kernel, rfl⟩
theorem dX8_copy_32 : DFne mX8_copy 32 41 35 := ⟨9, by decide +kernel, by decide, rfl⟩
theorem dX8_copy_35 : DLa mX8_copy 35 0 36 := Or.inl ⟨0, by decide +kernel, rfl, rfl⟩
theorem dX8_copy_36 : DKi mX8_copy 36 (nI 1) 37 := Or.inl ⟨1, by decide +kernel, by decide, rfl⟩
theorem dX8_copy_37 : D0 mX8_copy 37 (.invokevirtual 139) 3 40 := ⟨by decide +kernel, rfl⟩
theorem dX8_copy_40 : D0 mX8_copy 40 (.ireturn) 1 41 := ⟨by decide +kernel, rfl⟩
theorem dX8_copy_41 : DLa mX8_copy 41 0 42 := Or.inl ⟨0, by decide +kernel, rfl, rfl⟩
theorem dX8_copy_42 : D0 mX8_copy 42 (.getfield 75) 3 45 := ⟨by decide +kernel, rfl⟩
theorem dX8_copy_45 : DLi mX8_copy 45 1 46 := Or.inl ⟨1, by decide +kernel, rfl, rfl⟩
theorem dX8_copy_46 : D0 mX8_copy 46 (.iaload) 1 47 := ⟨by decide +kernel, rfl⟩
theorem dX8_copy_47 : DLa mX8_copy 47 0 48 := Or.inl ⟨0, by decide +kernel, rfl, rfl⟩
theorem dX8_copy_48 : D0 mX8_copy 48 (.getfield 75) 3 51 := ⟨by decide +kernel, rfl⟩
theorem dX8_copy_51 : DLi mX8_copy 51 3 52 := Or.inl ⟨3, by decide +kernel, rfl, rfl⟩
theorem dX8_copy_52 : D0 mX8_copy 52 (.iaload) 1 53 := ⟨by decide +kernel, rfl⟩
theorem dX8_copy_53 : DCeq mX8_copy 53 62 56 := ⟨9, by decide +kernel, by decide, rfl⟩
theorem dX8_copy_56 : DLa mX8_copy 56 0 57 := Or.inl ⟨0, by decide +kernel, rfl, rfl⟩
theorem dX8_copy_57 : DKi mX8_copy 57 (nI 4) 58 := Or.inl ⟨4, by decide +kernel, by decide, rfl⟩
theorem dX8_copy_58 : D0 mX8_copy 58 (.invokevirtual 139) 3 61 := ⟨by decide +kernel, rfl⟩
theorem dX8_copy_61 : D0 mX8_copy 61 (.ireturn) 1 62 := ⟨by decide +kernel, rfl⟩
theorem dX8_copy_62 : DLi mX8_copy 62 2 63 := Or.inl ⟨2, by decide +kernel, rfl, rfl⟩
theorem dX8_copy_63 : DFlt mX8_copy 63 111 66 := ⟨48, by decide +kernel, by decide, rfl⟩
theorem dX8_copy_66 : DLi mX8_copy 66 4 68 := Or.inr ⟨by decide +kernel, rfl⟩
theorem dX8_copy_68 : DFlt mX8_copy 68 111 71 := ⟨43, by decide +kernel, by decide, rfl⟩
theorem dX8_copy_71 : DLi mX8_copy 71 5 73 := Or.inr ⟨by decide +kernel, rfl⟩
theorem dX8_copy_73 : DFlt mX8_copy 73 111 76 := ⟨38, by decide +kernel, by decide, rfl⟩
theorem dX8_copy_76 : DLi mX8_copy 76 2 77 := Or.inl ⟨2, by decide +kernel, rfl, rfl⟩
theorem dX8_copy_77 : D0 mX8_copy 77 (.i2l) 1 78 := ⟨by decide +kernel, rfl⟩
theorem dX8_copy_78 : DLi mX8_copy 78 5 80 := Or.inr ⟨by decide +kernel, rfl⟩
theorem dX8_copy_80 : D0 mX8_copy 80 (.i2l) 1 81 := ⟨by decide +kernel, rfl⟩
theorem dX8_copy_81 : D0 mX8_copy 81 (.ladd) 1 82 := ⟨by decide +kernel, rfl⟩
theorem dX8_copy_82 : DLa mX8_copy 82 0 83 := Or.inl ⟨0, by decide +kernel, rfl, rfl⟩
theorem dX8_copy_83 : D0 mX8_copy 83 (.getfield 78) 3 86 := ⟨by decide +kernel, rfl⟩
theorem dX8_copy_86 : DLi mX8_copy 86 1 87 := Or.inl ⟨1, by decide +kernel, rfl, rfl⟩
theorem dX8_copy_87 : D0 mX8_copy 87 (.iaload) 1 88 := ⟨by decide +kernel, rfl⟩
theorem dX8_copy_88 : D0 mX8_copy 88 (.i2l) 1 89 := ⟨by decide +kernel, rfl⟩
theorem dX8_copy_89 : D0 mX8_copy 89 (.lcmp) 1 90 := ⟨by decide +kernel, rfl⟩
theorem dX8_copy_90 : DFgt mX8_copy 90 111 93 := ⟨21, by decide +kernel, by decide, rfl⟩
theorem dX8_copy_93 : DLi mX8_copy 93 4 95 := Or.inr ⟨by decide +kernel, rfl⟩
theorem dX8_copy_95 : D0 mX8_copy 95 (.i2l) 1 96 := ⟨by decide +kernel, rfl⟩
theorem dX8_copy_96 : DLi mX8_copy 96 5 98 := Or.inr ⟨by decide +kernel, rfl⟩
theorem dX8_copy_98 : D0 mX8_copy 98 (.i2l) 1 99 := ⟨by decide +kernel, rfl⟩
theorem dX8_copy_99 : D0 mX8_copy 99 (.ladd) 1 100 := ⟨by decide +kernel, rfl⟩
theorem dX8_copy_100 : DLa mX8_copy 100 0 101 := Or.inl ⟨0, by decide +kernel, rfl, rfl⟩
theorem dX8_copy_101 : D0 mX8_copy 101 (.getfield 78) 3 104 := ⟨by decide +kernel, rfl⟩
theorem dX8_copy_104 : DLi mX8_copy 104 3 105 := Or.inl ⟨3, by decide +kernel, rfl, rfl⟩
theorem dX8_copy_105 : D0 mX8_copy 105 (.iaload) 1 106 := ⟨by decide +kernel, rfl⟩
theorem dX8_copy_106 : D0 mX8_copy 106 (.i2l) 1 107 := ⟨by decide +kernel, rfl⟩
theorem dX8_copy_107 : D0 mX8_copy 107 (.lcmp) 1 108 := ⟨by decide +kernel, rfl⟩
theorem dX8_copy_108 : DFle mX8_copy 108 117 111 := ⟨9, by decide +kernel, by decide, rfl⟩
theorem dX8_copy_111 : DLa mX8_copy 111 0 112 := Or.inl ⟨0, by decide +kernel, rfl, rfl⟩
theorem dX8_copy_112 : DKi mX8_copy 112 (nI 2) 113 := Or.inl ⟨2, by decide +kernel, by decide, rfl⟩
theorem dX8_copy_113 : D0 mX8_copy 113 (.invokevirtual 139) 3 116 := ⟨by decide +kernel, rfl⟩
theorem dX8_copy_116 : D0 mX8_copy 116 (.ireturn) 1 117 := ⟨by decide +kernel, rfl⟩
theorem dX8_copy_117 : DKi mX8_copy 117 (nI 0) 118 := Or.inl ⟨0, by decide +kernel, by decide, rfl⟩
theorem dX8_copy_118 : DSi mX8_copy 118 6 120 := ⟨by decide, Or.inr ⟨by decide +kernel, rfl⟩⟩
theorem dX8_copy_120 : DLi mX8_copy 120 6 122 := Or.inr ⟨by decide +kernel, rfl⟩
theorem dX8_copy_122 : DLi mX8_copy 122 5 124 := Or.inr ⟨by decide +kernel, rfl⟩
theorem dX8_copy_124 : DCge mX8_copy 124 154 127 := ⟨30, by decide +kernel, by decide, rfl⟩
theorem dX8_copy_127 : DLa mX8_copy 127 0 128 := Or.inl ⟨0, by decide +kernel, rfl, rfl⟩
theorem dX8_copy_128 : D0 mX8_copy 128 (.getfield 84) 3 131 := ⟨by decide +kernel, rfl⟩
theorem dX8_copy_131 : DLi mX8_copy 131 6 133 := Or.inr ⟨by decide +kernel, rfl⟩
theorem dX8_copy_133 : DLa mX8_copy 133 0 134 := Or.inl ⟨0, by decide +kernel, rfl, rfl⟩
theorem dX8_copy_134 : D0 mX8_copy 134 (.getfield 81) 3 137 := ⟨by decide +kernel, rfl⟩
theorem dX8_copy_137 : DKi mX8_copy 137 (nI 60) 139 := Or.inr (Or.inl ⟨60, by decide +kernel, by decide, rfl⟩)
theorem dX8_copy_139 : DLi mX8_copy 139 1 140 := Or.inl ⟨1, by decide +kernel, rfl, rfl⟩
theorem dX8_copy_140 : D0 mX8_copy 140 (.imul) 1 141 := ⟨by decide +kernel, rfl⟩
theorem dX8_copy_141 : DLi mX8_copy 141 2 142 := Or.inl ⟨2, by decide +kernel, rfl, rfl⟩
theorem dX8_copy_142 : D0 mX8_copy 142 (.iadd) 1 143 := ⟨by decide +kernel, rfl⟩
theorem dX8_copy_143 : DLi mX8_copy 143 6 145 := Or.inr ⟨by decide +kernel, rfl⟩
theorem dX8_copy_145 : D0 mX8_copy 145 (.iadd) 1 146 := ⟨by decide +kernel, rfl⟩
theorem dX8_copy_146 : D0 mX8_copy 146 (.iaload) 1 147 := ⟨by decide +kernel, rfl⟩
theorem dX8_copy_147 : D0 mX8_copy 147 (.iastore) 1 148 := ⟨by decide +kernel, rfl⟩
theorem dX8_copy_148 : DIn mX8_copy 148 6 (nI 1) 151 := ⟨by decide, 1, by decide +kernel, by decide, rfl⟩
theorem dX8_copy_151 : DG mX8_copy 151 120 := ⟨(-31), by decide +kernel, by decide⟩
theorem dX8_copy_154 : DKi mX8_copy 154 (nI 0) 155 := Or.inl ⟨0, by decide +kernel, by decide, rfl⟩
theorem dX8_copy_155 : DSi mX8_copy 155 6 157 := ⟨by decide, Or.inr ⟨by decide +kernel, rfl⟩⟩
theorem dX8_copy_157 : DLi mX8_copy 157 6 159 := Or.inr ⟨by decide +kernel, rfl⟩
theorem dX8_copy_159 : DLi mX8_copy 159 5 161 := Or.inr ⟨by decide +kernel, rfl⟩
theorem dX8_copy_161 : DCge mX8_copy 161 192 164 := ⟨31, by decide +kernel, by decide, rfl⟩
theorem dX8_copy_164 : DLa mX8_copy 164 0 165 := Or.inl ⟨0, by decide +kernel, rfl, rfl⟩
theorem dX8_copy_165 : D0 mX8_copy 165 (.getfield 81) 3 168 := ⟨by decide +kernel, rfl⟩
theorem dX8_copy_168 : DKi mX8_copy 168 (nI 60) 170 := Or.inr (Or.inl ⟨60, by decide +kernel, by decide, rfl⟩)
theorem dX8_copy_170 : DLi mX8_copy 170 3 171 := Or.inl ⟨3, by decide +kernel, rfl, rfl⟩
theorem dX8_copy_171 : D0 mX8_copy 171 (.imul) 1 172 := ⟨by decide +kernel, rfl⟩
theorem dX8_copy_172 : DLi mX8_copy 172 4 174 := Or.inr ⟨by decide +kernel, rfl⟩
theorem dX8_copy_174 : D0 mX8_copy 174 (.iadd) 1 175 := ⟨by decide +kernel, rfl⟩
theorem dX8_copy_175 : DLi mX8_copy 175 6 177 := Or.inr ⟨by decide +kernel, rfl⟩
theorem dX8_copy_177 : D0 mX8_copy 177 (.iadd) 1 178 := ⟨by decide +kernel, rfl⟩
theorem dX8_copy_178 : DLa mX8_copy 178 0 179 := Or.inl ⟨0, by decide +kernel, rfl, rfl⟩
theorem dX8_copy_179 : D0 mX8_copy 179 (.getfield 84) 3 182 := ⟨by decide +kernel, rfl⟩
theorem dX8_copy_182 : DLi mX8_copy 182 6 184 := Or.inr ⟨by decide +kernel, rfl⟩
theorem dX8_copy_184 : D0 mX8_copy 184 (.iaload) 1 185 := ⟨by decide +kernel, rfl⟩
theorem dX8_copy_185 : D0 mX8_copy 185 (.iastore) 1 186 := ⟨by decide +kernel, rfl⟩
theorem dX8_copy_186 : DIn mX8_copy 186 6 (nI 1) 189 := ⟨by decide, 1, by decide +kernel, by decide, rfl⟩
theorem dX8_copy_189 : DG mX8_copy 189 157 := ⟨(-32), by decide +kernel, by decide⟩
theorem dX8_copy_192 : DKi mX8_copy 192 (nI 1) 193 := Or.inl ⟨1, by decide +kernel, by decide, rfl⟩
theorem dX8_copy_193 : D0 mX8_copy 193 (.ireturn) 1 194 := ⟨by decide +kernel, rfl⟩
theorem dX8_write_0 : DLi mX8_write 0 1 1 := Or.inl ⟨1, by decide +kernel, rfl, rfl⟩
theorem dX8_write_1 : D0 mX8_write 1 (.invokestatic 148) 3 4 := ⟨by decide +kernel, rfl⟩
theorem dX8_write_4 : DFeq mX8_write 4 14 7 := ⟨10, by decide +kernel, by decide, rfl⟩
theorem dX8_write_7 : DLi mX8_write 7 2 8 := Or.inl ⟨2, by decide +kernel, rfl, rfl⟩
theorem dX8_write_8 : D0 mX8_write 8 (.invokestatic 136) 3 11 := ⟨by decide +kernel, rfl⟩
theorem dX8_write_11 : DFne mX8_write 11 17 14 := ⟨6, by decide +kernel, by decide, rfl⟩
theorem dX8_write_14 : DKi mX8_write 14 ((-2)) 16 := Or.inr (Or.inl ⟨(-2), by decide +kernel, by decide, rfl⟩)
theorem dX8_write_16 : D0 mX8_write 16 (.ireturn) 1 17 := ⟨by decide +kernel, rfl⟩
theorem dX8_write_17 : DLa mX8_write 17 0 18 := Or.inl ⟨0, by decide +kernel, rfl, rfl⟩
theorem dX8_write_18 : D0 mX8_write 18 (.getfield 71) 3 21 := ⟨by decide +kernel, rfl⟩
theorem dX8_write_21 : DLi mX8_write 21 2 22 := Or.inl ⟨2, by decide +kernel, rfl, rfl⟩
theorem dX8_write_22 : D0 mX8_write 22 (.baload) 1 23 := ⟨by decide +kernel, rfl⟩
theorem dX8_write_23 : DFne mX8_write 23 32 26 := ⟨9, by decide +kernel, by decide, rfl⟩
theorem dX8_write_26 : DLa mX8_write 26 0 27 := Or.inl ⟨0, by decide +kernel, rfl, rfl⟩
theorem dX8_write_27 : DKi mX8_write 27 (nI 1) 28 := Or.inl ⟨1, by decide +kernel, by decide, rfl⟩
theorem dX8_write_28 : D0 mX8_write 28 (.invokevirtual 139) 3 31 := ⟨by decide +kernel, rfl⟩
theorem dX8_write_31 : D0 mX8_write 31 (.ireturn) 1 32 := ⟨by decide +kernel, rfl⟩
theorem dX8_write_32 : DLa mX8_write 32 0 33 := Or.inl ⟨0, by decide +kernel, rfl, rfl⟩
theorem dX8_write_33 : D0 mX8_write 33 (.invokevirtual 145) 3 36 := ⟨by decide +kernel, rfl⟩
theorem dX8_write_36 : DKi mX8_write 36 (nI 0) 37 := Or.inl ⟨0, by decide +kernel, by decide, rfl⟩
theorem dX8_write_37 : DSi mX8_write 37 3 38 := ⟨by decide, Or.inl ⟨3, by decide +kernel, rfl, rfl⟩⟩
theorem dX8_write_38 : DLi mX8_write 38 3 39 := Or.inl ⟨3, by decide +kernel, rfl, rfl⟩
theorem dX8_write_39 : DLa mX8_write 39 0 40 := Or.inl ⟨0, by decide +kernel, rfl, rfl⟩
theorem dX8_write_40 : D0 mX8_write 40 (.getfield 78) 3 43 := ⟨by decide +kernel, rfl⟩
theorem dX8_write_43 : DLi mX8_write 43 2 44 := Or.inl ⟨2, by decide +kernel, rfl, rfl⟩
theorem dX8_write_44 : D0 mX8_write 44 (.iaload) 1 45 := ⟨by decide +kernel, rfl⟩
theorem dX8_write_45 : DCge mX8_write 45 76 48 := ⟨31, by decide +kernel, by decide, rfl⟩
theorem dX8_write_48 : DLi mX8_write 48 1 49 := Or.inl ⟨1, by decide +kernel, rfl, rfl⟩
theorem dX8_write_49 : DLi mX8_write 49 3 50 := Or.inl ⟨3, by decide +kernel, rfl, rfl⟩
theorem dX8_write_50 : D0 mX8_write 50 (.iadd) 1 51 := ⟨by decide +kernel, rfl⟩
theorem dX8_write_51 : DKi mX8_write 51 (nI 100) 53 := Or.inr (Or.inl ⟨100, by decide +kernel, by decide, rfl⟩)
theorem dX8_write_53 : DCge mX8_write 53 76 56 := ⟨23, by decide +kernel, by decide, rfl⟩
theorem dX8_write_56 : DLa mX8_write 56 0 57 := Or.inl ⟨0, by decide +kernel, rfl, rfl⟩
theorem dX8_write_57 : DLi mX8_write 57 2 58 := Or.inl ⟨2, by decide +kernel, rfl, rfl⟩
theorem dX8_write_58 : DLi mX8_write 58 3 59 := Or.inl ⟨3, by decide +kernel, rfl, rfl⟩
theorem dX8_write_59 : DLa mX8_write 59 0 60 := Or.inl ⟨0, by decide +kernel, rfl, rfl⟩
theorem dX8_write_60 : D0 mX8_write 60 (.getfield 40) 3 63 := ⟨by decide +kernel, rfl⟩
theorem dX8_write_63 : DLi mX8_write 63 1 64 := Or.inl ⟨1, by decide +kernel, rfl, rfl⟩
theorem dX8_write_64 : DLi mX8_write 64 3 65 := Or.inl ⟨3, by decide +kernel, rfl, rfl⟩
theorem dX8_write_65 : D0 mX8_write 65 (.iadd) 1 66 := ⟨by decide +kernel, rfl⟩
theorem dX8_write_66 : D0 mX8_write 66 (.iaload) 1 67 := ⟨by decide +kernel, rfl⟩
theorem dX8_write_67 : D0 mX8_write 67 (.invokevirtual 240) 3 70 := ⟨by decide +kernel, rfl⟩
theorem dX8_write_70 : DIn mX8_write 70 3 (nI 1) 73 := ⟨by decide, 1, by decide +kernel, by decide, rfl⟩
theorem dX8_write_73 : DG mX8_write 73 38 := ⟨(-35), by decide +kernel, by decide⟩
theorem dX8_write_76 : DLi mX8_write 76 3 77 := Or.inl ⟨3, by decide +kernel, rfl, rfl⟩
theorem dX8_write_77 : D0 mX8_write 77 (.ireturn) 1 78 := ⟨by decide +kernel, rfl⟩
theorem dX8_sumOf_0 : DLa mX8_sumOf 0 0 1 := Or.inl ⟨0, by decide +kernel, rfl, rfl⟩
theorem dX8_sumOf_1 : D0 mX8_sumOf 1 (.invokevirtual 115) 3 4 := ⟨by decide +kernel, rfl⟩
theorem dX8_sumOf_4 : DSi mX8_sumOf 4 2 5 := ⟨by decide, Or.inl ⟨2, by decide +kernel, rfl, rfl⟩⟩
theorem dX8_sumOf_5 : DKi mX8_sumOf 5 (nI 0) 6 := Or.inl ⟨0, by decide +kernel, by decide, rfl⟩
theorem dX8_sumOf_6 : DSi mX8_sumOf 6 3 7 := ⟨by decide, Or.inl ⟨3, by decide +kernel, rfl, rfl⟩⟩
theorem dX8_sumOf_7 : DKi mX8_sumOf 7 (nI 0) 8 := Or.inl ⟨0, by decide +kernel, by decide, rfl⟩
theorem dX8_sumOf_8 : DSi mX8_sumOf 8 4 10 := ⟨by decide, Or.inr ⟨by decide +kernel, rfl⟩⟩
theorem dX8_sumOf_10 : DLi mX8_sumOf 10 4 12 := Or.inr ⟨by decide +kernel, rfl⟩
theorem dX8_sumOf_12 : DLa mX8_sumOf 12 0 13 := Or.inl ⟨0, by decide +kernel, rfl, rfl⟩
theorem dX8_sumOf_13 : D0 mX8_sumOf 13 (.getfield 129) 3 16 := ⟨by decide +kernel, rfl⟩
theorem dX8_sumOf_16 : DCge mX8_sumOf 16 47 19 := ⟨31, by decide +kernel, by decide, rfl⟩
theorem dX8_sumOf_19 : DLi mX8_sumOf 19 1 20 := Or.inl ⟨1, by decide +kernel, rfl, rfl⟩
theorem dX8_sumOf_20 : DKi mX8_sumOf 20 (nI 1) 21 := Or.inl ⟨1, by decide +kernel, by decide, rfl⟩
theorem dX8_sumOf_21 : DCne mX8_sumOf 21 47 24 := ⟨26, by decide +kernel, by decide, rfl⟩
theorem dX8_sumOf_24 : DLi mX8_sumOf 24 3 25 := Or.inl ⟨3, by decide +kernel, rfl, rfl⟩
theorem dX8_sumOf_25 : DLa mX8_sumOf 25 0 26 := Or.inl ⟨0, by decide +kernel, rfl, rfl⟩
theorem dX8_sumOf_26 : DLi mX8_sumOf 26 4 28 := Or.inr ⟨by decide +kernel, rfl⟩
theorem dX8_sumOf_28 : D0 mX8_sumOf 28 (.invokevirtual 142) 3 31 := ⟨by decide +kernel, rfl⟩
theorem dX8_sumOf_31 : DFeq mX8_sumOf 31 38 34 := ⟨7, by decide +kernel, by decide, rfl⟩
theorem dX8_sumOf_34 : DKi mX8_sumOf 34 (nI 1) 35 := Or.inl ⟨1, by decide +kernel, by decide, rfl⟩
theorem dX8_sumOf_35 : DG mX8_sumOf 35 39 := ⟨4, by decide +kernel, by decide⟩
theorem dX8_sumOf_38 : DKi mX8_sumOf 38 (nI 0) 39 := Or.inl ⟨0, by decide +kernel, by decide, rfl⟩
theorem dX8_sumOf_39 : D0 mX8_sumOf 39 (.iadd) 1 40 := ⟨by decide +kernel, rfl⟩
theorem dX8_sumOf_40 : DSi mX8_sumOf 40 3 41 := ⟨by decide, Or.inl ⟨3, by decide +kernel, rfl, rfl⟩⟩
theorem dX8_sumOf_41 : DIn mX8_sumOf 41 4 (nI 1) 44 := ⟨by decide, 1, by decide +kernel, by decide, rfl⟩
theorem dX8_sumOf_44 : DG mX8_sumOf 44 10 := ⟨(-34), by decide +kernel, by decide⟩
theorem dX8_sumOf_47 : DKi mX8_sumOf 47 (nI 0) 48 := Or.inl ⟨0, by decide +kernel, by decide, rfl⟩
theorem dX8_sumOf_48 : DSi mX8_sumOf 48 4 50 := ⟨by decide, Or.inr ⟨by decide +kernel, rfl⟩⟩
theorem dX8_sumOf_50 : DLi mX8_sumOf 50 4 52 := Or.inr ⟨by decide +kernel, rfl⟩
theorem dX8_sumOf_52 : DKi mX8_sumOf 52 (nI 8) 54 := Or.inr (Or.inl ⟨8, by decide +kernel, by decide, rfl⟩)
theorem dX8_sumOf_54 : DCge mX8_sumOf 54 104 57 := ⟨50, by decide +kernel, by decide, rfl⟩
theorem dX8_sumOf_57 : DLi mX8_sumOf 57 3 58 := Or.inl ⟨3, by decide +kernel, rfl, rfl⟩
theorem dX8_sumOf_58 : DLi mX8_sumOf 58 1 59 := Or.inl ⟨1, by decide +kernel, rfl, rfl⟩
theorem dX8_sumOf_59 : DKi mX8_sumOf 59 (nI 4) 60 := Or.inl ⟨4, by decide +kernel, by decide, rfl⟩
theorem dX8_sumOf_60 : DCne mX8_sumOf 60 73 63 := ⟨13, by decide +kernel, by decide, rfl⟩
theorem dX8_sumOf_63 : DLa mX8_sumOf 63 0 64 := Or.inl ⟨0, by decide +kernel, rfl, rfl⟩
theorem dX8_sumOf_64 : D0 mX8_sumOf 64 (.getfield 16) 3 67 := ⟨by decide +kernel, rfl⟩
theorem dX8_sumOf_67 : DLi mX8_sumOf 67 4 69 := Or.inr ⟨by decide +kernel, rfl⟩
theorem dX8_sumOf_69 : D0 mX8_sumOf 69 (.iaload) 1 70 := ⟨by decide +kernel, rfl⟩
theorem dX8_sumOf_70 : DG mX8_sumOf 70 96 := ⟨26, by decide +kernel, by decide⟩
theorem dX8_sumOf_73 : DLi mX8_sumOf 73 1 74 := Or.inl ⟨1, by decide +kernel, rfl, rfl⟩
theorem dX8_sumOf_74 : DKi mX8_sumOf 74 (nI 7) 76 := Or.inr (Or.inl ⟨7, by decide +kernel, by decide, rfl⟩)
theorem dX8_sumOf_76 : DCne mX8_sumOf 76 95 79 := ⟨19, by decide +kernel, by decide, rfl⟩
theorem dX8_sumOf_79 : DLa mX8_sumOf 79 0 80 := Or.inl ⟨0, by decide +kernel, rfl, rfl⟩
theorem dX8_sumOf_80 : D0 mX8_sumOf 80 (.getfield 56) 3 83 := ⟨by decide +kernel, rfl⟩
theorem dX8_sumOf_83 : DLi mX8_sumOf 83 4 85 := Or.inr ⟨by decide +kernel, rfl⟩
theorem dX8_sumOf_85 : D0 mX8_sumOf 85 (.iaload) 1 86 := ⟨by decide +kernel, rfl⟩
theorem dX8_sumOf_86 : DLi mX8_sumOf 86 4 88 := Or.inr ⟨by decide +kernel, rfl⟩
theorem dX8_sumOf_88 : DCne mX8_sumOf 88 95 91 := ⟨7, by decide +kernel, by decide, rfl⟩
theorem dX8_sumOf_91 : DKi mX8_sumOf 91 (nI 1) 92 := Or.inl ⟨1, by decide +kernel, by decide, rfl⟩
theorem dX8_sumOf_92 : DG mX8_sumOf 92 96 := ⟨4, by decide +kernel, by decide⟩
theorem dX8_sumOf_95 : DKi mX8_sumOf 95 (nI 0) 96 := Or.inl ⟨0, by decide +kernel, by decide, rfl⟩
theorem dX8_sumOf_96 : D0 mX8_sumOf 96 (.iadd) 1 97 := ⟨by decide +kernel, rfl⟩
theorem dX8_sumOf_97 : DSi mX8_sumOf 97 3 98 := ⟨by decide, Or.inl ⟨3, by decide +kernel, rfl, rfl⟩⟩
theorem dX8_sumOf_98 : DIn mX8_sumOf 98 4 (nI 1) 101 := ⟨by decide, 1, by decide +kernel, by decide, rfl⟩
theorem dX8_sumOf_101 : DG mX8_sumOf 101 50 := ⟨(-51), by decide +kernel, by decide⟩
theorem dX8_sumOf_104 : DLi mX8_sumOf 104 1 105 := Or.inl ⟨1, by decide +kernel, rfl, rfl⟩
theorem dX8_sumOf_105 : DKi mX8_sumOf 105 (nI 3) 106 := Or.inl ⟨3, by decide +kernel, by decide, rfl⟩
theorem dX8_sumOf_106 : DCne mX8_sumOf 106 116 109 := ⟨10, by decide +kernel, by decide, rfl⟩
theorem dX8_sumOf_109 : DLa mX8_sumOf 109 0 110 := Or.inl ⟨0, by decide +kernel, rfl, rfl⟩
theorem dX8_sumOf_110 : D0 mX8_sumOf 110 (.getfield 97) 3 113 := ⟨by decide +kernel, rfl⟩
theorem dX8_sumOf_113 : DG mX8_sumOf 113 117 := ⟨4, by decide +kernel, by decide⟩
theorem dX8_sumOf_116 : DLi mX8_sumOf 116 3 117 := Or.inl ⟨3, by decide +kernel, rfl, rfl⟩
theorem dX8_sumOf_117 : D0 mX8_sumOf 117 (.ireturn) 1 118 := ⟨by decide +kernel, rfl⟩
theorem dX8_count_0 : DLi mX8_count 0 1 1 := Or.inl ⟨1, by decide +kernel, rfl, rfl⟩
theorem dX8_count_1 : decode (mC mX8_count) 1 = .ok (.tableswitch 81 0 8 #[51, 56, 62, 56, 56, 67, 67, 56, 76], 51) := by decide +kernel
theorem dX8_count_52 : DLa mX8_count 52 0 53 := Or.inl ⟨0, by decide +kernel, rfl, rfl⟩
theorem dX8_count_53 : D0 mX8_count 53 (.getfield 129) 3 56 := ⟨by decide +kernel, rfl⟩
theorem dX8_count_56 : D0 mX8_count 56 (.ireturn) 1 57 := ⟨by decide +kernel, rfl⟩
theorem dX8_count_57 : DLa mX8_count 57 0 58 := Or.inl ⟨0, by decide +kernel, rfl, rfl⟩
theorem dX8_count_58 : DLi mX8_count 58 1 59 := Or.inl ⟨1, by decide +kernel, rfl, rfl⟩
theorem dX8_count_59 : D0 mX8_count 59 (.invokevirtual 245) 3 62 := ⟨by decide +kernel, rfl⟩
theorem dX8_count_62 : D0 mX8_count 62 (.ireturn) 1 63 := ⟨by decide +kernel, rfl⟩
theorem dX8_count_63 : DLa mX8_count 63 0 64 := Or.inl ⟨0, by decide +kernel, rfl, rfl⟩
theorem dX8_count_64 : D0 mX8_count 64 (.getfield 93) 3 67 := ⟨by decide +kernel, rfl⟩
theorem dX8_count_67 : D0 mX8_count 67 (.ireturn) 1 68 := ⟨by decide +kernel, rfl⟩
theorem dX8_count_68 : DLa mX8_count 68 0 69 := Or.inl ⟨0, by decide +kernel, rfl, rfl⟩
theorem dX8_count_69 : D0 mX8_count 69 (.getfield 37) 3 72 := ⟨by decide +kernel, rfl⟩
theorem dX8_count_72 : DLi mX8_count 72 1 73 := Or.inl ⟨1, by decide +kernel, rfl, rfl⟩
theorem dX8_count_73 : DKi mX8_count 73 (nI 5) 74 := Or.inl ⟨5, by decide +kernel, by decide, rfl⟩
theorem dX8_count_74 : D0 mX8_count 74 (.isub) 1 75 := ⟨by decide +kernel, rfl⟩
theorem dX8_count_75 : D0 mX8_count 75 (.iaload) 1 76 := ⟨by decide +kernel, rfl⟩
theorem dX8_count_76 : D0 mX8_count 76 (.ireturn) 1 77 := ⟨by decide +kernel, rfl⟩
theorem dX8_count_77 : DLa mX8_count 77 0 78 := Or.inl ⟨0, by decide +kernel, rfl, rfl⟩
theorem dX8_count_78 : D0 mX8_count 78 (.getfield 234) 3 81 := ⟨by decide +kernel, rfl⟩
theorem dX8_count_81 : D0 mX8_count 81 (.ireturn) 1 82 := ⟨by decide +kernel, rfl⟩
theorem dX8_count_82 : DKi mX8_count 82 ((-2)) 84 := Or.inr (Or.inl ⟨(-2), by decide +kernel, by decide, rfl⟩)
theorem dX8_count_84 : D0 mX8_count 84 (.ireturn) 1 85 := ⟨by decide +kernel, rfl⟩
theorem dX8_digest_0 : DKl mX8_digest 0 (lN 17) 3 := Or.inr ⟨248, by decide +kernel, bt718, rfl⟩
theorem dX8_digest_3 : DSl mX8_digest 3 1 4 := ⟨by decide, Or.inl ⟨1, by decide +kernel, rfl, rfl⟩⟩
theorem dX8_digest_4 : DKi mX8_digest 4 (nI 0) 5 := Or.inl ⟨0, by decide +kernel, by decide, rfl⟩
theorem dX8_digest_5 : DSi mX8_digest 5 3 6 := ⟨by decide, Or.inl ⟨3, by decide +kernel, rfl, rfl⟩⟩
theorem dX8_digest_6 : DLi mX8_digest 6 3 7 := Or.inl ⟨3, by decide +kernel, rfl, rfl⟩
theorem dX8_digest_7 : DKi mX8_digest 7 (nI 8) 9 := Or.inr (Or.inl ⟨8, by decide +kernel, by decide, rfl⟩)
theorem dX8_digest_9 : DCge mX8_digest 9 31 12 := ⟨22, by decide +kernel, by decide, rfl⟩
theorem dX8_digest_12 : DKl mX8_digest 12 (lN 31) 15 := Or.inr ⟨250, by decide +kernel, bt719, rfl⟩
theorem dX8_digest_15 : DLl mX8_digest 15 1 16 := Or.inl ⟨1, by decide +kernel, rfl, rfl⟩
theorem dX8_digest_16 : D0 mX8_digest 16 (.lmul) 1 17 := ⟨by decide +kernel, rfl⟩
theorem dX8_digest_17 : DLa mX8_digest 17 0 18 := Or.inl ⟨0, by decide +kernel, rfl, rfl⟩
theorem dX8_digest_18 : DLi mX8_digest 18 3 19 := Or.inl ⟨3, by decide +kernel, rfl, rfl⟩
theorem dX8_digest_19 : D0 mX8_digest 19 (.invokevirtual 252) 3 22 := ⟨by decide +kernel, rfl⟩
theorem dX8_digest_22 : D0 mX8_digest 22 (.i2l) 1 23 := ⟨by decide +kernel, rfl⟩
theorem dX8_digest_23 : D0 mX8_digest 23 (.ladd) 1 24 := ⟨by decide +kernel, rfl⟩
theorem dX8_digest_24 : DSl mX8_digest 24 1 25 := ⟨by decide, Or.inl ⟨1, by decide +kernel, rfl, rfl⟩⟩
theorem dX8_digest_25 : DIn mX8_digest 25 3 (nI 1) 28 := ⟨by decide, 1, by decide +kernel, by decide, rfl⟩
theorem dX8_digest_28 : DG mX8_digest 28 6 := ⟨(-22), by decide +kernel, by decide⟩
theorem dX8_digest_31 : DKl mX8_digest 31 (lN 31) 34 := Or.inr ⟨250, by decide +kernel, bt719, rfl⟩
theorem dX8_digest_34 : DLl mX8_digest 34 1 35 := Or.inl ⟨1, by decide +kernel, rfl, rfl⟩
theorem dX8_digest_35 : D0 mX8_digest 35 (.lmul) 1 36 := ⟨by decide +kernel, rfl⟩
theorem dX8_digest_36 : DLa mX8_digest 36 0 37 := Or.inl ⟨0, by decide +kernel, rfl, rfl⟩
theorem dX8_digest_37 : D0 mX8_digest 37 (.invokevirtual 115) 3 40 := ⟨by decide +kernel, rfl⟩
theorem dX8_digest_40 : D0 mX8_digest 40 (.i2l) 1 41 := ⟨by decide +kernel, rfl⟩
theorem dX8_digest_41 : D0 mX8_digest 41 (.ladd) 1 42 := ⟨by decide +kernel, rfl⟩
theorem dX8_digest_42 : DSl mX8_digest 42 1 43 := ⟨by decide, Or.inl ⟨1, by decide +kernel, rfl, rfl⟩⟩
theorem dX8_digest_43 : DKi mX8_digest 43 (nI 0) 44 := Or.inl ⟨0, by decide +kernel, by decide, rfl⟩
theorem dX8_digest_44 : DSi mX8_digest 44 3 45 := ⟨by decide, Or.inl ⟨3, by decide +kernel, rfl, rfl⟩⟩
theorem dX8_digest_45 : DLi mX8_digest 45 3 46 := Or.inl ⟨3, by decide +kernel, rfl, rfl⟩
theorem dX8_digest_46 : DKi mX8_digest 46 (nI 8) 48 := Or.inr (Or.inl ⟨8, by decide +kernel, by decide, rfl⟩)
theorem dX8_digest_48 : DCge mX8_digest 48 87 51 := ⟨39, by decide +kernel, by decide, rfl⟩
theorem dX8_digest_51 : DKi mX8_digest 51 (nI 0) 52 := Or.inl ⟨0, by decide +kernel, by decide, rfl⟩
theorem dX8_digest_52 : DSi mX8_digest 52 4 54 := ⟨by decide, Or.inr ⟨by decide +kernel, rfl⟩⟩
theorem dX8_digest_54 : DLi mX8_digest 54 4 56 := Or.inr ⟨by decide +kernel, rfl⟩
theorem dX8_digest_56 : DKi mX8_digest 56 (nI 3) 57 := Or.inl ⟨3, by decide +kernel, by decide, rfl⟩
theorem dX8_digest_57 : DCge mX8_digest 57 81 60 := ⟨24, by decide +kernel, by decide, rfl⟩
theorem dX8_digest_60 : DKl mX8_digest 60 (lN 31) 63 := Or.inr ⟨250, by decide +kernel, bt719, rfl⟩
theorem dX8_digest_63 : DLl mX8_digest 63 1 64 := Or.inl ⟨1, by decide +kernel, rfl, rfl⟩
theorem dX8_digest_64 : D0 mX8_digest 64 (.lmul) 1 65 := ⟨by decide +kernel, rfl⟩
theorem dX8_digest_65 : DLa mX8_digest 65 0 66 := Or.inl ⟨0, by decide +kernel, rfl, rfl⟩
theorem dX8_digest_66 : DLi mX8_digest 66 3 67 := Or.inl ⟨3, by decide +kernel, rfl, rfl⟩
theorem dX8_digest_67 : DLi mX8_digest 67 4 69 := Or.inr ⟨by decide +kernel, rfl⟩
theorem dX8_digest_69 : D0 mX8_digest 69 (.invokevirtual 122) 3 72 := ⟨by decide +kernel, rfl⟩
theorem dX8_digest_72 : D0 mX8_digest 72 (.i2l) 1 73 := ⟨by decide +kernel, rfl⟩
theorem dX8_digest_73 : D0 mX8_digest 73 (.ladd) 1 74 := ⟨by decide +kernel, rfl⟩
theorem dX8_digest_74 : DSl mX8_digest 74 1 75 := ⟨by decide, Or.inl ⟨1, by decide +kernel, rfl, rfl⟩⟩
theorem dX8_digest_75 : DIn mX8_digest 75 4 (nI 1) 78 := ⟨by decide, 1, by decide +kernel, by decide, rfl⟩
theorem dX8_digest_78 : DG mX8_digest 78 54 := ⟨(-24), by decide +kernel, by decide⟩
theorem dX8_digest_81 : DIn mX8_digest 81 3 (nI 1) 84 := ⟨by decide, 1, by decide +kernel, by decide, rfl⟩
theorem dX8_digest_84 : DG mX8_digest 84 45 := ⟨(-39), by decide +kernel, by decide⟩
theorem dX8_digest_87 : DKi mX8_digest 87 (nI 0) 88 := Or.inl ⟨0, by decide +kernel, by decide, rfl⟩
theorem dX8_digest_88 : DSi mX8_digest 88 3 89 := ⟨by decide, Or.inl ⟨3, by decide +kernel, rfl, rfl⟩⟩
theorem dX8_digest_89 : DLi mX8_digest 89 3 90 := Or.inl ⟨3, by decide +kernel, rfl, rfl⟩
theorem dX8_digest_90 : DKi mX8_digest 90 (nI 5) 91 := Or.inl ⟨5, by decide +kernel, by decide, rfl⟩
theorem dX8_digest_91 : DCge mX8_digest 91 126 94 := ⟨35, by decide +kernel, by decide, rfl⟩
theorem dX8_digest_94 : DKl mX8_digest 94 (lN 31) 97 := Or.inr ⟨250, by decide +kernel, bt719, rfl⟩
theorem dX8_digest_97 : DLl mX8_digest 97 1 98 := Or.inl ⟨1, by decide +kernel, rfl, rfl⟩
theorem dX8_digest_98 : D0 mX8_digest 98 (.lmul) 1 99 := ⟨by decide +kernel, rfl⟩
theorem dX8_digest_99 : DLa mX8_digest 99 0 100 := Or.inl ⟨0, by decide +kernel, rfl, rfl⟩
theorem dX8_digest_100 : DLi mX8_digest 100 3 101 := Or.inl ⟨3, by decide +kernel, rfl, rfl⟩
theorem dX8_digest_101 : DKi mX8_digest 101 (nI 4) 102 := Or.inl ⟨4, by decide +kernel, by decide, rfl⟩
theorem dX8_digest_102 : DCne mX8_digest 102 110 105 := ⟨8, by decide +kernel, by decide, rfl⟩
theorem dX8_digest_105 : DKi mX8_digest 105 (nI 99) 107 := Or.inr (Or.inl ⟨99, by decide +kernel, by decide, rfl⟩)
theorem dX8_digest_107 : DG mX8_digest 107 114 := ⟨7, by decide +kernel, by decide⟩
theorem dX8_digest_110 : DKi mX8_digest 110 (nI 25) 112 := Or.inr (Or.inl ⟨25, by decide +kernel, by decide, rfl⟩)
theorem dX8_digest_112 : DLi mX8_digest 112 3 113 := Or.inl ⟨3, by decide +kernel, rfl, rfl⟩
theorem dX8_digest_113 : D0 mX8_digest 113 (.imul) 1 114 := ⟨by decide +kernel, rfl⟩
theorem dX8_digest_114 : D0 mX8_digest 114 (.invokevirtual 151) 3 117 := ⟨by decide +kernel, rfl⟩
theorem dX8_digest_117 : D0 mX8_digest 117 (.i2l) 1 118 := ⟨by decide +kernel, rfl⟩
theorem dX8_digest_118 : D0 mX8_digest 118 (.ladd) 1 119 := ⟨by decide +kernel, rfl⟩
theorem dX8_digest_119 : DSl mX8_digest 119 1 120 := ⟨by decide, Or.inl ⟨1, by decide +kernel, rfl, rfl⟩⟩
theorem dX8_digest_120 : DIn mX8_digest 120 3 (nI 1) 123 := ⟨by decide, 1, by decide +kernel, by decide, rfl⟩
theorem dX8_digest_123 : DG mX8_digest 123 89 := ⟨(-34), by decide +kernel, by decide⟩
theorem dX8_digest_126 : DKi mX8_digest 126 (nI 0) 127 := Or.inl ⟨0, by decide +kernel, by decide, rfl⟩
theorem dX8_digest_127 : DSi mX8_digest 127 3 128 := ⟨by decide, Or.inl ⟨3, by decide +kernel, rfl, rfl⟩⟩
theorem dX8_digest_128 : DLi mX8_digest 128 3 129 := Or.inl ⟨3, by decide +kernel, rfl, rfl⟩
theorem dX8_digest_129 : DKi mX8_digest 129 (nI 8) 131 := Or.inr (Or.inl ⟨8, by decide +kernel, by decide, rfl⟩)
theorem dX8_digest_131 : DCge mX8_digest 131 236 134 := ⟨105, by decide +kernel, by decide, rfl⟩
theorem dX8_digest_134 : DKl mX8_digest 134 (lN 31) 137 := Or.inr ⟨250, by decide +kernel, bt719, rfl⟩
theorem dX8_digest_137 : DLl mX8_digest 137 1 138 := Or.inl ⟨1, by decide +kernel, rfl, rfl⟩
theorem dX8_digest_138 : D0 mX8_digest 138 (.lmul) 1 139 := ⟨by decide +kernel, rfl⟩
theorem dX8_digest_139 : DLa mX8_digest 139 0 140 := Or.inl ⟨0, by decide +kernel, rfl, rfl⟩
theorem dX8_digest_140 : DLi mX8_digest 140 3 141 := Or.inl ⟨3, by decide +kernel, rfl, rfl⟩
theorem dX8_digest_141 : DKi mX8_digest 141 (nI 50) 143 := Or.inr (Or.inl ⟨50, by decide +kernel, by decide, rfl⟩)
theorem dX8_digest_143 : DKi mX8_digest 143 (nI 1) 144 := Or.inl ⟨1, by decide +kernel, by decide, rfl⟩
theorem dX8_digest_144 : D0 mX8_digest 144 (.invokevirtual 160) 3 147 := ⟨by decide +kernel, rfl⟩
theorem dX8_digest_147 : D0 mX8_digest 147 (.i2l) 1 148 := ⟨by decide +kernel, rfl⟩
theorem dX8_digest_148 : D0 mX8_digest 148 (.ladd) 1 149 := ⟨by decide +kernel, rfl⟩
theorem dX8_digest_149 : DSl mX8_digest 149 1 150 := ⟨by decide, Or.inl ⟨1, by decide +kernel, rfl, rfl⟩⟩
theorem dX8_digest_150 : DKl mX8_digest 150 (lN 31) 153 := Or.inr ⟨250, by decide +kernel, bt719, rfl⟩
theorem dX8_digest_153 : DLl mX8_digest 153 1 154 := Or.inl ⟨1, by decide +kernel, rfl, rfl⟩
theorem dX8_digest_154 : D0 mX8_digest 154 (.lmul) 1 155 := ⟨by decide +kernel, rfl⟩
theorem dX8_digest_155 : DLa mX8_digest 155 0 156 := Or.inl ⟨0, by decide +kernel, rfl, rfl⟩
theorem dX8_digest_156 : DLi mX8_digest 156 3 157 := Or.inl ⟨3, by decide +kernel, rfl, rfl⟩
theorem dX8_digest_157 : DKi mX8_digest 157 (nI 50) 159 := Or.inr (Or.inl ⟨50, by decide +kernel, by decide, rfl⟩)
theorem dX8_digest_159 : DKi mX8_digest 159 (nI 2) 160 := Or.inl ⟨2, by decide +kernel, by decide, rfl⟩
theorem dX8_digest_160 : D0 mX8_digest 160 (.invokevirtual 160) 3 163 := ⟨by decide +kernel, rfl⟩
theorem dX8_digest_163 : D0 mX8_digest 163 (.i2l) 1 164 := ⟨by decide +kernel, rfl⟩
theorem dX8_digest_164 : D0 mX8_digest 164 (.ladd) 1 165 := ⟨by decide +kernel, rfl⟩
theorem dX8_digest_165 : DSl mX8_digest 165 1 166 := ⟨by decide, Or.inl ⟨1, by decide +kernel, rfl, rfl⟩⟩
theorem dX8_digest_166 : DKl mX8_digest 166 (lN 31) 169 := Or.inr ⟨250, by decide +kernel, bt719, rfl⟩
theorem dX8_digest_169 : DLl mX8_digest 169 1 170 := Or.inl ⟨1, by decide +kernel, rfl, rfl⟩
theorem dX8_digest_170 : D0 mX8_digest 170 (.lmul) 1 171 := ⟨by decide +kernel, rfl⟩
theorem dX8_digest_171 : DLa mX8_digest 171 0 172 := Or.inl ⟨0, by decide +kernel, rfl, rfl⟩
theorem dX8_digest_172 : DLi mX8_digest 172 3 173 := Or.inl ⟨3, by decide +kernel, rfl, rfl⟩
theorem dX8_digest_173 : DKi mX8_digest 173 (nI 0) 174 := Or.inl ⟨0, by decide +kernel, by decide, rfl⟩
theorem dX8_digest_174 : DKi mX8_digest 174 (nI 99) 176 := Or.inr (Or.inl ⟨99, by decide +kernel, by decide, rfl⟩)
theorem dX8_digest_176 : D0 mX8_digest 176 (.invokevirtual 181) 3 179 := ⟨by decide +kernel, rfl⟩
theorem dX8_digest_179 : D0 mX8_digest 179 (.i2l) 1 180 := ⟨by decide +kernel, rfl⟩
theorem dX8_digest_180 : D0 mX8_digest 180 (.ladd) 1 181 := ⟨by decide +kernel, rfl⟩
theorem dX8_digest_181 : DSl mX8_digest 181 1 182 := ⟨by decide, Or.inl ⟨1, by decide +kernel, rfl, rfl⟩⟩
theorem dX8_digest_182 : DKl mX8_digest 182 (lN 31) 185 := Or.inr ⟨250, by decide +kernel, bt719, rfl⟩
theorem dX8_digest_185 : DLl mX8_digest 185 1 186 := Or.inl ⟨1, by decide +kernel, rfl, rfl⟩
theorem dX8_digest_186 : D0 mX8_digest 186 (.lmul) 1 187 := ⟨by decide +kernel, rfl⟩
theorem dX8_digest_187 : DLa mX8_digest 187 0 188 := Or.inl ⟨0, by decide +kernel, rfl, rfl⟩
theorem dX8_digest_188 : DLi mX8_digest 188 3 189 := Or.inl ⟨3, by decide +kernel, rfl, rfl⟩
theorem dX8_digest_189 : DKi mX8_digest 189 (nI 0) 190 := Or.inl ⟨0, by decide +kernel, by decide, rfl⟩
theorem dX8_digest_190 : DKi mX8_digest 190 (nI 10) 192 := Or.inr (Or.inl ⟨10, by decide +kernel, by decide, rfl⟩)
theorem dX8_digest_192 : DKi mX8_digest 192 (nI 0) 193 := Or.inl ⟨0, by decide +kernel, by decide, rfl⟩
theorem dX8_digest_193 : D0 mX8_digest 193 (.invokevirtual 204) 3 196 := ⟨by decide +kernel, rfl⟩
theorem dX8_digest_196 : D0 mX8_digest 196 (.i2l) 1 197 := ⟨by decide +kernel, rfl⟩
theorem dX8_digest_197 : D0 mX8_digest 197 (.ladd) 1 198 := ⟨by decide +kernel, rfl⟩
theorem dX8_digest_198 : DSl mX8_digest 198 1 199 := ⟨by decide, Or.inl ⟨1, by decide +kernel, rfl, rfl⟩⟩
theorem dX8_digest_199 : DKl mX8_digest 199 (lN 31) 202 := Or.inr ⟨250, by decide +kernel, bt719, rfl⟩
theorem dX8_digest_202 : DLl mX8_digest 202 1 203 := Or.inl ⟨1, by decide +kernel, rfl, rfl⟩
theorem dX8_digest_203 : D0 mX8_digest 203 (.lmul) 1 204 := ⟨by decide +kernel, rfl⟩
theorem dX8_digest_204 : DLa mX8_digest 204 0 205 := Or.inl ⟨0, by decide +kernel, rfl, rfl⟩
theorem dX8_digest_205 : DLi mX8_digest 205 3 206 := Or.inl ⟨3, by decide +kernel, rfl, rfl⟩
theorem dX8_digest_206 : DKi mX8_digest 206 (nI 0) 207 := Or.inl ⟨0, by decide +kernel, by decide, rfl⟩
theorem dX8_digest_207 : DKi mX8_digest 207 (nI 10) 209 := Or.inr (Or.inl ⟨10, by decide +kernel, by decide, rfl⟩)
theorem dX8_digest_209 : DKi mX8_digest 209 (nI 1) 210 := Or.inl ⟨1, by decide +kernel, by decide, rfl⟩
theorem dX8_digest_210 : D0 mX8_digest 210 (.invokevirtual 204) 3 213 := ⟨by decide +kernel, rfl⟩
theorem dX8_digest_213 : D0 mX8_digest 213 (.i2l) 1 214 := ⟨by decide +kernel, rfl⟩
theorem dX8_digest_214 : D0 mX8_digest 214 (.ladd) 1 215 := ⟨by decide +kernel, rfl⟩
theorem dX8_digest_215 : DSl mX8_digest 215 1 216 := ⟨by decide, Or.inl ⟨1, by decide +kernel, rfl, rfl⟩⟩
theorem dX8_digest_216 : DKl mX8_digest 216 (lN 31) 219 := Or.inr ⟨250, by decide +kernel, bt719, rfl⟩
theorem dX8_digest_219 : DLl mX8_digest 219 1 220 := Or.inl ⟨1, by decide +kernel, rfl, rfl⟩
theorem dX8_digest_220 : D0 mX8_digest 220 (.lmul) 1 221 := ⟨by decide +kernel, rfl⟩
theorem dX8_digest_221 : DLa mX8_digest 221 0 222 := Or.inl ⟨0, by decide +kernel, rfl, rfl⟩
theorem dX8_digest_222 : DLi mX8_digest 222 3 223 := Or.inl ⟨3, by decide +kernel, rfl, rfl⟩
theorem dX8_digest_223 : DKi mX8_digest 223 (nI 0) 224 := Or.inl ⟨0, by decide +kernel, by decide, rfl⟩
theorem dX8_digest_224 : D0 mX8_digest 224 (.invokevirtual 228) 3 227 := ⟨by decide +kernel, rfl⟩
theorem dX8_digest_227 : D0 mX8_digest 227 (.i2l) 1 228 := ⟨by decide +kernel, rfl⟩
theorem dX8_digest_228 : D0 mX8_digest 228 (.ladd) 1 229 := ⟨by decide +kernel, rfl⟩
theorem dX8_digest_229 : DSl mX8_digest 229 1 230 := ⟨by decide, Or.inl ⟨1, by decide +kernel, rfl, rfl⟩⟩
theorem dX8_digest_230 : DIn mX8_digest 230 3 (nI 1) 233 := ⟨by decide, 1, by decide +kernel, by decide, rfl⟩
theorem dX8_digest_233 : DG mX8_digest 233 128 := ⟨(-105), by decide +kernel, by decide⟩
theorem dX8_digest_236 : DKi mX8_digest 236 (nI 0) 237 := Or.inl ⟨0, by decide +kernel, by decide, rfl⟩
theorem dX8_digest_237 : DSi mX8_digest 237 3 238 := ⟨by decide, Or.inl ⟨3, by decide +kernel, rfl, rfl⟩⟩
theorem dX8_digest_238 : DLi mX8_digest 238 3 239 := Or.inl ⟨3, by decide +kernel, rfl, rfl⟩
theorem dX8_digest_239 : DKi mX8_digest 239 (nI 5) 240 := Or.inl ⟨5, by decide +kernel, by decide, rfl⟩
theorem dX8_digest_240 : DCge mX8_digest 240 283 243 := ⟨43, by decide +kernel, by decide, rfl⟩
theorem dX8_digest_243 : DKl mX8_digest 243 (lN 31) 246 := Or.inr ⟨250, by decide +kernel, bt719, rfl⟩
theorem dX8_digest_246 : DLl mX8_digest 246 1 247 := Or.inl ⟨1, by decide +kernel, rfl, rfl⟩
theorem dX8_digest_247 : D0 mX8_digest 247 (.lmul) 1 248 := ⟨by decide +kernel, rfl⟩
theorem dX8_digest_248 : DLa mX8_digest 248 0 249 := Or.inl ⟨0, by decide +kernel, rfl, rfl⟩
theorem dX8_digest_249 : DLi mX8_digest 249 3 250 := Or.inl ⟨3, by decide +kernel, rfl, rfl⟩
theorem dX8_digest_250 : DKi mX8_digest 250 (nI 0) 251 := Or.inl ⟨0, by decide +kernel, by decide, rfl⟩
theorem dX8_digest_251 : DKi mX8_digest 251 (nI 99) 253 := Or.inr (Or.inl ⟨99, by decide +kernel, by decide, rfl⟩)
theorem dX8_digest_253 : DKi mX8_digest 253 (nI 0) 254 := Or.inl ⟨0, by decide +kernel, by decide, rfl⟩
theorem dX8_digest_254 : D0 mX8_digest 254 (.invokevirtual 184) 3 257 := ⟨by decide +kernel, rfl⟩
theorem dX8_digest_257 : D0 mX8_digest 257 (.i2l) 1 258 := ⟨by decide +kernel, rfl⟩
theorem dX8_digest_258 : D0 mX8_digest 258 (.ladd) 1 259 := ⟨by decide +kernel, rfl⟩
theorem dX8_digest_259 : DSl mX8_digest 259 1 260 := ⟨by decide, Or.inl ⟨1, by decide +kernel, rfl, rfl⟩⟩
theorem dX8_digest_260 : DKl mX8_digest 260 (lN 31) 263 := Or.inr ⟨250, by decide +kernel, bt719, rfl⟩
theorem dX8_digest_263 : DLl mX8_digest 263 1 264 := Or.inl ⟨1, by decide +kernel, rfl, rfl⟩
theorem dX8_digest_264 : D0 mX8_digest 264 (.lmul) 1 265 := ⟨by decide +kernel, rfl⟩
theorem dX8_digest_265 : DLa mX8_digest 265 0 266 := Or.inl ⟨0, by decide +kernel, rfl, rfl⟩
theorem dX8_digest_266 : DLi mX8_digest 266 3 267 := Or.inl ⟨3, by decide +kernel, rfl, rfl⟩
theorem dX8_digest_267 : DKi mX8_digest 267 (nI 0) 268 := Or.inl ⟨0, by decide +kernel, by decide, rfl⟩
theorem dX8_digest_268 : DKi mX8_digest 268 (nI 99) 270 := Or.inr (Or.inl ⟨99, by decide +kernel, by decide, rfl⟩)
theorem dX8_digest_270 : DKi mX8_digest 270 (nI 1) 271 := Or.inl ⟨1, by decide +kernel, by decide, rfl⟩
theorem dX8_digest_271 : D0 mX8_digest 271 (.invokevirtual 184) 3 274 := ⟨by decide +kernel, rfl⟩
theorem dX8_digest_274 : D0 mX8_digest 274 (.i2l) 1 275 := ⟨by decide +kernel, rfl⟩
theorem dX8_digest_275 : D0 mX8_digest 275 (.ladd) 1 276 := ⟨by decide +kernel, rfl⟩
theorem dX8_digest_276 : DSl mX8_digest 276 1 277 := ⟨by decide, Or.inl ⟨1, by decide +kernel, rfl, rfl⟩⟩
theorem dX8_digest_277 : DIn mX8_digest 277 3 (nI 1) 280 := ⟨by decide, 1, by decide +kernel, by decide, rfl⟩
theorem dX8_digest_280 : DG mX8_digest 280 238 := ⟨(-42), by decide +kernel, by decide⟩
theorem dX8_digest_283 : DKi mX8_digest 283 (nI 0) 284 := Or.inl ⟨0, by decide +kernel, by decide, rfl⟩
theorem dX8_digest_284 : DSi mX8_digest 284 3 285 := ⟨by decide, Or.inl ⟨3, by decide +kernel, rfl, rfl⟩⟩
theorem dX8_digest_285 : DLi mX8_digest 285 3 286 := Or.inl ⟨3, by decide +kernel, rfl, rfl⟩
theorem dX8_digest_286 : DKi mX8_digest 286 (nI 8) 288 := Or.inr (Or.inl ⟨8, by decide +kernel, by decide, rfl⟩)
theorem dX8_digest_288 : DCge mX8_digest 288 328 291 := ⟨40, by decide +kernel, by decide, rfl⟩
theorem dX8_digest_291 : DKl mX8_digest 291 (lN 31) 294 := Or.inr ⟨250, by decide +kernel, bt719, rfl⟩
theorem dX8_digest_294 : DLl mX8_digest 294 1 295 := Or.inl ⟨1, by decide +kernel, rfl, rfl⟩
theorem dX8_digest_295 : D0 mX8_digest 295 (.lmul) 1 296 := ⟨by decide +kernel, rfl⟩
theorem dX8_digest_296 : DLa mX8_digest 296 0 297 := Or.inl ⟨0, by decide +kernel, rfl, rfl⟩
theorem dX8_digest_297 : D0 mX8_digest 297 (.getfield 56) 3 300 := ⟨by decide +kernel, rfl⟩
theorem dX8_digest_300 : DLi mX8_digest 300 3 301 := Or.inl ⟨3, by decide +kernel, rfl, rfl⟩
theorem dX8_digest_301 : D0 mX8_digest 301 (.iaload) 1 302 := ⟨by decide +kernel, rfl⟩
theorem dX8_digest_302 : D0 mX8_digest 302 (.i2l) 1 303 := ⟨by decide +kernel, rfl⟩
theorem dX8_digest_303 : D0 mX8_digest 303 (.ladd) 1 304 := ⟨by decide +kernel, rfl⟩
theorem dX8_digest_304 : DSl mX8_digest 304 1 305 := ⟨by decide, Or.inl ⟨1, by decide +kernel, rfl, rfl⟩⟩
theorem dX8_digest_305 : DKl mX8_digest 305 (lN 31) 308 := Or.inr ⟨250, by decide +kernel, bt719, rfl⟩
theorem dX8_digest_308 : DLl mX8_digest 308 1 309 := Or.inl ⟨1, by decide +kernel, rfl, rfl⟩
theorem dX8_digest_309 : D0 mX8_digest 309 (.lmul) 1 310 := ⟨by decide +kernel, rfl⟩
theorem dX8_digest_310 : DLa mX8_digest 310 0 311 := Or.inl ⟨0, by decide +kernel, rfl, rfl⟩
theorem dX8_digest_311 : DLi mX8_digest 311 3 312 := Or.inl ⟨3, by decide +kernel, rfl, rfl⟩
theorem dX8_digest_312 : DKi mX8_digest 312 (nI 10) 314 := Or.inr (Or.inl ⟨10, by decide +kernel, by decide, rfl⟩)
theorem dX8_digest_314 : DKi mX8_digest 314 (nI 30) 316 := Or.inr (Or.inl ⟨30, by decide +kernel, by decide, rfl⟩)
theorem dX8_digest_316 : D0 mX8_digest 316 (.invokevirtual 219) 3 319 := ⟨by decide +kernel, rfl⟩
theorem dX8_digest_319 : D0 mX8_digest 319 (.i2l) 1 320 := ⟨by decide +kernel, rfl⟩
theorem dX8_digest_320 : D0 mX8_digest 320 (.ladd) 1 321 := ⟨by decide +kernel, rfl⟩
theorem dX8_digest_321 : DSl mX8_digest 321 1 322 := ⟨by decide, Or.inl ⟨1, by decide +kernel, rfl, rfl⟩⟩
theorem dX8_digest_322 : DIn mX8_digest 322 3 (nI 1) 325 := ⟨by decide, 1, by decide +kernel, by decide, rfl⟩
theorem dX8_digest_325 : DG mX8_digest 325 285 := ⟨(-40), by decide +kernel, by decide⟩
theorem dX8_digest_328 : DKl mX8_digest 328 (lN 31) 331 := Or.inr ⟨250, by decide +kernel, bt719, rfl⟩
theorem dX8_digest_331 : DLl mX8_digest 331 1 332 := Or.inl ⟨1, by decide +kernel, rfl, rfl⟩
theorem dX8_digest_332 : D0 mX8_digest 332 (.lmul) 1 333 := ⟨by decide +kernel, rfl⟩
theorem dX8_digest_333 : DLa mX8_digest 333 0 334 := Or.inl ⟨0, by decide +kernel, rfl, rfl⟩
theorem dX8_digest_334 : DKi mX8_digest 334 ((-1)) 335 := Or.inl ⟨(-1), by decide +kernel, by decide, rfl⟩
theorem dX8_digest_335 : DKi mX8_digest 335 (nI 10) 337 := Or.inr (Or.inl ⟨10, by decide +kernel, by decide, rfl⟩)
theorem dX8_digest_337 : DKi mX8_digest 337 (nI 30) 339 := Or.inr (Or.inl ⟨30, by decide +kernel, by decide, rfl⟩)
theorem dX8_digest_339 : D0 mX8_digest 339 (.invokevirtual 219) 3 342 := ⟨by decide +kernel, rfl⟩
theorem dX8_digest_342 : D0 mX8_digest 342 (.i2l) 1 343 := ⟨by decide +kernel, rfl⟩
theorem dX8_digest_343 : D0 mX8_digest 343 (.ladd) 1 344 := ⟨by decide +kernel, rfl⟩
theorem dX8_digest_344 : DSl mX8_digest 344 1 345 := ⟨by decide, Or.inl ⟨1, by decide +kernel, rfl, rfl⟩⟩
theorem dX8_digest_345 : DKl mX8_digest 345 (lN 31) 348 := Or.inr ⟨250, by decide +kernel, bt719, rfl⟩
theorem dX8_digest_348 : DLl mX8_digest 348 1 349 := Or.inl ⟨1, by decide +kernel, rfl, rfl⟩
theorem dX8_digest_349 : D0 mX8_digest 349 (.lmul) 1 350 := ⟨by decide +kernel, rfl⟩
theorem dX8_digest_350 : DLa mX8_digest 350 0 351 := Or.inl ⟨0, by decide +kernel, rfl, rfl⟩
theorem dX8_digest_351 : DKi mX8_digest 351 (nI 10) 353 := Or.inr (Or.inl ⟨10, by decide +kernel, by decide, rfl⟩)
theorem dX8_digest_353 : DKi mX8_digest 353 (nI 30) 355 := Or.inr (Or.inl ⟨30, by decide +kernel, by decide, rfl⟩)
theorem dX8_digest_355 : D0 mX8_digest 355 (.invokevirtual 222) 3 358 := ⟨by decide +kernel, rfl⟩
theorem dX8_digest_358 : D0 mX8_digest 358 (.i2l) 1 359 := ⟨by decide +kernel, rfl⟩
theorem dX8_digest_359 : D0 mX8_digest 359 (.ladd) 1 360 := ⟨by decide +kernel, rfl⟩
theorem dX8_digest_360 : DSl mX8_digest 360 1 361 := ⟨by decide, Or.inl ⟨1, by decide +kernel, rfl, rfl⟩⟩
theorem dX8_digest_361 : DKi mX8_digest 361 (nI 0) 362 := Or.inl ⟨0, by decide +kernel, by decide, rfl⟩
theorem dX8_digest_362 : DSi mX8_digest 362 3 363 := ⟨by decide, Or.inl ⟨3, by decide +kernel, rfl, rfl⟩⟩
theorem dX8_digest_363 : DLi mX8_digest 363 3 364 := Or.inl ⟨3, by decide +kernel, rfl, rfl⟩
theorem dX8_digest_364 : DKi mX8_digest 364 (nI 4) 365 := Or.inl ⟨4, by decide +kernel, by decide, rfl⟩
theorem dX8_digest_365 : DCge mX8_digest 365 391 368 := ⟨26, by decide +kernel, by decide, rfl⟩
theorem dX8_digest_368 : DKl mX8_digest 368 (lN 31) 371 := Or.inr ⟨250, by decide +kernel, bt719, rfl⟩
theorem dX8_digest_371 : DLl mX8_digest 371 1 372 := Or.inl ⟨1, by decide +kernel, rfl, rfl⟩
theorem dX8_digest_372 : D0 mX8_digest 372 (.lmul) 1 373 := ⟨by decide +kernel, rfl⟩
theorem dX8_digest_373 : DLa mX8_digest 373 0 374 := Or.inl ⟨0, by decide +kernel, rfl, rfl⟩
theorem dX8_digest_374 : DKi mX8_digest 374 (nI 20) 376 := Or.inr (Or.inl ⟨20, by decide +kernel, by decide, rfl⟩)
theorem dX8_digest_376 : DKi mX8_digest 376 (nI 6) 378 := Or.inr (Or.inl ⟨6, by decide +kernel, by decide, rfl⟩)
theorem dX8_digest_378 : DLi mX8_digest 378 3 379 := Or.inl ⟨3, by decide +kernel, rfl, rfl⟩
theorem dX8_digest_379 : D0 mX8_digest 379 (.invokevirtual 225) 3 382 := ⟨by decide +kernel, rfl⟩
theorem dX8_digest_382 : D0 mX8_digest 382 (.i2l) 1 383 := ⟨by decide +kernel, rfl⟩
theorem dX8_digest_383 : D0 mX8_digest 383 (.ladd) 1 384 := ⟨by decide +kernel, rfl⟩
theorem dX8_digest_384 : DSl mX8_digest 384 1 385 := ⟨by decide, Or.inl ⟨1, by decide +kernel, rfl, rfl⟩⟩
theorem dX8_digest_385 : DIn mX8_digest 385 3 (nI 1) 388 := ⟨by decide, 1, by decide +kernel, by decide, rfl⟩
theorem dX8_digest_388 : DG mX8_digest 388 363 := ⟨(-25), by decide +kernel, by decide⟩
theorem dX8_digest_391 : DKl mX8_digest 391 (lN 31) 394 := Or.inr ⟨250, by decide +kernel, bt719, rfl⟩
theorem dX8_digest_394 : DLl mX8_digest 394 1 395 := Or.inl ⟨1, by decide +kernel, rfl, rfl⟩
theorem dX8_digest_395 : D0 mX8_digest 395 (.lmul) 1 396 := ⟨by decide +kernel, rfl⟩
theorem dX8_digest_396 : DLa mX8_digest 396 0 397 := Or.inl ⟨0, by decide +kernel, rfl, rfl⟩
theorem dX8_digest_397 : DKi mX8_digest 397 (nI 0) 398 := Or.inl ⟨0, by decide +kernel, by decide, rfl⟩
theorem dX8_digest_398 : DKi mX8_digest 398 (nI 50) 400 := Or.inr (Or.inl ⟨50, by decide +kernel, by decide, rfl⟩)
theorem dX8_digest_400 : D0 mX8_digest 400 (.invokevirtual 231) 3 403 := ⟨by decide +kernel, rfl⟩
theorem dX8_digest_403 : D0 mX8_digest 403 (.i2l) 1 404 := ⟨by decide +kernel, rfl⟩
theorem dX8_digest_404 : D0 mX8_digest 404 (.ladd) 1 405 := ⟨by decide +kernel, rfl⟩
theorem dX8_digest_405 : DSl mX8_digest 405 1 406 := ⟨by decide, Or.inl ⟨1, by decide +kernel, rfl, rfl⟩⟩
theorem dX8_digest_406 : DKl mX8_digest 406 (lN 31) 409 := Or.inr ⟨250, by decide +kernel, bt719, rfl⟩
theorem dX8_digest_409 : DLl mX8_digest 409 1 410 := Or.inl ⟨1, by decide +kernel, rfl, rfl⟩
theorem dX8_digest_410 : D0 mX8_digest 410 (.lmul) 1 411 := ⟨by decide +kernel, rfl⟩
theorem dX8_digest_411 : DLa mX8_digest 411 0 412 := Or.inl ⟨0, by decide +kernel, rfl, rfl⟩
theorem dX8_digest_412 : DKi mX8_digest 412 (nI 0) 413 := Or.inl ⟨0, by decide +kernel, by decide, rfl⟩
theorem dX8_digest_413 : DKi mX8_digest 413 (nI 4) 414 := Or.inl ⟨4, by decide +kernel, by decide, rfl⟩
theorem dX8_digest_414 : DKi mX8_digest 414 (nI 10) 416 := Or.inr (Or.inl ⟨10, by decide +kernel, by decide, rfl⟩)
theorem dX8_digest_416 : DKi mX8_digest 416 (nI 0) 417 := Or.inl ⟨0, by decide +kernel, by decide, rfl⟩
theorem dX8_digest_417 : D0 mX8_digest 417 (.invokevirtual 207) 3 420 := ⟨by decide +kernel, rfl⟩
theorem dX8_digest_420 : D0 mX8_digest 420 (.i2l) 1 421 := ⟨by decide +kernel, rfl⟩
theorem dX8_digest_421 : D0 mX8_digest 421 (.ladd) 1 422 := ⟨by decide +kernel, rfl⟩
theorem dX8_digest_422 : DSl mX8_digest 422 1 423 := ⟨by decide, Or.inl ⟨1, by decide +kernel, rfl, rfl⟩⟩
theorem dX8_digest_423 : DKl mX8_digest 423 (lN 31) 426 := Or.inr ⟨250, by decide +kernel, bt719, rfl⟩
theorem dX8_digest_426 : DLl mX8_digest 426 1 427 := Or.inl ⟨1, by decide +kernel, rfl, rfl⟩
theorem dX8_digest_427 : D0 mX8_digest 427 (.lmul) 1 428 := ⟨by decide +kernel, rfl⟩
theorem dX8_digest_428 : DLa mX8_digest 428 0 429 := Or.inl ⟨0, by decide +kernel, rfl, rfl⟩
theorem dX8_digest_429 : DKi mX8_digest 429 (nI 0) 430 := Or.inl ⟨0, by decide +kernel, by decide, rfl⟩
theorem dX8_digest_430 : DKi mX8_digest 430 (nI 4) 431 := Or.inl ⟨4, by decide +kernel, by decide, rfl⟩
theorem dX8_digest_431 : DKi mX8_digest 431 (nI 10) 433 := Or.inr (Or.inl ⟨10, by decide +kernel, by decide, rfl⟩)
theorem dX8_digest_433 : DKi mX8_digest 433 (nI 1) 434 := Or.inl ⟨1, by decide +kernel, by decide, rfl⟩
theorem dX8_digest_434 : D0 mX8_digest 434 (.invokevirtual 207) 3 437 := ⟨by decide +kernel, rfl⟩
theorem dX8_digest_437 : D0 mX8_digest 437 (.i2l) 1 438 := ⟨by decide +kernel, rfl⟩
theorem dX8_digest_438 : D0 mX8_digest 438 (.ladd) 1 439 := ⟨by decide +kernel, rfl⟩
theorem dX8_digest_439 : D0 mX8_digest 439 (.lreturn) 1 440 := ⟨by decide +kernel, rfl⟩
theorem dJ6_numberOfTrailingZeros_0f7a4_0 : DLi mJ6_numberOfTrailingZeros_0f7a4 0 0 1 := Or.inl ⟨0, by decide +kernel, rfl, rfl⟩
theorem dJ6_numberOfTrailingZeros_0f7a4_1 : DKi mJ6_numberOfTrailingZeros_0f7a4 1 ((-1)) 2 := Or.inl ⟨(-1), by decide +kernel, by decide, rfl⟩
theorem dJ6_numberOfTrailingZeros_0f7a4_2 : D0 mJ6_numberOfTrailingZeros_0f7a4 2 (.ixor) 1 3 := ⟨by decide +kernel, rfl⟩
theorem dJ6_numberOfTrailingZeros_0f7a4_3 : DLi mJ6_numberOfTrailingZeros_0f7a4 3 0 4 := Or.inl ⟨0, by decide +kernel, rfl, rfl⟩
theorem dJ6_numberOfTrailingZeros_0f7a4_4 : DKi mJ6_numberOfTrailingZeros_0f7a4 4 (nI 1) 5 := Or.inl ⟨1, by decide +kernel, by decide, rfl⟩
theorem dJ6_numberOfTrailingZeros_0f7a4_5 : D0 mJ6_numberOfTrailingZeros_0f7a4 5 (.isub) 1 6 := ⟨by decide +kernel, rfl⟩
theorem dJ6_numberOfTrailingZeros_0f7a4_6 : D0 mJ6_numberOfTrailingZeros_0f7a4 6 (.iand) 1 7 := ⟨by decide +kernel, rfl⟩
theorem dJ6_numberOfTrailingZeros_0f7a4_7 : DSi mJ6_numberOfTrailingZeros_0f7a4 7 0 8 := ⟨by decide, Or.inl ⟨0, by decide +kernel, rfl, rfl⟩⟩
theorem dJ6_numberOfTrailingZeros_0f7a4_8 : DLi mJ6_numberOfTrailingZeros_0f7a4 8 0 9 := Or.inl ⟨0, by decide +kernel, rfl, rfl⟩
theorem dJ6_numberOfTrailingZeros_0f7a4_9 : DFgt mJ6_numberOfTrailingZeros_0f7a4 9 17 12 := ⟨8, by decide +kernel, by decide, rfl⟩
theorem dJ6_numberOfTrailingZeros_0f7a4_12 : DLi mJ6_numberOfTrailingZeros_0f7a4 12 0 13 := Or.inl ⟨0, by decide +kernel, rfl, rfl⟩
theorem dJ6_numberOfTrailingZeros_0f7a4_13 : DKi mJ6_numberOfTrailingZeros_0f7a4 13 (nI 32) 15 := Or.inr (Or.inl ⟨32, by decide +kernel, by decide, rfl⟩)
theorem dJ6_numberOfTrailingZeros_0f7a4_15 : D0 mJ6_numberOfTrailingZeros_0f7a4 15 (.iand) 1 16 := ⟨by decide +kernel, rfl⟩
theorem dJ6_numberOfTrailingZeros_0f7a4_16 : D0 mJ6_numberOfTrailingZeros_0f7a4 16 (.ireturn) 1 17 := ⟨by decide +kernel, rfl⟩
theorem dJ6_numberOfTrailingZeros_0f7a4_17 : DKi mJ6_numberOfTrailingZeros_0f7a4 17 (nI 1) 18 := Or.inl ⟨1, by decide +kernel, by decide, rfl⟩
theorem dJ6_numberOfTrailingZeros_0f7a4_18 : DSi mJ6_numberOfTrailingZeros_0f7a4 18 1 19 := ⟨by decide, Or.inl ⟨1, by decide +kernel, rfl, rfl⟩⟩
theorem dJ6_numberOfTrailingZeros_0f7a4_19 : DLi mJ6_numberOfTrailingZeros_0f7a4 19 0 20 := Or.inl ⟨0, by decide +kernel, rfl, rfl⟩
theorem dJ6_numberOfTrailingZeros_0f7a4_20 : DKi mJ6_numberOfTrailingZeros_0f7a4 20 (nI 65536) 23 := Or.inr (Or.inr (Or.inr (Or.inr ⟨264, by decide +kernel, bt724, rfl⟩)))
theorem dJ6_numberOfTrailingZeros_0f7a4_23 : DCle mJ6_numberOfTrailingZeros_0f7a4 23 34 26 := ⟨11, by decide +kernel, by decide, rfl⟩
theorem dJ6_numberOfTrailingZeros_0f7a4_26 : DIn mJ6_numberOfTrailingZeros_0f7a4 26 1 (nI 16) 29 := ⟨by decide, 16, by decide +kernel, by decide, rfl⟩
theorem dJ6_numberOfTrailingZeros_0f7a4_29 : DLi mJ6_numberOfTrailingZeros_0f7a4 29 0 30 := Or.inl ⟨0, by decide +kernel, rfl, rfl⟩
theorem dJ6_numberOfTrailingZeros_0f7a4_30 : DKi mJ6_numberOfTrailingZeros_0f7a4 30 (nI 16) 32 := Or.inr (Or.inl ⟨16, by decide +kernel, by decide, rfl⟩)
theorem dJ6_numberOfTrailingZeros_0f7a4_32 : D0 mJ6_numberOfTrailingZeros_0f7a4 32 (.iushr) 1 33 := ⟨by decide +kernel, rfl⟩
theorem dJ6_numberOfTrailingZeros_0f7a4_33 : DSi mJ6_numberOfTrailingZeros_0f7a4 33 0 34 := ⟨by decide, Or.inl ⟨0, by decide +kernel, rfl, rfl⟩⟩
theorem dJ6_numberOfTrailingZeros_0f7a4_34 : DLi mJ6_numberOfTrailingZeros_0f7a4 34 0 35 := Or.inl ⟨0, by decide +kernel, rfl, rfl⟩
theorem dJ6_numberOfTrailingZeros_0f7a4_35 : DKi mJ6_numberOfTrailingZeros_0f7a4 35 (nI 256) 38 := Or.inr (Or.inr (Or.inl ⟨256, by decide +kernel, by decide, rfl⟩))
theorem dJ6_numberOfTrailingZeros_0f7a4_38 : DCle mJ6_numberOfTrailingZeros_0f7a4 38 49 41 := ⟨11, by decide +kernel, by decide, rfl⟩
theorem dJ6_numberOfTrailingZeros_0f7a4_41 : DIn mJ6_numberOfTrailingZeros_0f7a4 41 1 (nI 8) 44 := ⟨by decide, 8, by decide +kernel, by decide, rfl⟩
theorem dJ6_numberOfTrailingZeros_0f7a4_44 : DLi mJ6_numberOfTrailingZeros_0f7a4 44 0 45 := Or.inl ⟨0, by decide +kernel, rfl, rfl⟩
theorem dJ6_numberOfTrailingZeros_0f7a4_45 : DKi mJ6_numberOfTrailingZeros_0f7a4 45 (nI 8) 47 := Or.inr (Or.inl ⟨8, by decide +kernel, by decide, rfl⟩)
theorem dJ6_numberOfTrailingZeros_0f7a4_47 : D0 mJ6_numberOfTrailingZeros_0f7a4 47 (.iushr) 1 48 := ⟨by decide +kernel, rfl⟩
theorem dJ6_numberOfTrailingZeros_0f7a4_48 : DSi mJ6_numberOfTrailingZeros_0f7a4 48 0 49 := ⟨by decide, Or.inl ⟨0, by decide +kernel, rfl, rfl⟩⟩
theorem dJ6_numberOfTrailingZeros_0f7a4_49 : DLi mJ6_numberOfTrailingZeros_0f7a4 49 0 50 := Or.inl ⟨0, by decide +kernel, rfl, rfl⟩
theorem dJ6_numberOfTrailingZeros_0f7a4_50 : DKi mJ6_numberOfTrailingZeros_0f7a4 50 (nI 16) 52 := Or.inr (Or.inl ⟨16, by decide +kernel, by decide, rfl⟩)
theorem dJ6_numberOfTrailingZeros_0f7a4_52 : DCle mJ6_numberOfTrailingZeros_0f7a4 52 62 55 := ⟨10, by decide +kernel, by decide, rfl⟩
theorem dJ6_numberOfTrailingZeros_0f7a4_55 : DIn mJ6_numberOfTrailingZeros_0f7a4 55 1 (nI 4) 58 := ⟨by decide, 4, by decide +kernel, by decide, rfl⟩
theorem dJ6_numberOfTrailingZeros_0f7a4_58 : DLi mJ6_numberOfTrailingZeros_0f7a4 58 0 59 := Or.inl ⟨0, by decide +kernel, rfl, rfl⟩
theorem dJ6_numberOfTrailingZeros_0f7a4_59 : DKi mJ6_numberOfTrailingZeros_0f7a4 59 (nI 4) 60 := Or.inl ⟨4, by decide +kernel, by decide, rfl⟩
theorem dJ6_numberOfTrailingZeros_0f7a4_60 : D0 mJ6_numberOfTrailingZeros_0f7a4 60 (.iushr) 1 61 := ⟨by decide +kernel, rfl⟩
theorem dJ6_numberOfTrailingZeros_0f7a4_61 : DSi mJ6_numberOfTrailingZeros_0f7a4 61 0 62 := ⟨by decide, Or.inl ⟨0, by decide +kernel, rfl, rfl⟩⟩
theorem dJ6_numberOfTrailingZeros_0f7a4_62 : DLi mJ6_numberOfTrailingZeros_0f7a4 62 0 63 := Or.inl ⟨0, by decide +kernel, rfl, rfl⟩
theorem dJ6_numberOfTrailingZeros_0f7a4_63 : DKi mJ6_numberOfTrailingZeros_0f7a4 63 (nI 4) 64 := Or.inl ⟨4, by decide +kernel, by decide, rfl⟩
theorem dJ6_numberOfTrailingZeros_0f7a4_64 : DCle mJ6_numberOfTrailingZeros_0f7a4 64 74 67 := ⟨10, by decide +kernel, by decide, rfl⟩
theorem dJ6_numberOfTrailingZeros_0f7a4_67 : DIn mJ6_numberOfTrailingZeros_0f7a4 67 1 (nI 2) 70 := ⟨by decide, 2, by decide +kernel, by decide, rfl⟩
theorem dJ6_numberOfTrailingZeros_0f7a4_70 : DLi mJ6_numberOfTrailingZeros_0f7a4 70 0 71 := Or.inl ⟨0, by decide +kernel, rfl, rfl⟩
theorem dJ6_numberOfTrailingZeros_0f7a4_71 : DKi mJ6_numberOfTrailingZeros_0f7a4 71 (nI 2) 72 := Or.inl ⟨2, by decide +kernel, by decide, rfl⟩
theorem dJ6_numberOfTrailingZeros_0f7a4_72 : D0 mJ6_numberOfTrailingZeros_0f7a4 72 (.iushr) 1 73 := ⟨by decide +kernel, rfl⟩
theorem dJ6_numberOfTrailingZeros_0f7a4_73 : DSi mJ6_numberOfTrailingZeros_0f7a4 73 0 74 := ⟨by decide, Or.inl ⟨0, by decide +kernel, rfl, rfl⟩⟩
theorem dJ6_numberOfTrailingZeros_0f7a4_74 : DLi mJ6_numberOfTrailingZeros_0f7a4 74 1 75 := Or.inl ⟨1, by decide +kernel, rfl, rfl⟩
theorem dJ6_numberOfTrailingZeros_0f7a4_75 : DLi mJ6_numberOfTrailingZeros_0f7a4 75 0 76 := Or.inl ⟨0, by decide +kernel, rfl, rfl⟩
theorem dJ6_numberOfTrailingZeros_0f7a4_76 : DKi mJ6_numberOfTrailingZeros_0f7a4 76 (nI 1) 77 := Or.inl ⟨1, by decide +kernel, by decide, rfl⟩
theorem dJ6_numberOfTrailingZeros_0f7a4_77 : D0 mJ6_numberOfTrailingZeros_0f7a4 77 (.iushr) 1 78 := ⟨by decide +kernel, rfl⟩
theorem dJ6_numberOfTrailingZeros_0f7a4_78 : D0 mJ6_numberOfTrailingZeros_0f7a4 78 (.iadd) 1 79 := ⟨by decide +kernel, rfl⟩
theorem dJ6_numberOfTrailingZeros_0f7a4_79 : D0 mJ6_numberOfTrailingZeros_0f7a4 79 (.ireturn) 1 80 := ⟨by decide +kernel, rfl⟩
end
section
theorem dJ6_bitCount_0f7a4_0 : DLi mJ6_bitCount_0f7a4 0 0 1 := Or.inl ⟨0, by decide +kernel, rfl, rfl⟩
theorem dJ6_bitCount_0f7a4_1 : DLi mJ6_bitCount_0f7a4 1 0 2 := Or.inl ⟨0, by decide +kernel, rfl, rfl⟩
theorem dJ6_bitCount_0f7a4_2 : DKi mJ6_bitCount_0f7a4 2 (nI 1) 3 := Or.inl ⟨1, by decide +kernel, by decide, rfl⟩
theorem dJ6_bitCount_0f7a4_3 : D0 mJ6_bitCount_0f7a4 3 (.iushr) 1 4 := ⟨by decide +kernel, rfl⟩
theorem dJ6_bitCount_0f7a4_4 : DKi mJ6_bitCount_0f7a4 4 (nI 1431655765) 7 := Or.inr (Or.inr (Or.inr (Or.inr ⟨265, by decide +kernel, bt725, rfl⟩)))
theorem dJ6_bitCount_0f7a4_7 : D0 mJ6_bitCount_0f7a4 7 (.iand) 1 8 := ⟨by decide +kernel, rfl⟩
theorem dJ6_bitCount_0f7a4_8 : D0 mJ6_bitCount_0f7a4 8 (.isub) 1 9 := ⟨by decide +kernel, rfl⟩
theorem dJ6_bitCount_0f7a4_9 : DSi mJ6_bitCount_0f7a4 9 0 10 := ⟨by decide, Or.inl ⟨0, by decide +kernel, rfl, rfl⟩⟩
theorem dJ6_bitCount_0f7a4_10 : DLi mJ6_bitCount_0f7a4 10 0 11 := Or.inl ⟨0, by decide +kernel, rfl, rfl⟩
theorem dJ6_bitCount_0f7a4_11 : DKi mJ6_bitCount_0f7a4 11 (nI 858993459) 14 := Or.inr (Or.inr (Or.inr (Or.inr ⟨266, by decide +kernel, bt726, rfl⟩)))
theorem dJ6_bitCount_0f7a4_14 : D0 mJ6_bitCount_0f7a4 14 (.iand) 1 15 := ⟨by decide +kernel, rfl⟩
theorem dJ6_bitCount_0f7a4_15 : DLi mJ6_bitCount_0f7a4 15 0 16 := Or.inl ⟨0, by decide +kernel, rfl, rfl⟩
theorem dJ6_bitCount_0f7a4_16 : DKi mJ6_bitCount_0f7a4 16 (nI 2) 17 := Or.inl ⟨2, by decide +kernel, by decide, rfl⟩
theorem dJ6_bitCount_0f7a4_17 : D0 mJ6_bitCount_0f7a4 17 (.iushr) 1 18 := ⟨by decide +kernel, rfl⟩
theorem dJ6_bitCount_0f7a4_18 : DKi mJ6_bitCount_0f7a4 18 (nI 858993459) 21 := Or.inr (Or.inr (Or.inr (Or.inr ⟨266, by decide +kernel, bt726, rfl⟩)))
theorem dJ6_bitCount_0f7a4_21 : D0 mJ6_bitCount_0f7a4 21 (.iand) 1 22 := ⟨by decide +kernel, rfl⟩
theorem dJ6_bitCount_0f7a4_22 : D0 mJ6_bitCount_0f7a4 22 (.iadd) 1 23 := ⟨by decide +kernel, rfl⟩
theorem dJ6_bitCount_0f7a4_23 : DSi mJ6_bitCount_0f7a4 23 0 24 := ⟨by decide, Or.inl ⟨0, by decide +kernel, rfl, rfl⟩⟩
theorem dJ6_bitCount_0f7a4_24 : DLi mJ6_bitCount_0f7a4 24 0 25 := Or.inl ⟨0, by decide +kernel, rfl, rfl⟩
theorem dJ6_bitCount_0f7a4_25 : DLi mJ6_bitCount_0f7a4 25 0 26 := Or.inl ⟨0, by decide +kernel, rfl, rfl⟩
theorem dJ6_bitCount_0f7a4_26 : DKi mJ6_bitCount_0f7a4 26 (nI 4) 27 := Or.inl ⟨4, by decide +kernel, by decide, rfl⟩
theorem dJ6_bitCount_0f7a4_27 : D0 mJ6_bitCount_0f7a4 27 (.iushr) 1 28 := ⟨by decide +kernel, rfl⟩
theorem dJ6_bitCount_0f7a4_28 : D0 mJ6_bitCount_0f7a4 28 (.iadd) 1 29 := ⟨by decide +kernel, rfl⟩
theorem dJ6_bitCount_0f7a4_29 : DKi mJ6_bitCount_0f7a4 29 (nI 252645135) 32 := Or.inr (Or.inr (Or.inr (Or.inr ⟨267, by decide +kernel, bt727, rfl⟩)))
theorem dJ6_bitCount_0f7a4_32 : D0 mJ6_bitCount_0f7a4 32 (.iand) 1 33 := ⟨by decide +kernel, rfl⟩
theorem dJ6_bitCount_0f7a4_33 : DSi mJ6_bitCount_0f7a4 33 0 34 := ⟨by decide, Or.inl ⟨0, by decide +kernel, rfl, rfl⟩⟩
theorem dJ6_bitCount_0f7a4_34 : DLi mJ6_bitCount_0f7a4 34 0 35 := Or.inl ⟨0, by decide +kernel, rfl, rfl⟩
theorem dJ6_bitCount_0f7a4_35 : DLi mJ6_bitCount_0f7a4 35 0 36 := Or.inl ⟨0, by decide +kernel, rfl, rfl⟩
theorem dJ6_bitCount_0f7a4_36 : DKi mJ6_bitCount_0f7a4 36 (nI 8) 38 := Or.inr (Or.inl ⟨8, by decide +kernel, by decide, rfl⟩)
theorem dJ6_bitCount_0f7a4_38 : D0 mJ6_bitCount_0f7a4 38 (.iushr) 1 39 := ⟨by decide +kernel, rfl⟩
theorem dJ6_bitCount_0f7a4_39 : D0 mJ6_bitCount_0f7a4 39 (.iadd) 1 40 := ⟨by decide +kernel, rfl⟩
theorem dJ6_bitCount_0f7a4_40 : DSi mJ6_bitCount_0f7a4 40 0 41 := ⟨by decide, Or.inl ⟨0, by decide +kernel, rfl, rfl⟩⟩
theorem dJ6_bitCount_0f7a4_41 : DLi mJ6_bitCount_0f7a4 41 0 42 := Or.inl ⟨0, by decide +kernel, rfl, rfl⟩
theorem dJ6_bitCount_0f7a4_42 : DLi mJ6_bitCount_0f7a4 42 0 43 := Or.inl ⟨0, by decide +kernel, rfl, rfl⟩
theorem dJ6_bitCount_0f7a4_43 : DKi mJ6_bitCount_0f7a4 43 (nI 16) 45 := Or.inr (Or.inl ⟨16, by decide +kernel, by decide, rfl⟩)
theorem dJ6_bitCount_0f7a4_45 : D0 mJ6_bitCount_0f7a4 45 (.iushr) 1 46 := ⟨by decide +kernel, rfl⟩
theorem dJ6_bitCount_0f7a4_46 : D0 mJ6_bitCount_0f7a4 46 (.iadd) 1 47 := ⟨by decide +kernel, rfl⟩
theorem dJ6_bitCount_0f7a4_47 : DSi mJ6_bitCount_0f7a4 47 0 48 := ⟨by decide, Or.inl ⟨0, by decide +kernel, rfl, rfl⟩⟩
theorem dJ6_bitCount_0f7a4_48 : DLi mJ6_bitCount_0f7a4 48 0 49 := Or.inl ⟨0, by decide +kernel, rfl, rfl⟩
theorem dJ6_bitCount_0f7a4_49 : DKi mJ6_bitCount_0f7a4 49 (nI 63) 51 := Or.inr (Or.inl ⟨63, by decide +kernel, by decide, rfl⟩)
theorem dJ6_bitCount_0f7a4_51 : D0 mJ6_bitCount_0f7a4 51 (.iand) 1 52 := ⟨by decide +kernel, rfl⟩
theorem dJ6_bitCount_0f7a4_52 : D0 mJ6_bitCount_0f7a4 52 (.ireturn) 1 53 := ⟨by decide +kernel, rfl⟩
theorem dJ9_max_7cf53_0 : DLi mJ9_max_7cf53 0 0 1 := Or.inl ⟨0, by decide +kernel, rfl, rfl⟩
theorem dJ9_max_7cf53_1 : DLi mJ9_max_7cf53 1 1 2 := Or.inl ⟨1, by decide +kernel, rfl, rfl⟩
theorem dJ9_max_7cf53_2 : DClt mJ9_max_7cf53 2 9 5 := ⟨7, by decide +kernel, by decide, rfl⟩
theorem dJ9_max_7cf53_5 : DLi mJ9_max_7cf53 5 0 6 := Or.inl ⟨0, by decide +kernel, rfl, rfl⟩
theorem dJ9_max_7cf53_6 : DG mJ9_max_7cf53 6 10 := ⟨4, by decide +kernel, by decide⟩
theorem dJ9_max_7cf53_9 : DLi mJ9_max_7cf53 9 1 10 := Or.inl ⟨1, by decide +kernel, rfl, rfl⟩
theorem dJ9_max_7cf53_10 : D0 mJ9_max_7cf53 10 (.ireturn) 1 11 := ⟨by decide +kernel, rfl⟩
theorem dJ9_min_7cf53_0 : DLi mJ9_min_7cf53 0 0 1 := Or.inl ⟨0, by decide +kernel, rfl, rfl⟩
theorem dJ9_min_7cf53_1 : DLi mJ9_min_7cf53 1 1 2 := Or.inl ⟨1, by decide +kernel, rfl, rfl⟩
theorem dJ9_min_7cf53_2 : DCgt mJ9_min_7cf53 2 9 5 := ⟨7, by decide +kernel, by decide, rfl⟩
theorem dJ9_min_7cf53_5 : DLi mJ9_min_7cf53 5 0 6 := Or.inl ⟨0, by decide +kernel, rfl, rfl⟩
theorem dJ9_min_7cf53_6 : DG mJ9_min_7cf53 6 10 := ⟨4, by decide +kernel, by decide⟩
theorem dJ9_min_7cf53_9 : DLi mJ9_min_7cf53 9 1 10 := Or.inl ⟨1, by decide +kernel, rfl, rfl⟩
theorem dJ9_min_7cf53_10 : D0 mJ9_min_7cf53 10 (.ireturn) 1 11 := ⟨by decide +kernel, rfl⟩
theorem dJ7_fill_d0a16_0 : DKi mJ7_fill_d0a16 0 (nI 0) 1 := Or.inl ⟨0, by decide +kernel, by decide, rfl⟩
theorem dJ7_fill_d0a16_1 : DSi mJ7_fill_d0a16 1 3 2 := ⟨by decide, Or.inl ⟨3, by decide +kernel, rfl, rfl⟩⟩
theorem dJ7_fill_d0a16_2 : DLa mJ7_fill_d0a16 2 0 3 := Or.inl ⟨0, by decide +kernel, rfl, rfl⟩
theorem dJ7_fill_d0a16_3 : D0 mJ7_fill_d0a16 3 (.arraylength) 1 4 := ⟨by decide +kernel, rfl⟩
theorem dJ7_fill_d0a16_4 : DSi mJ7_fill_d0a16 4 4 6 := ⟨by decide, Or.inr ⟨by decide +kernel, rfl⟩⟩
theorem dJ7_fill_d0a16_6 : DLi mJ7_fill_d0a16 6 3 7 := Or.inl ⟨3, by decide +kernel, rfl, rfl⟩
theorem dJ7_fill_d0a16_7 : DLi mJ7_fill_d0a16 7 4 9 := Or.inr ⟨by decide +kernel, rfl⟩
theorem dJ7_fill_d0a16_9 : DCge mJ7_fill_d0a16 9 22 12 := ⟨13, by decide +kernel, by decide, rfl⟩
theorem dJ7_fill_d0a16_12 : DLa mJ7_fill_d0a16 12 0 13 := Or.inl ⟨0, by decide +kernel, rfl, rfl⟩
theorem dJ7_fill_d0a16_13 : DLi mJ7_fill_d0a16 13 3 14 := Or.inl ⟨3, by decide +kernel, rfl, rfl⟩
theorem dJ7_fill_d0a16_14 : DLl mJ7_fill_d0a16 14 1 15 := Or.inl ⟨1, by decide +kernel, rfl, rfl⟩
theorem dJ7_fill_d0a16_15 : D0 mJ7_fill_d0a16 15 (.lastore) 1 16 := ⟨by decide +kernel, rfl⟩
theorem dJ7_fill_d0a16_16 : DIn mJ7_fill_d0a16 16 3 (nI 1) 19 := ⟨by decide, 1, by decide +kernel, by decide, rfl⟩
theorem dJ7_fill_d0a16_19 : DG mJ7_fill_d0a16 19 6 := ⟨(-13), by decide +kernel, by decide⟩
theorem dJ7_fill_d0a16_22 : D0 mJ7_fill_d0a16 22 (.return_) 1 23 := ⟨by decide +kernel, rfl⟩
theorem dJ7_fill_53178_0 : DKi mJ7_fill_53178 0 (nI 0) 1 := Or.inl ⟨0, by decide +kernel, by decide, rfl⟩
theorem dJ7_fill_53178_1 : DSi mJ7_fill_53178 1 2 2 := ⟨by decide, Or.inl ⟨2, by decide +kernel, rfl, rfl⟩⟩
theorem dJ7_fill_53178_2 : DLa mJ7_fill_53178 2 0 3 := Or.inl ⟨0, by decide +kernel, rfl, rfl⟩
theorem dJ7_fill_53178_3 : D0 mJ7_fill_53178 3 (.arraylength) 1 4 := ⟨by decide +kernel, rfl⟩
theorem dJ7_fill_53178_4 : DSi mJ7_fill_53178 4 3 5 := ⟨by decide, Or.inl ⟨3, by decide +kernel, rfl, rfl⟩⟩
theorem dJ7_fill_53178_5 : DLi mJ7_fill_53178 5 2 6 := Or.inl ⟨2, by decide +kernel, rfl, rfl⟩
theorem dJ7_fill_53178_6 : DLi mJ7_fill_53178 6 3 7 := Or.inl ⟨3, by decide +kernel, rfl, rfl⟩
theorem dJ7_fill_53178_7 : DCge mJ7_fill_53178 7 20 10 := ⟨13, by decide +kernel, by decide, rfl⟩
theorem dJ7_fill_53178_10 : DLa mJ7_fill_53178 10 0 11 := Or.inl ⟨0, by decide +kernel, rfl, rfl⟩
theorem dJ7_fill_53178_11 : DLi mJ7_fill_53178 11 2 12 := Or.inl ⟨2, by decide +kernel, rfl, rfl⟩
theorem dJ7_fill_53178_12 : DLi mJ7_fill_53178 12 1 13 := Or.inl ⟨1, by decide +kernel, rfl, rfl⟩
theorem dJ7_fill_53178_13 : D0 mJ7_fill_53178 13 (.iastore) 1 14 := ⟨by decide +kernel, rfl⟩
theorem dJ7_fill_53178_14 : DIn mJ7_fill_53178 14 2 (nI 1) 17 := ⟨by decide, 1, by decide +kernel, by decide, rfl⟩
theorem dJ7_fill_53178_17 : DG mJ7_fill_53178 17 5 := ⟨(-12), by decide +kernel, by decide⟩
theorem dJ7_fill_53178_20 : D0 mJ7_fill_53178 20 (.return_) 1 21 := ⟨by decide +kernel, rfl⟩
end
section
/-! the rules over numbers that are Nats: nI n -/
variable {M : Mth} {j pc nx : Nat} {ls : List (Option Value)} {st : List Value} {ρ : Rho} {Q : Option Value → Rho → Prop}
def shp_b (k : Nat) : Bool := match shp k with
  | .inl (_, n) => decide (n ≤ 256)
  | .inr _ => true
theorem shp_small : ∀ k, k < NC → shp_b k = true := by decide +kernel
theorem sh_n {q t n : Nat} (h : Sh q (.inl (t, n))) : n < 2 ^ 31 := by
  have := shp_small q h.1
  unfold shp_b at this
  rw [h.2] at this
  have := of_decide_eq_true this
  omega
theorem w_iaddN {a b : Nat} (hd : D0 M pc .iadd 1 nx) (k : MW M j nx ls (.int (nI (a + b)) :: st) ρ Q) : MW M j pc ls (.int (nI b) :: .int (nI a) :: st) ρ Q := w_iadd hd (by rw [nI_add]; exact k)
theorem w_isubN {a b : Nat} (hd : D0 M pc .isub 1 nx) (h : b ≤ a) (k : MW M j nx ls (.int (nI (a - b)) :: st) ρ Q) : MW M j pc ls (.int (nI b) :: .int (nI a) :: st) ρ Q := w_isub hd (by rw [pk_sub h]; exact k)
theorem w_imulN {a b : Nat} (hd : D0 M pc .imul 1 nx) (k : MW M j nx ls (.int (nI (a * b)) :: st) ρ Q) : MW M j pc ls (.int (nI b) :: .int (nI a) :: st) ρ Q := w_imul hd (by rw [pk_mul]; exact k)
theorem w_iremN {a b : Nat} (hd : D0 M pc .irem 1 nx) (ha : a < 2 ^ 31) (h0 : 0 < b) (hb : b < 2 ^ 31) (k : MW M j nx ls (.int (nI (a % b)) :: st) ρ Q) : MW M j pc ls (.int (nI b) :: .int (nI a) :: st) ρ Q := w_irem hd (nI_ne0 h0 hb) (by rw [pk_rem ha h0 hb]; exact k)
theorem w_iand7 {a : Nat} (hd : D0 M pc .iand 1 nx) (ha : a < 2 ^ 32) (k : MW M j nx ls (.int (nI (a % 8)) :: st) ρ Q) : MW M j pc ls (.int (nI 7) :: .int (nI a) :: st) ρ Q := w_iand hd (by rw [pk_andN ha 3 (by decide)]; exact k)
theorem w_iincN {i a c : Nat} {ls2 : List (Option Value)} (hd : DIn M pc i (nI c) nx) (hg : lg ls i = some (.int (nI a))) (hl : lset (lk ls i) i (some (.int (nI (a + c)))) = ls2) (k : MW M j nx ls2 st ρ Q) : MW M j pc ls st ρ Q := w_iinc hd hg (by rw [nI_add]; exact hl) k
theorem w_idecN {i a : Nat} {ls2 : List (Option Value)} (hd : DIn M pc i (-1) nx) (hg : lg ls i = some (.int (nI a))) (h0 : 0 < a) (hl : lset (lk ls i) i (some (.int (nI (a - 1)))) = ls2) (k : MW M j nx ls2 st ρ Q) : MW M j pc ls st ρ Q := w_iinc hd hg (by rw [sb_m1 h0]; exact hl) k
theorem w_iceqN {tgt a b : Nat} (hd : DCeq M pc tgt nx) (ha : a < 2 ^ 31) (hb : b < 2 ^ 31) (kt : a = b → MW M j tgt ls st ρ Q) (kf : a ≠ b → MW M j nx ls st ρ Q) : MW M j pc ls (.int (nI b) :: .int (nI a) :: st) ρ Q := w_iceq hd (fun h => kt ((nI_eq ha hb).mp h)) (fun h => kf (fun e => h ((nI_eq ha hb).mpr e)))
theorem w_icneN {tgt a b : Nat} (hd : DCne M pc tgt nx) (ha : a < 2 ^ 31) (hb : b < 2 ^ 31) (kt : a ≠ b → MW M j tgt ls st ρ Q) (kf : a = b → MW M j nx ls st ρ Q) : MW M j pc ls (.int (nI b) :: .int (nI a) :: st) ρ Q := w_icne hd (fun h => kt (fun e => h ((nI_eq ha hb).mpr e))) (fun h => kf ((nI_eq ha hb).mp h))
theorem w_icltN {tgt a b : Nat} (hd : DClt M pc tgt nx) (ha : a < 2 ^ 31) (hb : b < 2 ^ 31) (kt : a < b → MW M j tgt ls st ρ Q) (kf : b ≤ a → MW M j nx ls st ρ Q) : MW M j pc ls (.int (nI b) :: .int (nI a) :: st) ρ Q := w_iclt hd (fun h => kt ((nI_ltI ha hb).mp h)) (fun h => kf (Nat.le_of_not_lt fun e => h ((nI_ltI ha hb).mpr e)))
theorem w_icgeN {tgt a b : Nat} (hd : DCge M pc tgt nx) (ha : a < 2 ^ 31) (hb : b < 2 ^ 31) (kt : b ≤ a → MW M j tgt ls st ρ Q) (kf : a < b → MW M j nx ls st ρ Q) : MW M j pc ls (.int (nI b) :: .int (nI a) :: st) ρ Q := w_icge hd (fun h => kt ((nI_leI hb ha).mp h)) (fun h => kf (Nat.lt_of_not_le fun e => h ((nI_leI hb ha).mpr e)))
theorem w_icgtN {tgt a b : Nat} (hd : DCgt M pc tgt nx) (ha : a < 2 ^ 31) (hb : b < 2 ^ 31) (kt : b < a → MW M j tgt ls st ρ Q) (kf : a ≤ b → MW M j nx ls st ρ Q) : MW M j pc ls (.int (nI b) :: .int (nI a) :: st) ρ Q := w_icgt hd (fun h => kt ((nI_ltI hb ha).mp h)) (fun h => kf (Nat.le_of_not_lt fun e => h ((nI_ltI hb ha).mpr e)))
theorem w_icleN {tgt a b : Nat} (hd : DCle M pc tgt nx) (ha : a < 2 ^ 31) (hb : b < 2 ^ 31) (kt : a ≤ b → MW M j tgt ls st ρ Q) (kf : b < a → MW M j nx ls st ρ Q) : MW M j pc ls (.int (nI b) :: .int (nI a) :: st) ρ Q := w_icle hd (fun h => kt ((nI_leI ha hb).mp h)) (fun h => kf (Nat.lt_of_not_le fun e => h ((nI_leI ha hb).mpr e)))
theorem w_ifeqN {tgt a : Nat} (hd : DFeq M pc tgt nx) (ha : a < 2 ^ 31) (kt : a = 0 → MW M j tgt ls st ρ Q) (kf : a ≠ 0 → MW M j nx ls st ρ Q) : MW M j pc ls (.int (nI a) :: st) ρ Q := w_ifeq hd (fun h => kt ((nI_eq ha (by decide)).mp h)) (fun h => kf (fun e => h ((nI_eq ha (by decide)).mpr e)))
theorem w_ifneN {tgt a : Nat} (hd : DFne M pc tgt nx) (ha : a < 2 ^ 31) (kt : a ≠ 0 → MW M j tgt ls st ρ Q) (kf : a = 0 → MW M j nx ls st ρ Q) : MW M j pc ls (.int (nI a) :: st) ρ Q := w_ifne hd (fun h => kt (fun e => h ((nI_eq ha (by decide)).mpr e))) (fun h => kf ((nI_eq ha (by decide)).mp h))
theorem w_ifltN {tgt a : Nat} (hd : DFlt M pc tgt nx) (ha : a < 2 ^ 31) (kf : MW M j nx ls st ρ Q) : MW M j pc ls (.int (nI a) :: st) ρ Q := w_iflt hd (fun h => absurd h (nI_pos ha)) (fun _ => kf)
theorem w_ifgeN {tgt a : Nat} (hd : DFge M pc tgt nx) (ha : a < 2 ^ 31) (kt : MW M j tgt ls st ρ Q) : MW M j pc ls (.int (nI a) :: st) ρ Q := w_ifge hd (fun _ => kt) (fun h => absurd (nI_pos' ha) h)
theorem w_ifgtN {tgt a : Nat} (hd : DFgt M pc tgt nx) (ha : a < 2 ^ 31) (kt : 0 < a → MW M j tgt ls st ρ Q) (kf : a = 0 → MW M j nx ls st ρ Q) : MW M j pc ls (.int (nI a) :: st) ρ Q := w_ifgt hd (fun h => kt ((nI_ltI (a := 0) (by decide) ha).mp h)) (fun h => kf (Nat.eq_zero_of_not_pos fun e => h ((nI_ltI (a := 0) (by decide) ha).mpr e)))
theorem w_ifleN {tgt a : Nat} (hd : DFle M pc tgt nx) (ha : a < 2 ^ 31) (kt : a = 0 → MW M j tgt ls st ρ Q) (kf : 0 < a → MW M j nx ls st ρ Q) : MW M j pc ls (.int (nI a) :: st) ρ Q := w_ifle hd (fun h => kt (Nat.le_zero.mp ((nI_leI (b := 0) ha (by decide)).mp h))) (fun h => kf (Nat.pos_of_ne_zero fun e => h ((nI_leI (b := 0) ha (by decide)).mpr (Nat.le_of_eq e))))
theorem w_ialdN {q n a : Nat} (hd : D0 M pc .iaload 1 nx) (hs : Sh q (.inl (0, n))) (h : a < n) (k : MW M j nx ls (.int (ρ.1 q a) :: st) ρ Q) : MW M j pc ls (.int (nI a) :: .ref q :: st) ρ Q := w_iald hd hs (vp_in_nI h (sh_n hs)) (by rw [nI_clamp (Nat.lt_trans h (sh_n hs))]; exact k)
theorem w_ialdV {q n a : Nat} {v : Int32} (hd : D0 M pc .iaload 1 nx) (hs : Sh q (.inl (0, n))) (h : a < n) (hv : ρ.1 q a = v) (k : MW M j nx ls (.int v :: st) ρ Q) : MW M j pc ls (.int (nI a) :: .ref q :: st) ρ Q := w_ialdN hd hs h (by rw [hv]; exact k)
theorem w_laldN {q n a : Nat} (hd : D0 M pc .laload 1 nx) (hs : Sh q (.inl (1, n))) (h : a < n) (k : MW M j nx ls (.long (ρ.2 q a) :: st) ρ Q) : MW M j pc ls (.int (nI a) :: .ref q :: st) ρ Q := w_lald hd hs (vp_in_nI h (sh_n hs)) (by rw [nI_clamp (Nat.lt_trans h (sh_n hs))]; exact k)
theorem w_laldV {q n a : Nat} {v : Int64} (hd : D0 M pc .laload 1 nx) (hs : Sh q (.inl (1, n))) (h : a < n) (hv : ρ.2 q a = v) (k : MW M j nx ls (.long v :: st) ρ Q) : MW M j pc ls (.int (nI a) :: .ref q :: st) ρ Q := w_laldN hd hs h (by rw [hv]; exact k)
theorem w_zaldN {q n a : Nat} (hd : D0 M pc .baload 1 nx) (hs : Sh q (.inl (2, n))) (h : a < n) (k : MW M j nx ls (.int (ρ.1 q a) :: st) ρ Q) : MW M j pc ls (.int (nI a) :: .ref q :: st) ρ Q := w_zald hd hs (vp_in_nI h (sh_n hs)) (by rw [nI_clamp (Nat.lt_trans h (sh_n hs))]; exact k)
theorem w_zaldV {q n a : Nat} {v : Int32} (hd : D0 M pc .baload 1 nx) (hs : Sh q (.inl (2, n))) (h : a < n) (hv : ρ.1 q a = v) (k : MW M j nx ls (.int v :: st) ρ Q) : MW M j pc ls (.int (nI a) :: .ref q :: st) ρ Q := w_zaldN hd hs h (by rw [hv]; exact k)
theorem w_aaldN {q b n a : Nat} (hd : D0 M pc .aaload 1 nx) (hs : Sh q (.inl (b + 3, n))) (h : a < n) (k : MW M j nx ls (.ref (b + a) :: st) ρ Q) : MW M j pc ls (.int (nI a) :: .ref q :: st) ρ Q := w_aald hd hs (vp_in_nI h (sh_n hs)) (by rw [nI_clamp (Nat.lt_trans h (sh_n hs))]; exact k)
theorem w_iastN {q n a : Nat} {x : Int32} (hd : D0 M pc .iastore 1 nx) (hs : Sh q (.inl (0, n))) (h : a < n) (k : MW M j nx ls st (wI ρ q a x) Q) : MW M j pc ls (.int x :: .int (nI a) :: .ref q :: st) ρ Q := w_iast hd hs (vp_in_nI h (sh_n hs)) (by rw [nI_clamp (Nat.lt_trans h (sh_n hs))]; exact k)
theorem w_zastN {q n a : Nat} {x : Int32} (hd : D0 M pc .bastore 1 nx) (hs : Sh q (.inl (2, n))) (h : a < n) (hx : vp_nar .boolean x = x) (k : MW M j nx ls st (wI ρ q a x) Q) : MW M j pc ls (.int x :: .int (nI a) :: .ref q :: st) ρ Q := w_zast hd hs (vp_in_nI h (sh_n hs)) hx (by rw [nI_clamp (Nat.lt_trans h (sh_n hs))]; exact k)
theorem w_lastN {q n a : Nat} {x : Int64} (hd : D0 M pc .lastore 1 nx) (hs : Sh q (.inl (1, n))) (h : a < n) (k : MW M j nx ls st (wL ρ q a x) Q) : MW M j pc ls (.long x :: .int (nI a) :: .ref q :: st) ρ Q := w_last hd hs (vp_in_nI h (sh_n hs)) (by rw [nI_clamp (Nat.lt_trans h (sh_n hs))]; exact k)
theorem w_giV {q idx ci slot : Nat} {fs : List Nat} {v : Int32} (hd : D0 M pc (.getfield idx) 3 nx) (hf : FLk (mO M) idx ci slot) (hs : Sh q (.inr (ci, fs))) (hk : fs[slot]? = some 0) (hv : ρ.1 q slot = v) (k : MW M j nx ls (.int v :: st) ρ Q) : MW M j pc ls (.ref q :: st) ρ Q := w_gi hd hf hs hk (by rw [hv]; exact k)
abbrev inR (v lo hi : Int32) : Prop := lo ≤ v ∧ v ≤ hi
theorem inR_nI {v : Int32} {m : Nat} (h : inR v (nI 0) (nI m)) (hm : m < 2 ^ 31) : ∃ a, a ≤ m ∧ v = nI a := nI_of2 (nI_toInt hm) (fun q => Int32.not_lt.mpr h.1 q) h.2
theorem nI_inR {a m : Nat} (h : a ≤ m) (hm : m < 2 ^ 31) : inR (nI a) (nI 0) (nI m) := ⟨nI_le (Nat.zero_le _) (by omega), nI_le h hm⟩
theorem rI_eq {ρ : Rho} {k i : Nat} {v : Int32} : (wI ρ k i v).1 k i = v := by simp [wI]
theorem rI_ne {ρ : Rho} {k i a b : Nat} {v : Int32} (h : ¬ (a = k ∧ b = i)) : (wI ρ k i v).1 a b = ρ.1 a b := by simp [wI, h]
end
section
set_option maxHeartbeats 4000000 in
theorem c_X7_within (ρ : Rho) (v m : Int32) : CallOK 0 mX7_within [.int v, .int m] ρ (fun r ρ2 => r = some (.int (b2i (inR v (nI 0) m))) ∧ ρ2 = ρ) := by
  refine callOK_of 0 (by decide +kernel) rfl (fun _ => Nat.le_of_ble_eq_true rfl) (ls := [some (.int v), some (.int m)]) rfl ?_
  generalize hQ : (fun r ρ2 => r = some (.int (b2i (inR v (nI 0) m))) ∧ ρ2 = ρ : Option Value → Rho → Prop) = Q
  refine w_il dX7_within_0 rfl ?_
  refine w_iflt dX7_within_1 (fun h1 => ?_) (fun h1 => ?_)
  · --t
    refine w_k dX7_within_13 ?_
    refine w_zret dX7_within_14 rfl rfl ?_
    rw [← hQ]
    exact ⟨congrArg (fun z => some (Value.int z)) (b2i_f (fun q => Int32.not_lt.mpr q.1 h1)).symm, rfl⟩
  · --f
    refine w_il dX7_within_4 rfl ?_
    refine w_il dX7_within_5 rfl ?_
    refine w_icgt dX7_within_6 (fun h6 => ?_) (fun h6 => ?_)
    · --t
      refine w_k dX7_within_13 ?_
      refine w_zret dX7_within_14 rfl rfl ?_
      rw [← hQ]
      exact ⟨congrArg (fun z => some (Value.int z)) (b2i_f (fun q => Int32.not_lt.mpr q.2 h6)).symm, rfl⟩
    · --f
      refine w_k dX7_within_9 ?_
      refine w_goto dX7_within_10 ?_
      refine w_zret dX7_within_14 rfl rfl ?_
      rw [← hQ]
      exact ⟨congrArg (fun z => some (Value.int z)) (b2i_t ⟨Int32.not_lt.mp h1, Int32.not_lt.mp h6⟩).symm, rfl⟩

set_option maxHeartbeats 4000000 in
theorem c_X8_in (ρ : Rho) (v lo hi : Int32) : CallOK 0 mX8_in [.int v, .int lo, .int hi] ρ (fun r ρ2 => r = some (.int (b2i (inR v lo hi))) ∧ ρ2 = ρ) := by
  refine callOK_of 0 (by decide +kernel) rfl (fun _ => Nat.le_of_ble_eq_true rfl) (ls := [some (.int v), some (.int lo), some (.int hi)]) rfl ?_
  generalize hQ : (fun r ρ2 => r = some (.int (b2i (inR v lo hi))) ∧ ρ2 = ρ : Option Value → Rho → Prop) = Q
  refine w_il dX8_in_0 rfl ?_
  refine w_il dX8_in_1 rfl ?_
  refine w_iclt dX8_in_2 (fun h2 => ?_) (fun h2 => ?_)
  · --t
    refine w_k dX8_in_14 ?_
    refine w_zret dX8_in_15 rfl rfl ?_
    rw [← hQ]
    exact ⟨congrArg (fun z => some (Value.int z)) (b2i_f (fun q => Int32.not_lt.mpr q.1 h2)).symm, rfl⟩
  · --f
    refine w_il dX8_in_5 rfl ?_
    refine w_il dX8_in_6 rfl ?_
    refine w_icgt dX8_in_7 (fun h7 => ?_) (fun h7 => ?_)
    · --t
      refine w_k dX8_in_14 ?_
      refine w_zret dX8_in_15 rfl rfl ?_
      rw [← hQ]
      exact ⟨congrArg (fun z => some (Value.int z)) (b2i_f (fun q => Int32.not_lt.mpr q.2 h7)).symm, rfl⟩
    · --f
      refine w_k dX8_in_10 ?_
      refine w_goto dX8_in_11 ?_
      refine w_zret dX8_in_15 rfl rfl ?_
      rw [← hQ]
      exact ⟨congrArg (fun z => some (Value.int z)) (b2i_t ⟨Int32.not_lt.mp h2, Int32.not_lt.mp h7⟩).symm, rfl⟩

set_option maxHeartbeats 4000000 in
theorem c_X7_isDay (ρ : Rho) (v : Int32) : CallOK 1 mX7_isDay [.int v] ρ (fun r ρ2 => r = some (.int (b2i (inR v (nI 0) (nI 99)))) ∧ ρ2 = ρ) := by
  refine callOK_of 0 (by decide +kernel) rfl (fun _ => Nat.le_of_ble_eq_true rfl) (ls := [some (.int v)]) rfl ?_
  generalize hQ : (fun r ρ2 => r = some (.int (b2i (inR v (nI 0) (nI 99)))) ∧ ρ2 = ρ : Option Value → Rho → Prop) = Q
  refine w_il dX7_isDay_0 rfl ?_
  refine w_k dX7_isDay_1 ?_
  refine w_cSf dX7_isDay_3 (sl_X7_63 _ rfl) (by decide) (c_X7_within ρ v (nI 99)) rfl rfl (Nat.le_of_ble_eq_true rfl) ?_
  refine w_zret dX7_isDay_6 rfl (b2i_nar _) ?_
  rw [← hQ]
  exact ⟨congrArg (fun z => some (Value.int z)) (rfl), rfl⟩

set_option maxHeartbeats 4000000 in
theorem c_X7_isThing (ρ : Rho) (v : Int32) : CallOK 1 mX7_isThing [.int v] ρ (fun r ρ2 => r = some (.int (b2i (inR v (nI 0) (nI 4)))) ∧ ρ2 = ρ) := by
  refine callOK_of 0 (by decide +kernel) rfl (fun _ => Nat.le_of_ble_eq_true rfl) (ls := [some (.int v)]) rfl ?_
  generalize hQ : (fun r ρ2 => r = some (.int (b2i (inR v (nI 0) (nI 4)))) ∧ ρ2 = ρ : Option Value → Rho → Prop) = Q
  refine w_il dX7_isThing_0 rfl ?_
  refine w_k dX7_isThing_1 ?_
  refine w_cSf dX7_isThing_2 (sl_X7_63 _ rfl) (by decide) (c_X7_within ρ v (nI 4)) rfl rfl (Nat.le_of_ble_eq_true rfl) ?_
  refine w_zret dX7_isThing_5 rfl (b2i_nar _) ?_
  rw [← hQ]
  exact ⟨congrArg (fun z => some (Value.int z)) (rfl), rfl⟩

set_option maxHeartbeats 4000000 in
theorem c_X7_isSheet (ρ : Rho) (v : Int32) : CallOK 1 mX7_isSheet [.int v] ρ (fun r ρ2 => r = some (.int (b2i (inR v (nI 0) (nI 3)))) ∧ ρ2 = ρ) := by
  refine callOK_of 0 (by decide +kernel) rfl (fun _ => Nat.le_of_ble_eq_true rfl) (ls := [some (.int v)]) rfl ?_
  generalize hQ : (fun r ρ2 => r = some (.int (b2i (inR v (nI 0) (nI 3)))) ∧ ρ2 = ρ : Option Value → Rho → Prop) = Q
  refine w_il dX7_isSheet_0 rfl ?_
  refine w_k dX7_isSheet_1 ?_
  refine w_cSf dX7_isSheet_2 (sl_X7_63 _ rfl) (by decide) (c_X7_within ρ v (nI 3)) rfl rfl (Nat.le_of_ble_eq_true rfl) ?_
  refine w_zret dX7_isSheet_5 rfl (b2i_nar _) ?_
  rw [← hQ]
  exact ⟨congrArg (fun z => some (Value.int z)) (rfl), rfl⟩

set_option maxHeartbeats 4000000 in
theorem c_X7_isForm (ρ : Rho) (v : Int32) : CallOK 1 mX7_isForm [.int v] ρ (fun r ρ2 => r = some (.int (b2i (inR v (nI 0) (nI 2)))) ∧ ρ2 = ρ) := by
  refine callOK_of 0 (by decide +kernel) rfl (fun _ => Nat.le_of_ble_eq_true rfl) (ls := [some (.int v)]) rfl ?_
  generalize hQ : (fun r ρ2 => r = some (.int (b2i (inR v (nI 0) (nI 2)))) ∧ ρ2 = ρ : Option Value → Rho → Prop) = Q
  refine w_il dX7_isForm_0 rfl ?_
  refine w_k dX7_isForm_1 ?_
  refine w_cSf dX7_isForm_2 (sl_X7_63 _ rfl) (by decide) (c_X7_within ρ v (nI 2)) rfl rfl (Nat.le_of_ble_eq_true rfl) ?_
  refine w_zret dX7_isForm_5 rfl (b2i_nar _) ?_
  rw [← hQ]
  exact ⟨congrArg (fun z => some (Value.int z)) (rfl), rfl⟩

set_option maxHeartbeats 4000000 in
theorem c_X8_isEighth (ρ : Rho) (v : Int32) : CallOK 1 mX8_isEighth [.int v] ρ (fun r ρ2 => r = some (.int (b2i (inR v (nI 0) (nI 7)))) ∧ ρ2 = ρ) := by
  refine callOK_of 0 (by decide +kernel) rfl (fun _ => Nat.le_of_ble_eq_true rfl) (ls := [some (.int v)]) rfl ?_
  generalize hQ : (fun r ρ2 => r = some (.int (b2i (inR v (nI 0) (nI 7)))) ∧ ρ2 = ρ : Option Value → Rho → Prop) = Q
  refine w_il dX8_isEighth_0 rfl ?_
  refine w_k dX8_isEighth_1 ?_
  refine w_k dX8_isEighth_2 ?_
  refine w_cSf dX8_isEighth_4 (sl_X8_89 _ rfl) (by decide) (c_X8_in ρ v (nI 0) (nI 7)) rfl rfl (Nat.le_of_ble_eq_true rfl) ?_
  refine w_zret dX8_isEighth_7 rfl (b2i_nar _) ?_
  rw [← hQ]
  exact ⟨congrArg (fun z => some (Value.int z)) (rfl), rfl⟩

set_option maxHeartbeats 4000000 in
theorem c_X8_isDay (ρ : Rho) (v : Int32) : CallOK 1 mX8_isDay [.int v] ρ (fun r ρ2 => r = some (.int (b2i (inR v (nI 0) (nI 99)))) ∧ ρ2 = ρ) := by
  refine callOK_of 0 (by decide +kernel) rfl (fun _ => Nat.le_of_ble_eq_true rfl) (ls := [some (.int v)]) rfl ?_
  generalize hQ : (fun r ρ2 => r = some (.int (b2i (inR v (nI 0) (nI 99)))) ∧ ρ2 = ρ : Option Value → Rho → Prop) = Q
  refine w_il dX8_isDay_0 rfl ?_
  refine w_k dX8_isDay_1 ?_
  refine w_k dX8_isDay_2 ?_
  refine w_cSf dX8_isDay_4 (sl_X8_89 _ rfl) (by decide) (c_X8_in ρ v (nI 0) (nI 99)) rfl rfl (Nat.le_of_ble_eq_true rfl) ?_
  refine w_zret dX8_isDay_7 rfl (b2i_nar _) ?_
  rw [← hQ]
  exact ⟨congrArg (fun z => some (Value.int z)) (rfl), rfl⟩

set_option maxHeartbeats 4000000 in
theorem c_X8_isThing (ρ : Rho) (v : Int32) : CallOK 1 mX8_isThing [.int v] ρ (fun r ρ2 => r = some (.int (b2i (inR v (nI 0) (nI 4)))) ∧ ρ2 = ρ) := by
  refine callOK_of 0 (by decide +kernel) rfl (fun _ => Nat.le_of_ble_eq_true rfl) (ls := [some (.int v)]) rfl ?_
  generalize hQ : (fun r ρ2 => r = some (.int (b2i (inR v (nI 0) (nI 4)))) ∧ ρ2 = ρ : Option Value → Rho → Prop) = Q
  refine w_il dX8_isThing_0 rfl ?_
  refine w_k dX8_isThing_1 ?_
  refine w_k dX8_isThing_2 ?_
  refine w_cSf dX8_isThing_3 (sl_X8_89 _ rfl) (by decide) (c_X8_in ρ v (nI 0) (nI 4)) rfl rfl (Nat.le_of_ble_eq_true rfl) ?_
  refine w_zret dX8_isThing_6 rfl (b2i_nar _) ?_
  rw [← hQ]
  exact ⟨congrArg (fun z => some (Value.int z)) (rfl), rfl⟩

set_option maxHeartbeats 4000000 in
theorem c_X8_isSheet (ρ : Rho) (v : Int32) : CallOK 1 mX8_isSheet [.int v] ρ (fun r ρ2 => r = some (.int (b2i (inR v (nI 0) (nI 3)))) ∧ ρ2 = ρ) := by
  refine callOK_of 0 (by decide +kernel) rfl (fun _ => Nat.le_of_ble_eq_true rfl) (ls := [some (.int v)]) rfl ?_
  generalize hQ : (fun r ρ2 => r = some (.int (b2i (inR v (nI 0) (nI 3)))) ∧ ρ2 = ρ : Option Value → Rho → Prop) = Q
  refine w_il dX8_isSheet_0 rfl ?_
  refine w_k dX8_isSheet_1 ?_
  refine w_k dX8_isSheet_2 ?_
  refine w_cSf dX8_isSheet_3 (sl_X8_89 _ rfl) (by decide) (c_X8_in ρ v (nI 0) (nI 3)) rfl rfl (Nat.le_of_ble_eq_true rfl) ?_
  refine w_zret dX8_isSheet_6 rfl (b2i_nar _) ?_
  rw [← hQ]
  exact ⟨congrArg (fun z => some (Value.int z)) (rfl), rfl⟩
end
section
/-! THE SPECIFICATION: the state that both sides hold, and what is read off it -/
abbrev Sg : Type := (Nat → Nat → Nat) × (Nat → Nat → Int32)
def sN (σ : Sg) (k i v : Nat) : Sg := (fun a b => if a = k ∧ b = i then v else σ.1 a b, σ.2)
def sZ (σ : Sg) (k i : Nat) (v : Int32) : Sg := (σ.1, fun a b => if a = k ∧ b = i then v else σ.2 a b)
def Wf (σ : Sg) : Prop := σ.1 47 0 ≤ 60 ∧ σ.1 47 7 ≤ 60 ∧ σ.1 47 12 ≤ 999 ∧ σ.1 47 29 ≤ 5 ∧ (∀ i, σ.1 48 i < 256) ∧ (∀ i, σ.1 52 i ≤ 9) ∧ (∀ i, σ.1 53 i < 100) ∧ (∀ i, σ.1 54 i ≤ 1) ∧ (∀ i, σ.1 55 i ≤ 999) ∧ σ.1 57 0 ≤ 999 ∧ σ.1 57 1 ≤ 7 ∧ σ.1 57 2 ≤ 7 ∧ (∀ i, σ.1 62 i ≤ 9) ∧ (∀ i, σ.1 63 i ≤ 7) ∧ (∀ i, σ.1 68 i ≤ 1) ∧ (∀ i, σ.1 69 i ≤ 2) ∧ (∀ i, σ.1 70 i ≤ 60) ∧ (∀ i, σ.2 66 i = -1 ∨ ∃ a, a ≤ 12 ∧ σ.2 66 i = nI a) ∧ (∀ i, σ.2 56 i = -1 ∨ ∃ a, a ≤ 999 ∧ σ.2 56 i = nI a)
theorem Wf.typed {σ : Sg} (h : Wf σ) : σ.1 47 0 ≤ 60 := h.1
theorem Wf.gales {σ : Sg} (h : Wf σ) : σ.1 47 7 ≤ 60 := h.2.1
theorem Wf.last {σ : Sg} (h : Wf σ) : σ.1 47 12 ≤ 999 := h.2.2.1
theorem Wf.find {σ : Sg} (h : Wf σ) : σ.1 47 29 ≤ 5 := h.2.2.2.1
theorem Wf.text {σ : Sg} (h : Wf σ) (i : Nat) : σ.1 48 i < 256 := h.2.2.2.2.1 i
theorem Wf.suns {σ : Sg} (h : Wf σ) (i : Nat) : σ.1 52 i ≤ 9 := h.2.2.2.2.2.1 i
theorem Wf.day {σ : Sg} (h : Wf σ) (i : Nat) : σ.1 53 i < 100 := h.2.2.2.2.2.2.1 i
theorem Wf.frm {σ : Sg} (h : Wf σ) (i : Nat) : σ.1 54 i ≤ 1 := h.2.2.2.2.2.2.2.1 i
theorem Wf.told {σ : Sg} (h : Wf σ) (i : Nat) : σ.1 55 i ≤ 999 := h.2.2.2.2.2.2.2.2.1 i
theorem Wf.asof {σ : Sg} (h : Wf σ) : σ.1 57 0 ≤ 999 := h.2.2.2.2.2.2.2.2.2.1
theorem Wf.wing {σ : Sg} (h : Wf σ) : σ.1 57 1 ≤ 7 := h.2.2.2.2.2.2.2.2.2.2.1
theorem Wf.begin {σ : Sg} (h : Wf σ) : σ.1 57 2 ≤ 7 := h.2.2.2.2.2.2.2.2.2.2.2.1
theorem Wf.wish {σ : Sg} (h : Wf σ) (i : Nat) : σ.1 62 i ≤ 9 := h.2.2.2.2.2.2.2.2.2.2.2.2.1 i
theorem Wf.lives {σ : Sg} (h : Wf σ) (i : Nat) : σ.1 63 i ≤ 7 := h.2.2.2.2.2.2.2.2.2.2.2.2.2.1 i
theorem Wf.there {σ : Sg} (h : Wf σ) (i : Nat) : σ.1 68 i ≤ 1 := h.2.2.2.2.2.2.2.2.2.2.2.2.2.2.1 i
theorem Wf.form {σ : Sg} (h : Wf σ) (i : Nat) : σ.1 69 i ≤ 2 := h.2.2.2.2.2.2.2.2.2.2.2.2.2.2.2.1 i
theorem Wf.size {σ : Sg} (h : Wf σ) (i : Nat) : σ.1 70 i ≤ 60 := h.2.2.2.2.2.2.2.2.2.2.2.2.2.2.2.2.1 i
theorem Wf.reap {σ : Sg} (h : Wf σ) (i : Nat) : σ.2 66 i = -1 ∨ ∃ a, a ≤ 12 ∧ σ.2 66 i = nI a := h.2.2.2.2.2.2.2.2.2.2.2.2.2.2.2.2.2.1 i
theorem Wf.back {σ : Sg} (h : Wf σ) (i : Nat) : σ.2 56 i = -1 ∨ ∃ a, a ≤ 999 ∧ σ.2 56 i = nI a := h.2.2.2.2.2.2.2.2.2.2.2.2.2.2.2.2.2.2 i
def mNs : List Nat := [48, 52, 53, 54, 55, 57, 62, 63, 68, 69, 70]
def mZs : List Nat := [56, 66, 71]
def mSs : List Nat := [0, 7, 12, 29]
/-- the reference's own cells hold the state -/
def MInv (σ : Sg) (ρ : Rho) : Prop := Wf σ ∧ (∀ k ∈ mNs, ∀ i, ρ.1 k i = nI (σ.1 k i)) ∧ (∀ k ∈ mZs, ∀ i, ρ.1 k i = σ.2 k i) ∧ ∀ i ∈ mSs, ρ.1 47 i = nI (σ.1 47 i)
def EqC (ρ ρ2 : Rho) : Prop := ∀ k, k < 47 → ρ2.1 k = ρ.1 k ∧ ρ2.2 k = ρ.2 k
def EqM (ρ ρ2 : Rho) : Prop := ∀ k, 47 ≤ k → ρ2.1 k = ρ.1 k ∧ ρ2.2 k = ρ.2 k
theorem EqC.rf {ρ : Rho} : EqC ρ ρ := fun _ _ => ⟨rfl, rfl⟩
theorem EqM.rf {ρ : Rho} : EqM ρ ρ := fun _ _ => ⟨rfl, rfl⟩
theorem EqC.tr {a b c : Rho} (h : EqC a b) (g : EqC b c) : EqC a c := fun k hk => ⟨(g k hk).1.trans (h k hk).1, (g k hk).2.trans (h k hk).2⟩
theorem EqM.tr {a b c : Rho} (h : EqM a b) (g : EqM b c) : EqM a c := fun k hk => ⟨(g k hk).1.trans (h k hk).1, (g k hk).2.trans (h k hk).2⟩
theorem EqC.w {a b : Rho} (h : EqC a b) {k i : Nat} {v : Int32} (hk : 47 ≤ k) : EqC a (wI b k i v) := fun q hq => ⟨(wI_ne (by omega)).trans (h q hq).1, (h q hq).2⟩
theorem EqM.w {a b : Rho} (h : EqM a b) {k i : Nat} {v : Int32} (hk : k < 47) : EqM a (wI b k i v) := fun q hq => ⟨(wI_ne (by omega)).trans (h q hq).1, (h q hq).2⟩
theorem EqC.wl {a b : Rho} (h : EqC a b) {k i : Nat} {v : Int64} (hk : 47 ≤ k) : EqC a (wL b k i v) := fun q hq => ⟨(h q hq).1, (wL_ne (by omega)).trans (h q hq).2⟩
theorem EqM.wl {a b : Rho} (h : EqM a b) {k i : Nat} {v : Int64} (hk : k < 47) : EqM a (wL b k i v) := fun q hq => ⟨(h q hq).1, (wL_ne (by omega)).trans (h q hq).2⟩
/-- a cell that the reference's state is not in is written -/
theorem MInv.w {σ : Sg} {ρ : Rho} (h : MInv σ ρ) {k i : Nat} {v : Int32} (hk : k ∉ mNs ∧ k ∉ mZs ∧ (k = 47 → i ∉ mSs)) : MInv σ (wI ρ k i v) := by
  refine ⟨h.1, fun a ha b => ?_, fun a ha b => ?_, fun b hb => ?_⟩
  · rw [wI_ne (a := a) (k := k) (fun e => hk.1 (e ▸ ha))]; exact h.2.1 a ha b
  · rw [wI_ne (a := a) (k := k) (fun e => hk.2.1 (e ▸ ha))]; exact h.2.2.1 a ha b
  · rw [rI_ne (a := 47) (b := b) (k := k) (i := i) (fun e => hk.2.2 e.1.symm (e.2 ▸ hb))]; exact h.2.2.2 b hb
theorem MInv.wl {σ : Sg} {ρ : Rho} (h : MInv σ ρ) {k i : Nat} {v : Int64} : MInv σ (wL ρ k i v) := h
/-! gales and turns -/
def sumN (f : Nat → Nat) : Nat → Nat
  | 0 => 0
  | n + 1 => sumN f n + f n
theorem sumN_congr {f g : Nat → Nat} : ∀ (n : Nat), (∀ i, i < n → f i = g i) → sumN f n = sumN g n
  | 0, _ => rfl
  | n + 1, h => by rw [sumN, sumN, sumN_congr n (fun i hi => h i (by omega)), h n (by omega)]
theorem sumN_add {f g : Nat → Nat} : ∀ (n : Nat), sumN (fun i => f i + g i) n = sumN f n + sumN g n
  | 0 => rfl
  | n + 1 => by simp only [sumN]; rw [sumN_add n]; omega
theorem sumN_0 : ∀ (n : Nat), sumN (fun _ => 0) n = 0
  | 0 => rfl
  | n + 1 => by simp only [sumN]; rw [sumN_0 n]
theorem sumN_le {f : Nat → Nat} {c : Nat} : ∀ (n : Nat), (∀ i, i < n → f i ≤ c) → sumN f n ≤ n * c
  | 0, _ => by simp [sumN]
  | n + 1, h => by
    have h1 := sumN_le n (fun i hi => h i (by omega))
    have h2 := h n (by omega)
    simp only [sumN, Nat.succ_mul]
    omega
def incG (σ : Sg) (k : Nat) : Nat := if σ.1 54 k = 0 then 1 else σ.1 57 1
abbrev cntG (σ : Sg) (k : Nat) : Prop := σ.1 55 k ≤ σ.1 57 0 ∧ (σ.2 56 k = -1 ∨ nI (σ.1 57 0) < σ.2 56 k)
def sumT (σ : Sg) (d n : Nat) : Nat := sumN (fun k => if cntG σ k ∧ σ.1 53 k ≤ d then incG σ k else 0) n
/-- the TURN of a DAY -/
def Tn (σ : Sg) (d : Nat) : Nat := (σ.1 57 2 + sumT σ d (σ.1 47 7)) % 8
theorem Tn_lt (σ : Sg) (d : Nat) : Tn σ d < 8 := Nat.mod_lt _ (by decide)
/-! the land -/
def bA (σ : Sg) (k : Nat) : Int32 := if k < σ.1 47 0 then nI (σ.1 48 k) else -1
def tOf (b : Int32) : Int32 := if b = nI 46 then nI 0 else if b = nI 109 then nI 1 else if b = nI 119 then nI 2 else if b = nI 115 then nI 3 else if b = nI 102 then nI 4 else -1
def dg (σ : Sg) (k : Nat) : Nat := if k < σ.1 47 0 ∧ 48 ≤ σ.1 48 k then σ.1 48 k - 48 else 99
def br4 (br : Nat → Nat) (nb a b c d : Nat) : Nat → Nat := va_up (va_up (va_up (va_up br (4 * nb) a) (4 * nb + 1) b) (4 * nb + 2) c) (4 * nb + 3) d
def PP (σ : Sg) : Nat → Nat → (Nat → Nat) → Nat → (Nat → Nat) → Int32 × (Nat → Nat) × Nat × (Nat → Nat)
  | 0, _, cl, nb, br => (-1, cl, nb, br)
  | n + 1, a, cl, nb, br =>
    if a < σ.1 47 0 then
      if σ.1 48 a = 59 then
        if bA σ (a + 1) = nI 120 then
          if dg σ (a + 2) ≤ 7 then PP σ n (a + 3) (va_up cl (dg σ (a + 2)) 1) nb br else (nI (a + 2), cl, nb, br)
        else if bA σ (a + 1) = nI 98 ∧ nb < 4 then
          if dg σ (a + 2) ≤ 7 then
            if dg σ (a + 3) ≤ 7 ∧ dg σ (a + 3) ≠ dg σ (a + 2) then
              if 1 ≤ dg σ (a + 4) ∧ dg σ (a + 4) ≤ 8 then
                if dg σ (a + 5) < dg σ (a + 4) then PP σ n (a + 6) cl (nb + 1) (br4 br nb (dg σ (a + 2)) (dg σ (a + 3)) (dg σ (a + 4)) (dg σ (a + 5)))
                else (nI (a + 5), cl, nb, br)
              else (nI (a + 4), cl, nb, br)
            else (nI (a + 3), cl, nb, br)
          else (nI (a + 2), cl, nb, br)
        else (nI (a + 1), cl, nb, br)
      else (nI a, cl, nb, br)
    else (-1, cl, nb, br)
def fsg (σ : Sg) : Nat → Nat → Option Nat
  | 0, _ => none
  | n + 1, a => if tOf (bA σ a) = -1 then some a else fsg σ n (a + 1)
def LPr (σ : Sg) : Int32 × (Nat → Nat) × Nat × (Nat → Nat) := match fsg σ 8 0 with
  | some p => (nI p, (fun _ => 0), 0, (fun _ => 0))
  | none => PP σ 60 8 (fun _ => 0) 0 (fun _ => 0)
/-- the FAULT, and what the land says -/
def Flt (σ : Sg) : Int32 := (LPr σ).1
def Th (σ : Sg) (p : Nat) : Nat := if Flt σ = -1 then (tOf (bA σ p)).toNatClampNeg else 0
def Cl (σ : Sg) (p : Nat) : Nat := if Flt σ = -1 then (LPr σ).2.1 p else 0
def NB (σ : Sg) : Nat := if Flt σ = -1 then (LPr σ).2.2.1 else 0
def Br (σ : Sg) (i : Nat) : Nat := (LPr σ).2.2.2 i
theorem tOf_in (b : Int32) : tOf b = -1 ∨ ∃ t, t ≤ 4 ∧ tOf b = nI t := by
  unfold tOf
  repeat' split
  · exact Or.inr ⟨0, by decide, rfl⟩
  · exact Or.inr ⟨1, by decide, rfl⟩
  · exact Or.inr ⟨2, by decide, rfl⟩
  · exact Or.inr ⟨3, by decide, rfl⟩
  · exact Or.inr ⟨4, by decide, rfl⟩
  · exact Or.inl rfl
theorem Th_le (σ : Sg) (p : Nat) : Th σ p ≤ 4 := by
  unfold Th
  split
  · rcases tOf_in (bA σ p) with h | ⟨t, ht, h⟩
    · rw [h]; decide
    · rw [h, nI_clamp (by omega)]; exact ht
  · omega
def brOK (nb : Nat) (br : Nat → Nat) : Prop := nb ≤ 4 ∧ ∀ k, k < nb → br (4 * k) ≤ 7 ∧ br (4 * k + 1) ≤ 7 ∧ br (4 * k + 1) ≠ br (4 * k) ∧ 1 ≤ br (4 * k + 2) ∧ br (4 * k + 2) ≤ 8 ∧ br (4 * k + 3) < br (4 * k + 2)
theorem br4_lo {br : Nat → Nat} {nb a b c d i : Nat} (h : i < 4 * nb) : br4 br nb a b c d i = br i := by
  unfold br4 va_up
  rw [if_neg (by omega), if_neg (by omega), if_neg (by omega), if_neg (by omega)]
theorem br4_0 {br : Nat → Nat} {nb a b c d : Nat} : br4 br nb a b c d (4 * nb) = a := by
  unfold br4 va_up
  rw [if_neg (by omega), if_neg (by omega), if_neg (by omega), if_pos rfl]
theorem br4_1 {br : Nat → Nat} {nb a b c d : Nat} : br4 br nb a b c d (4 * nb + 1) = b := by
  unfold br4 va_up
  rw [if_neg (by omega), if_neg (by omega), if_pos rfl]
theorem br4_2 {br : Nat → Nat} {nb a b c d : Nat} : br4 br nb a b c d (4 * nb + 2) = c := by
  unfold br4 va_up
  rw [if_neg (by omega), if_pos rfl]
theorem br4_3 {br : Nat → Nat} {nb a b c d : Nat} : br4 br nb a b c d (4 * nb + 3) = d := by
  unfold br4 va_up
  rw [if_pos rfl]
theorem brOK_4 {br : Nat → Nat} {nb a b c d : Nat} (h : brOK nb br) (hn : nb < 4) (ha : a ≤ 7) (hb : b ≤ 7) (hab : b ≠ a) (hc : 1 ≤ c) (hc8 : c ≤ 8) (hd : d < c) : brOK (nb + 1) (br4 br nb a b c d) := by
  refine ⟨by omega, fun k hk => ?_⟩
  by_cases e : k = nb
  · subst e
    rw [br4_0, br4_1, br4_2, br4_3]
    exact ⟨ha, hb, hab, hc, hc8, hd⟩
  · have := h.2 k (by omega)
    rw [br4_lo (by omega), br4_lo (by omega), br4_lo (by omega), br4_lo (by omega)]
    exact this
theorem PP_ok (σ : Sg) : ∀ (n a : Nat) (cl : Nat → Nat) (nb : Nat) (br : Nat → Nat), (∀ p, cl p ≤ 1) → brOK nb br → (∀ p, (PP σ n a cl nb br).2.1 p ≤ 1) ∧ brOK (PP σ n a cl nb br).2.2.1 (PP σ n a cl nb br).2.2.2
  | 0, _, _, _, _, h1, h2 => ⟨h1, h2⟩
  | n + 1, a, cl, nb, br, h1, h2 => by
    unfold PP
    split
    · split
      · split
        · split
          · refine PP_ok σ n _ _ _ _ (fun p => ?_) h2
            unfold va_up
            split
            · exact Nat.le_refl _
            · exact h1 p
          · exact ⟨h1, h2⟩
        · split
          · rename_i h
            split
            · split
              · split
                · split
                  · rename_i g1 g2 g3 g4
                    exact PP_ok σ n _ _ _ _ h1 (brOK_4 h2 h.2 g1 g2.1 g2.2 g3.1 g3.2 g4)
                  · exact ⟨h1, h2⟩
                · exact ⟨h1, h2⟩
              · exact ⟨h1, h2⟩
            · exact ⟨h1, h2⟩
          · exact ⟨h1, h2⟩
      · exact ⟨h1, h2⟩
    · exact ⟨h1, h2⟩
theorem LP_ok (σ : Sg) : (∀ p, (LPr σ).2.1 p ≤ 1) ∧ brOK (LPr σ).2.2.1 (LPr σ).2.2.2 := by
  unfold LPr
  split
  · exact ⟨fun _ => Nat.zero_le _, Nat.zero_le _, fun k hk => absurd hk (Nat.not_lt_zero _)⟩
  · exact PP_ok σ 60 8 _ 0 _ (fun _ => Nat.zero_le _) ⟨Nat.zero_le _, fun k hk => absurd hk (Nat.not_lt_zero _)⟩
theorem Cl_le (σ : Sg) (p : Nat) : Cl σ p ≤ 1 := by
  unfold Cl
  split
  · exact (LP_ok σ).1 p
  · omega
theorem NB_ok (σ : Sg) : brOK (NB σ) (Br σ) := by
  unfold NB Br
  split
  · exact (LP_ok σ).2
  · exact ⟨Nat.zero_le _, fun k hk => absurd hk (Nat.not_lt_zero _)⟩
/-- the reference's land cells -/
def LL (σ : Sg) (ρ : Rho) : Prop := (∀ p, p < 8 → ρ.1 49 p = nI (Th σ p)) ∧ (∀ p, p < 8 → ρ.1 50 p = nI (Cl σ p)) ∧ ρ.1 47 4 = nI (NB σ) ∧ ∀ i, i < 4 * NB σ → ρ.1 51 i = nI (Br σ i)
/-- and its turns -/
def Laid (σ : Sg) (ρ : Rho) : Prop := LL σ ρ ∧ ∀ d, d < 100 → ρ.1 58 d = nI (Tn σ d)
theorem nIneg {n : Nat} (h : n < 2 ^ 31) : nI n ≠ -1 := by
  intro e
  have h1 := congrArg Int32.toInt e
  rw [nI_toInt h] at h1
  have h2 : (-1 : Int32).toInt = -1 := by decide
  rw [h2] at h1
  omega
/-- a figure as the reference reads it -/
theorem dg_in {σ : Sg} (hw : Wf σ) (k lo hi : Nat) (hl : lo ≤ 9) (hh : hi ≤ 9) : inR (bA σ k - nI 48) (nI lo) (nI hi) ↔ lo ≤ dg σ k ∧ dg σ k ≤ hi := by
  have ht := hw.text k
  have neg : ∀ x : Int32, x < 0 → ¬ inR x (nI lo) (nI hi) := fun x hx h => by
    have h1 : (0 : Int32) ≤ nI lo := nI_pos' (by omega)
    have h2 := h.1
    rw [Int32.le_iff_toInt_le] at h1 h2
    rw [Int32.lt_iff_toInt_lt] at hx
    omega
  unfold bA dg
  by_cases h1 : k < σ.1 47 0
  · by_cases h2 : 48 ≤ σ.1 48 k
    · rw [if_pos h1, if_pos ⟨h1, h2⟩, pk_sub h2]
      exact ⟨fun h => ⟨(nI_leI (by omega) (by omega)).mp h.1, (nI_leI (by omega) (by omega)).mp h.2⟩, fun h => ⟨(nI_leI (by omega) (by omega)).mpr h.1, (nI_leI (by omega) (by omega)).mpr h.2⟩⟩
    · rw [if_pos h1, if_neg (fun h => h2 h.2)]
      exact ⟨fun h => absurd h (neg _ (pk_sneg (by omega) (by omega))), fun h => by omega⟩
  · rw [if_neg h1, if_neg (fun h => h1 h.1)]
    exact ⟨fun h => absurd h (neg _ (by decide)), fun h => by omega⟩
theorem dg_val {σ : Sg} (hw : Wf σ) {k : Nat} (h : dg σ k ≤ 9) : bA σ k - nI 48 = nI (dg σ k) := by
  unfold dg at h ⊢
  unfold bA
  split at h
  · rename_i h1
    rw [if_pos h1.1, if_pos h1, pk_sub h1.2]
  · omega
end
section
section
variable {σ : Sg} {n a nb : Nat} {cl br : Nat → Nat}
theorem PP_end (h : ¬ a < σ.1 47 0) : PP σ n a cl nb br = (-1, cl, nb, br) := by
  cases n with
  | zero => rfl
  | succ n => unfold PP; rw [if_neg h]
theorem PP_semi (h : a < σ.1 47 0) (h1 : σ.1 48 a ≠ 59) : PP σ (n + 1) a cl nb br = (nI a, cl, nb, br) := by
  unfold PP; rw [if_pos h, if_neg h1]
theorem PP_x (h : a < σ.1 47 0) (h1 : σ.1 48 a = 59) (h2 : bA σ (a + 1) = nI 120) (h3 : dg σ (a + 2) ≤ 7) : PP σ (n + 1) a cl nb br = PP σ n (a + 3) (va_up cl (dg σ (a + 2)) 1) nb br := by
  rw [PP, if_pos h, if_pos h1, if_pos h2, if_pos h3]
theorem PP_xf (h : a < σ.1 47 0) (h1 : σ.1 48 a = 59) (h2 : bA σ (a + 1) = nI 120) (h3 : ¬ dg σ (a + 2) ≤ 7) : PP σ (n + 1) a cl nb br = (nI (a + 2), cl, nb, br) := by
  rw [PP, if_pos h, if_pos h1, if_pos h2, if_neg h3]
theorem PP_k (h : a < σ.1 47 0) (h1 : σ.1 48 a = 59) (h2 : bA σ (a + 1) ≠ nI 120) (h3 : ¬ (bA σ (a + 1) = nI 98 ∧ nb < 4)) : PP σ (n + 1) a cl nb br = (nI (a + 1), cl, nb, br) := by
  rw [PP, if_pos h, if_pos h1, if_neg h2, if_neg h3]
theorem PP_b0 (h : a < σ.1 47 0) (h1 : σ.1 48 a = 59) (h2 : bA σ (a + 1) ≠ nI 120) (h3 : bA σ (a + 1) = nI 98 ∧ nb < 4) (g0 : ¬ dg σ (a + 2) ≤ 7) : PP σ (n + 1) a cl nb br = (nI (a + 2), cl, nb, br) := by
  rw [PP, if_pos h, if_pos h1, if_neg h2, if_pos h3, if_neg g0]
theorem PP_b1 (h : a < σ.1 47 0) (h1 : σ.1 48 a = 59) (h2 : bA σ (a + 1) ≠ nI 120) (h3 : bA σ (a + 1) = nI 98 ∧ nb < 4) (g0 : dg σ (a + 2) ≤ 7) (g1 : ¬ (dg σ (a + 3) ≤ 7 ∧ dg σ (a + 3) ≠ dg σ (a + 2))) : PP σ (n + 1) a cl nb br = (nI (a + 3), cl, nb, br) := by
  rw [PP, if_pos h, if_pos h1, if_neg h2, if_pos h3, if_pos g0, if_neg g1]
theorem PP_b2 (h : a < σ.1 47 0) (h1 : σ.1 48 a = 59) (h2 : bA σ (a + 1) ≠ nI 120) (h3 : bA σ (a + 1) = nI 98 ∧ nb < 4) (g0 : dg σ (a + 2) ≤ 7) (g1 : dg σ (a + 3) ≤ 7 ∧ dg σ (a + 3) ≠ dg σ (a + 2)) (g2 : ¬ (1 ≤ dg σ (a + 4) ∧ dg σ (a + 4) ≤ 8)) : PP σ (n + 1) a cl nb br = (nI (a + 4), cl, nb, br) := by
  rw [PP, if_pos h, if_pos h1, if_neg h2, if_pos h3, if_pos g0, if_pos g1, if_neg g2]
theorem PP_b3 (h : a < σ.1 47 0) (h1 : σ.1 48 a = 59) (h2 : bA σ (a + 1) ≠ nI 120) (h3 : bA σ (a + 1) = nI 98 ∧ nb < 4) (g0 : dg σ (a + 2) ≤ 7) (g1 : dg σ (a + 3) ≤ 7 ∧ dg σ (a + 3) ≠ dg σ (a + 2)) (g2 : 1 ≤ dg σ (a + 4) ∧ dg σ (a + 4) ≤ 8) (g3 : ¬ dg σ (a + 5) < dg σ (a + 4)) : PP σ (n + 1) a cl nb br = (nI (a + 5), cl, nb, br) := by
  rw [PP, if_pos h, if_pos h1, if_neg h2, if_pos h3, if_pos g0, if_pos g1, if_pos g2, if_neg g3]
theorem PP_b (h : a < σ.1 47 0) (h1 : σ.1 48 a = 59) (h2 : bA σ (a + 1) ≠ nI 120) (h3 : bA σ (a + 1) = nI 98 ∧ nb < 4) (g0 : dg σ (a + 2) ≤ 7) (g1 : dg σ (a + 3) ≤ 7 ∧ dg σ (a + 3) ≠ dg σ (a + 2)) (g2 : 1 ≤ dg σ (a + 4) ∧ dg σ (a + 4) ≤ 8) (g3 : dg σ (a + 5) < dg σ (a + 4)) : PP σ (n + 1) a cl nb br = PP σ n (a + 6) cl (nb + 1) (br4 br nb (dg σ (a + 2)) (dg σ (a + 3)) (dg σ (a + 4)) (dg σ (a + 5))) := by
  rw [PP, if_pos h, if_pos h1, if_neg h2, if_pos h3, if_pos g0, if_pos g1, if_pos g2, if_pos g3]
theorem fsg_s {p : Nat} (h : p < 8) (hF : fsg σ (8 - p) p = fsg σ 8 0) (ht : tOf (bA σ p) ≠ -1) : fsg σ (8 - (p + 1)) (p + 1) = fsg σ 8 0 := by
  rw [← hF, show 8 - p = (8 - (p + 1)) + 1 by omega, fsg, if_neg ht]
theorem fsg_t {p : Nat} (h : p < 8) (hF : fsg σ (8 - p) p = fsg σ 8 0) (ht : tOf (bA σ p) = -1) : LPr σ = (nI p, (fun _ => 0), 0, (fun _ => 0)) := by
  have : fsg σ 8 0 = some p := by rw [← hF, show 8 - p = (8 - (p + 1)) + 1 by omega, fsg, if_pos ht]
  unfold LPr
  rw [this]
theorem fsg_e {p : Nat} (h : 8 ≤ p) (h2 : p ≤ 8) (hF : fsg σ (8 - p) p = fsg σ 8 0) : PP σ 60 8 (fun _ => 0) 0 (fun _ => 0) = LPr σ := by
  have : fsg σ 8 0 = none := by rw [← hF, show 8 - p = 0 by omega, fsg]
  unfold LPr
  rw [this]
end
theorem MInv.wk {σ : Sg} {ρ : Rho} (h : MInv σ ρ) {k i : Nat} {v : Int32} (hk : k ∉ mNs ∧ k ∉ mZs ∧ k ≠ 47) : MInv σ (wI ρ k i v) := h.w ⟨hk.1, hk.2.1, fun e => absurd e hk.2.2⟩
theorem bA_ne {σ : Sg} {k : Nat} (h : ¬ k < σ.1 47 0) : bA σ k = -1 := if_neg h
theorem bA_eq {σ : Sg} {k : Nat} (h : k < σ.1 47 0) : bA σ k = nI (σ.1 48 k) := if_pos h
theorem rI_c {ρ : Rho} {k i a b : Nat} {v x : Int32} (h : a ≠ k) (e : ρ.1 a b = x) : (wI ρ k i v).1 a b = x := (rI_ne (fun q => h q.1)).trans e
theorem keepA {ρ : Rho} {k i a n : Nat} {v : Int32} {f : Nat → Int32} (h : a ≠ k) (e : ∀ q, q < n → ρ.1 a q = f q) : ∀ q, q < n → (wI ρ k i v).1 a q = f q := fun q hq => rI_c h (e q hq)
theorem ext1 {ρ : Rho} {k p : Nat} {v : Int32} {f : Nat → Int32} (h : ∀ q, q < p → ρ.1 k q = f q) (hv : v = f p) : ∀ q, q < p + 1 → (wI ρ k p v).1 k q = f q := fun q hq => by
  by_cases e : q = p
  · subst e; rw [rI_eq]; exact hv
  · rw [rI_ne (fun z => e z.2)]; exact h q (by omega)
theorem upd1 {ρ : Rho} {k p n : Nat} {v : Int32} {f g : Nat → Int32} (h : ∀ q, q < n → ρ.1 k q = f q) (hv : v = g p) (hg : ∀ q, q ≠ p → g q = f q) : ∀ q, q < n → (wI ρ k p v).1 k q = g q := fun q hq => by
  by_cases e : q = p
  · subst e; rw [rI_eq]; exact hv
  · rw [rI_ne (fun z => e z.2), hg q e]; exact h q hq
theorem va_up_eq {α : Type} {f : Nat → α} {k : Nat} {v : α} : va_up f k v k = v := if_pos rfl
theorem br4_ext {ρ : Rho} {nb a b c d : Nat} {br : Nat → Nat} (h : ∀ i, i < 4 * nb → ρ.1 51 i = nI (br i)) : ∀ i, i < 4 * (nb + 1) → (wI (wI (wI (wI ρ 51 (4 * nb) (nI a)) 51 (4 * nb + 1) (nI b)) 51 (4 * nb + 2) (nI c)) 51 (4 * nb + 3) (nI d)).1 51 i = nI (br4 br nb a b c d i) := fun i hi => by
  rcases (show i < 4 * nb ∨ i = 4 * nb ∨ i = 4 * nb + 1 ∨ i = 4 * nb + 2 ∨ i = 4 * nb + 3 by omega) with e | rfl | rfl | rfl | rfl
  · rw [br4_lo e, rI_ne (by omega), rI_ne (by omega), rI_ne (by omega), rI_ne (by omega)]; exact h i e
  · rw [br4_0, rI_ne (by omega), rI_ne (by omega), rI_ne (by omega), rI_eq]
  · rw [br4_1, rI_ne (by omega), rI_ne (by omega), rI_eq]
  · rw [br4_2, rI_ne (by omega), rI_eq]
  · rw [br4_3, rI_eq]
theorem vup_ne {α : Type} {f : Nat → α} {k q : Nat} {v : α} (h : q ≠ k) : va_up f k v q = f q := if_neg h
theorem LL_ok {σ : Sg} {ρ : Rho} (h : (LPr σ).1 = -1) (hL : (∀ p, p < 8 → ρ.1 49 p = tOf (bA σ p)) ∧ (∀ p, p < 8 → ρ.1 50 p = nI ((LPr σ).2.1 p)) ∧ ρ.1 47 4 = nI (LPr σ).2.2.1 ∧ ∀ i, i < 4 * (LPr σ).2.2.1 → ρ.1 51 i = nI ((LPr σ).2.2.2 i)) : LL σ ρ := by
  have hs : ∀ p, p < 8 → tOf (bA σ p) ≠ -1 := by
    have key : ∀ (n a : Nat), fsg σ n a = none → ∀ p, a ≤ p → p < a + n → tOf (bA σ p) ≠ -1 := by
      intro n
      induction n with
      | zero => intro a _ p h1 h2; omega
      | succ n ih =>
        intro a hf p h1 h2
        unfold fsg at hf
        split at hf
        · cases hf
        · rename_i hne
          by_cases e : p = a
          · subst e; exact hne
          · exact ih (a + 1) hf p (by omega) (by omega)
    intro p hp
    refine key 8 0 ?_ p (Nat.zero_le _) (by omega)
    cases hf : fsg σ 8 0 with
    | none => rfl
    | some q =>
      exfalso
      have : LPr σ = (nI q, (fun _ => 0), 0, (fun _ => 0)) := by unfold LPr; rw [hf]
      rw [this] at h
      have hq : q < 8 := by
        have key2 : ∀ (n a q : Nat), fsg σ n a = some q → q < a + n := by
          intro n
          induction n with
          | zero => intro a q hf; cases hf
          | succ n ih =>
            intro a q hf
            unfold fsg at hf
            split at hf
            · cases hf; omega
            · have := ih (a + 1) q hf; omega
        have := key2 8 0 q hf
        omega
      exact nIneg (by omega) h
  have hF : Flt σ = -1 := h
  refine ⟨fun p hp => ?_, fun p hp => ?_, ?_, ?_⟩
  · rw [hL.1 p hp]
    unfold Th
    rw [if_pos hF]
    rcases tOf_in (bA σ p) with e | ⟨t, ht, e⟩
    · exact absurd e (hs p hp)
    · rw [e, nI_clamp (by omega)]
  · rw [hL.2.1 p hp]; unfold Cl; rw [if_pos hF]
  · rw [hL.2.2.1]; unfold NB; rw [if_pos hF]
  · intro i hi
    unfold NB at hi
    rw [if_pos hF] at hi
    exact hL.2.2.2 i hi
theorem LL_bad {σ : Sg} {ρ : Rho} (h : ¬ (LPr σ).1 = -1) (h1 : ∀ p, p < 8 → ρ.1 49 p = nI 0) (h2 : ∀ p, p < 8 → ρ.1 50 p = nI 0) (h3 : ρ.1 47 4 = nI 0) : LL σ ρ := by
  have hF : ¬ Flt σ = -1 := h
  refine ⟨fun p hp => ?_, fun p hp => ?_, ?_, ?_⟩
  · rw [h1 p hp]; unfold Th; rw [if_neg hF]
  · rw [h2 p hp]; unfold Cl; rw [if_neg hF]
  · rw [h3]; unfold NB; rw [if_neg hF]
  · intro i hi
    unfold NB at hi
    rw [if_neg hF] at hi
    omega
theorem LL.w {σ : Sg} {ρ : Rho} (h : LL σ ρ) {k i : Nat} {v : Int32} (hk : k ≠ 47 ∧ k ≠ 49 ∧ k ≠ 50 ∧ k ≠ 51) : LL σ (wI ρ k i v) :=
  ⟨fun p hp => rI_c hk.2.1.symm (h.1 p hp), fun p hp => rI_c hk.2.2.1.symm (h.2.1 p hp), rI_c hk.1.symm h.2.2.1, fun i hi => rI_c hk.2.2.2.symm (h.2.2.2 i hi)⟩
theorem LL.wl {σ : Sg} {ρ : Rho} (h : LL σ ρ) {k i : Nat} {v : Int64} : LL σ (wL ρ k i v) := h
theorem Laid.w {σ : Sg} {ρ : Rho} (h : Laid σ ρ) {k i : Nat} {v : Int32} (hk : k ≠ 47 ∧ k ≠ 49 ∧ k ≠ 50 ∧ k ≠ 51 ∧ k ≠ 58) : Laid σ (wI ρ k i v) :=
  ⟨h.1.w ⟨hk.1, hk.2.1, hk.2.2.1, hk.2.2.2.1⟩, fun d hd => rI_c hk.2.2.2.2.symm (h.2 d hd)⟩
theorem Laid.wl {σ : Sg} {ρ : Rho} (h : Laid σ ρ) {k i : Nat} {v : Int64} : Laid σ (wL ρ k i v) := h
theorem sumT_s (σ : Sg) (d k : Nat) : sumT σ d (k + 1) = sumT σ d k + (if cntG σ k ∧ σ.1 53 k ≤ d then incG σ k else 0) := rfl
theorem sumT_n {σ : Sg} {d k : Nat} (h : ¬ (cntG σ k ∧ σ.1 53 k ≤ d)) : sumT σ d (k + 1) = sumT σ d k := by rw [sumT_s, if_neg h]; rfl
theorem sumT_y {σ : Sg} {d k : Nat} (h : cntG σ k ∧ σ.1 53 k ≤ d) : sumT σ d (k + 1) = sumT σ d k + incG σ k := by rw [sumT_s, if_pos h]
end
section
set_option maxHeartbeats 4000000 in
theorem c_X8_thingOf (ρ : Rho) (b : Int32) : CallOK 0 mX8_thingOf [.int b] ρ (fun r ρ2 => r = some (.int (tOf b)) ∧ ρ2 = ρ) := by
  refine callOK_of 0 (by decide +kernel) rfl (fun _ => Nat.le_of_ble_eq_true rfl) (ls := [some (.int b)]) rfl ?_
  generalize hQ : (fun r ρ2 => r = some (.int (tOf b)) ∧ ρ2 = ρ : Option Value → Rho → Prop) = Q
  refine w_il dX8_thingOf_0 rfl ?_
  refine w_k dX8_thingOf_1 ?_
  refine w_icne dX8_thingOf_3 (fun h3 => ?_) (fun h3 => ?_)
  · --t
    refine w_il dX8_thingOf_10 rfl ?_
    refine w_k dX8_thingOf_11 ?_
    refine w_icne dX8_thingOf_13 (fun h13 => ?_) (fun h13 => ?_)
    · --t
      refine w_il dX8_thingOf_20 rfl ?_
      refine w_k dX8_thingOf_21 ?_
      refine w_icne dX8_thingOf_23 (fun h23 => ?_) (fun h23 => ?_)
      · --t
        refine w_il dX8_thingOf_30 rfl ?_
        refine w_k dX8_thingOf_31 ?_
        refine w_icne dX8_thingOf_33 (fun h33 => ?_) (fun h33 => ?_)
        · --t
          refine w_il dX8_thingOf_40 rfl ?_
          refine w_k dX8_thingOf_41 ?_
          refine w_icne dX8_thingOf_43 (fun h43 => ?_) (fun h43 => ?_)
          · --t
            refine w_k dX8_thingOf_50 ?_
            refine w_iret dX8_thingOf_51 rfl ?_
            rw [← hQ]
            exact ⟨congrArg (fun z => some (Value.int z)) (by unfold tOf; rw [if_neg h3, if_neg h13, if_neg h23, if_neg h33, if_neg h43]), rfl⟩
          · --f
            refine w_k dX8_thingOf_46 ?_
            refine w_goto dX8_thingOf_47 ?_
            refine w_iret dX8_thingOf_51 rfl ?_
            rw [← hQ]
            exact ⟨congrArg (fun z => some (Value.int z)) (by unfold tOf; rw [if_neg h3, if_neg h13, if_neg h23, if_neg h33, if_pos h43]), rfl⟩
        · --f
          refine w_k dX8_thingOf_36 ?_
          refine w_goto dX8_thingOf_37 ?_
          refine w_iret dX8_thingOf_51 rfl ?_
          rw [← hQ]
          exact ⟨congrArg (fun z => some (Value.int z)) (by unfold tOf; rw [if_neg h3, if_neg h13, if_neg h23, if_pos h33]), rfl⟩
      · --f
        refine w_k dX8_thingOf_26 ?_
        refine w_goto dX8_thingOf_27 ?_
        refine w_iret dX8_thingOf_51 rfl ?_
        rw [← hQ]
        exact ⟨congrArg (fun z => some (Value.int z)) (by unfold tOf; rw [if_neg h3, if_neg h13, if_pos h23]), rfl⟩
    · --f
      refine w_k dX8_thingOf_16 ?_
      refine w_goto dX8_thingOf_17 ?_
      refine w_iret dX8_thingOf_51 rfl ?_
      rw [← hQ]
      exact ⟨congrArg (fun z => some (Value.int z)) (by unfold tOf; rw [if_neg h3, if_pos h13]), rfl⟩
  · --f
    refine w_k dX8_thingOf_6 ?_
    refine w_goto dX8_thingOf_7 ?_
    refine w_iret dX8_thingOf_51 rfl ?_
    rw [← hQ]
    exact ⟨congrArg (fun z => some (Value.int z)) (by unfold tOf; rw [if_pos h3]), rfl⟩

set_option maxHeartbeats 4000000 in
theorem c_X8_byteAt (ρ : Rho) (σ : Sg) (k : Nat) (hM : MInv σ ρ) (hk : k < 1000) : CallOK 0 mX8_byteAt [.ref 47, .int (nI k)] ρ (fun r ρ2 => r = some (.int (bA σ k)) ∧ ρ2 = ρ) := by
  refine callOK_of 0 (by decide +kernel) rfl (fun _ => Nat.le_of_ble_eq_true rfl) (ls := [some (.ref 47), some (.int (nI k))]) rfl ?_
  generalize hQ : (fun r ρ2 => r = some (.int (bA σ k)) ∧ ρ2 = ρ : Option Value → Rho → Prop) = Q
  have w1 := hM.1.typed
  refine w_il dX8_byteAt_0 rfl ?_
  refine w_al dX8_byteAt_1 rfl ?_
  refine w_giV (v := (nI (σ.1 47 0))) dX8_byteAt_2 fl_X8_93 sh47 rfl (hM.2.2.2 0 (by decide)) ?_
  refine w_icgeN dX8_byteAt_5 (by omega) (by omega) (fun h5 => ?_) (fun h5 => ?_)
  · --t
    refine w_k dX8_byteAt_17 ?_
    refine w_iret dX8_byteAt_18 rfl ?_
    rw [← hQ]
    exact ⟨congrArg (fun z => some (Value.int z)) (bA_ne (by omega)).symm, rfl⟩
  · --f
    refine w_al dX8_byteAt_8 rfl ?_
    refine w_gr dX8_byteAt_9 fl_X8_7 sh47 rfl ?_
    refine w_il dX8_byteAt_12 rfl ?_
    refine w_ialdV (v := (nI (σ.1 48 k))) dX8_byteAt_13 sh48 (by omega) (hM.2.1 48 (by decide) _) ?_
    refine w_goto dX8_byteAt_14 ?_
    refine w_iret dX8_byteAt_18 rfl ?_
    rw [← hQ]
    exact ⟨congrArg (fun z => some (Value.int z)) (bA_eq h5).symm, rfl⟩

set_option maxHeartbeats 4000000 in
theorem c_X8_mayBe0 (ρ : Rho) (nb : Nat) (v : Int32) (hb : ρ.1 47 4 = nI nb) : CallOK 1 mX8_mayBe [.ref 47, .int (nI 0), .int v] ρ (fun r ρ2 => r = some (.int (b2i (inR v (nI 0) (nI 7)))) ∧ ρ2 = ρ) := by
  refine callOK_of 1 (by decide +kernel) rfl (fun _ => Nat.le_of_ble_eq_true rfl) (ls := [some (.ref 47), some (.int (nI 0)), some (.int v), none]) rfl ?_
  generalize hQ : (fun r ρ2 => r = some (.int (b2i (inR v (nI 0) (nI 7)))) ∧ ρ2 = ρ : Option Value → Rho → Prop) = Q
  refine w_k dX8_mayBe_0 ?_
  refine w_al dX8_mayBe_1 rfl ?_
  refine w_giV (v := (nI nb)) dX8_mayBe_2 fl_X8_97 sh47 rfl (hb) ?_
  refine w_imulN dX8_mayBe_5 ?_
  refine w_is (ls2 := [some (.ref 47), some (.int (nI 0)), some (.int v), some (.int (nI (4 * nb)))]) dX8_mayBe_6 rfl ?_
  refine w_il dX8_mayBe_7 rfl ?_
  refine w_ifneN dX8_mayBe_8 (by omega) (fun h8 => ?_) (fun h8 => ?_)
  · --t
    exact absurd rfl h8
  · --f
    refine w_il dX8_mayBe_11 rfl ?_
    refine w_k dX8_mayBe_12 ?_
    refine w_k dX8_mayBe_13 ?_
    refine w_cSf dX8_mayBe_15 (sl_X8_89 _ rfl) (by decide) (c_X8_in ρ v (nI 0) (nI 7)) rfl rfl (Nat.le_of_ble_eq_true rfl) ?_
    refine w_goto dX8_mayBe_18 ?_
    refine w_zret dX8_mayBe_84 rfl (b2i_nar _) ?_
    rw [← hQ]
    exact ⟨rfl, rfl⟩

set_option maxHeartbeats 4000000 in
theorem c_X8_mayBe1 (ρ : Rho) (nb f0 : Nat) (v : Int32) (hb : ρ.1 47 4 = nI nb) (hn : nb < 4) (h0 : ρ.1 51 (4 * nb) = nI f0) : CallOK 1 mX8_mayBe [.ref 47, .int (nI 1), .int v] ρ (fun r ρ2 => r = some (.int (b2i (inR v (nI 0) (nI 7) ∧ v ≠ nI f0))) ∧ ρ2 = ρ) := by
  refine callOK_of 1 (by decide +kernel) rfl (fun _ => Nat.le_of_ble_eq_true rfl) (ls := [some (.ref 47), some (.int (nI 1)), some (.int v), none]) rfl ?_
  generalize hQ : (fun r ρ2 => r = some (.int (b2i (inR v (nI 0) (nI 7) ∧ v ≠ nI f0))) ∧ ρ2 = ρ : Option Value → Rho → Prop) = Q
  refine w_k dX8_mayBe_0 ?_
  refine w_al dX8_mayBe_1 rfl ?_
  refine w_giV (v := (nI nb)) dX8_mayBe_2 fl_X8_97 sh47 rfl (hb) ?_
  refine w_imulN dX8_mayBe_5 ?_
  refine w_is (ls2 := [some (.ref 47), some (.int (nI 1)), some (.int v), some (.int (nI (4 * nb)))]) dX8_mayBe_6 rfl ?_
  refine w_il dX8_mayBe_7 rfl ?_
  refine w_ifneN dX8_mayBe_8 (by omega) (fun h8 => ?_) (fun h8 => ?_)
  · --t
    refine w_il dX8_mayBe_21 rfl ?_
    refine w_k dX8_mayBe_22 ?_
    refine w_icneN dX8_mayBe_23 (by omega) (by omega) (fun h23 => ?_) (fun h23 => ?_)
    · --t
      exact absurd rfl h23
    · --f
      refine w_il dX8_mayBe_26 rfl ?_
      refine w_k dX8_mayBe_27 ?_
      refine w_k dX8_mayBe_28 ?_
      refine w_cSf dX8_mayBe_30 (sl_X8_89 _ rfl) (by decide) (c_X8_in ρ v (nI 0) (nI 7)) rfl rfl (Nat.le_of_ble_eq_true rfl) ?_
      refine w_ifeqB dX8_mayBe_33 (fun h33 => ?_) (fun h33 => ?_)
      · --t
        refine w_k dX8_mayBe_50 ?_
        refine w_goto dX8_mayBe_51 ?_
        refine w_zret dX8_mayBe_84 rfl rfl ?_
        rw [← hQ]
        exact ⟨congrArg (fun z => some (Value.int z)) (b2i_f (fun q => h33 q.1)).symm, rfl⟩
      · --f
        refine w_il dX8_mayBe_36 rfl ?_
        refine w_al dX8_mayBe_37 rfl ?_
        refine w_gr dX8_mayBe_38 fl_X8_19 sh47 rfl ?_
        refine w_il dX8_mayBe_41 rfl ?_
        refine w_ialdV (v := (nI f0)) dX8_mayBe_42 sh51 (by omega) (h0) ?_
        refine w_iceq dX8_mayBe_43 (fun h43 => ?_) (fun h43 => ?_)
        · --t
          refine w_k dX8_mayBe_50 ?_
          refine w_goto dX8_mayBe_51 ?_
          refine w_zret dX8_mayBe_84 rfl rfl ?_
          rw [← hQ]
          exact ⟨congrArg (fun z => some (Value.int z)) (b2i_f (fun q => q.2 h43)).symm, rfl⟩
        · --f
          refine w_k dX8_mayBe_46 ?_
          refine w_goto dX8_mayBe_47 ?_
          refine w_zret dX8_mayBe_84 rfl rfl ?_
          rw [← hQ]
          exact ⟨congrArg (fun z => some (Value.int z)) (b2i_t ⟨h33, h43⟩).symm, rfl⟩
  · --f
    exact absurd h8 (by decide)

set_option maxHeartbeats 4000000 in
theorem c_X8_mayBe2 (ρ : Rho) (nb : Nat) (v : Int32) (hb : ρ.1 47 4 = nI nb) : CallOK 1 mX8_mayBe [.ref 47, .int (nI 2), .int v] ρ (fun r ρ2 => r = some (.int (b2i (inR v (nI 1) (nI 8)))) ∧ ρ2 = ρ) := by
  refine callOK_of 1 (by decide +kernel) rfl (fun _ => Nat.le_of_ble_eq_true rfl) (ls := [some (.ref 47), some (.int (nI 2)), some (.int v), none]) rfl ?_
  generalize hQ : (fun r ρ2 => r = some (.int (b2i (inR v (nI 1) (nI 8)))) ∧ ρ2 = ρ : Option Value → Rho → Prop) = Q
  refine w_k dX8_mayBe_0 ?_
  refine w_al dX8_mayBe_1 rfl ?_
  refine w_giV (v := (nI nb)) dX8_mayBe_2 fl_X8_97 sh47 rfl (hb) ?_
  refine w_imulN dX8_mayBe_5 ?_
  refine w_is (ls2 := [some (.ref 47), some (.int (nI 2)), some (.int v), some (.int (nI (4 * nb)))]) dX8_mayBe_6 rfl ?_
  refine w_il dX8_mayBe_7 rfl ?_
  refine w_ifneN dX8_mayBe_8 (by omega) (fun h8 => ?_) (fun h8 => ?_)
  · --t
    refine w_il dX8_mayBe_21 rfl ?_
    refine w_k dX8_mayBe_22 ?_
    refine w_icneN dX8_mayBe_23 (by omega) (by omega) (fun h23 => ?_) (fun h23 => ?_)
    · --t
      refine w_il dX8_mayBe_54 rfl ?_
      refine w_k dX8_mayBe_55 ?_
      refine w_icneN dX8_mayBe_56 (by omega) (by omega) (fun h56 => ?_) (fun h56 => ?_)
      · --t
        exact absurd rfl h56
      · --f
        refine w_il dX8_mayBe_59 rfl ?_
        refine w_k dX8_mayBe_60 ?_
        refine w_k dX8_mayBe_61 ?_
        refine w_cSf dX8_mayBe_63 (sl_X8_89 _ rfl) (by decide) (c_X8_in ρ v (nI 1) (nI 8)) rfl rfl (Nat.le_of_ble_eq_true rfl) ?_
        refine w_goto dX8_mayBe_66 ?_
        refine w_zret dX8_mayBe_84 rfl (b2i_nar _) ?_
        rw [← hQ]
        exact ⟨rfl, rfl⟩
    · --f
      exact absurd h23 (by decide)
  · --f
    exact absurd h8 (by decide)

set_option maxHeartbeats 4000000 in
theorem c_X8_mayBe3 (ρ : Rho) (nb f2 : Nat) (v : Int32) (hb : ρ.1 47 4 = nI nb) (hn : nb < 4) (h2 : ρ.1 51 (4 * nb + 2) = nI f2) (hf : 1 ≤ f2) : CallOK 1 mX8_mayBe [.ref 47, .int (nI 3), .int v] ρ (fun r ρ2 => r = some (.int (b2i (inR v (nI 0) (nI (f2 - 1))))) ∧ ρ2 = ρ) := by
  refine callOK_of 1 (by decide +kernel) rfl (fun _ => Nat.le_of_ble_eq_true rfl) (ls := [some (.ref 47), some (.int (nI 3)), some (.int v), none]) rfl ?_
  generalize hQ : (fun r ρ2 => r = some (.int (b2i (inR v (nI 0) (nI (f2 - 1))))) ∧ ρ2 = ρ : Option Value → Rho → Prop) = Q
  refine w_k dX8_mayBe_0 ?_
  refine w_al dX8_mayBe_1 rfl ?_
  refine w_giV (v := (nI nb)) dX8_mayBe_2 fl_X8_97 sh47 rfl (hb) ?_
  refine w_imulN dX8_mayBe_5 ?_
  refine w_is (ls2 := [some (.ref 47), some (.int (nI 3)), some (.int v), some (.int (nI (4 * nb)))]) dX8_mayBe_6 rfl ?_
  refine w_il dX8_mayBe_7 rfl ?_
  refine w_ifneN dX8_mayBe_8 (by omega) (fun h8 => ?_) (fun h8 => ?_)
  · --t
    refine w_il dX8_mayBe_21 rfl ?_
    refine w_k dX8_mayBe_22 ?_
    refine w_icneN dX8_mayBe_23 (by omega) (by omega) (fun h23 => ?_) (fun h23 => ?_)
    · --t
      refine w_il dX8_mayBe_54 rfl ?_
      refine w_k dX8_mayBe_55 ?_
      refine w_icneN dX8_mayBe_56 (by omega) (by omega) (fun h56 => ?_) (fun h56 => ?_)
      · --t
        refine w_il dX8_mayBe_69 rfl ?_
        refine w_k dX8_mayBe_70 ?_
        refine w_al dX8_mayBe_71 rfl ?_
        refine w_gr dX8_mayBe_72 fl_X8_19 sh47 rfl ?_
        refine w_il dX8_mayBe_75 rfl ?_
        refine w_k dX8_mayBe_76 ?_
        refine w_iaddN dX8_mayBe_77 ?_
        refine w_ialdV (v := (nI f2)) dX8_mayBe_78 sh51 (by omega) (h2) ?_
        refine w_k dX8_mayBe_79 ?_
        refine w_isubN dX8_mayBe_80 (by omega) ?_
        refine w_cSf dX8_mayBe_81 (sl_X8_89 _ rfl) (by decide) (c_X8_in ρ v (nI 0) (nI (f2 - 1))) rfl rfl (Nat.le_of_ble_eq_true rfl) ?_
        refine w_zret dX8_mayBe_84 rfl (b2i_nar _) ?_
        rw [← hQ]
        exact ⟨rfl, rfl⟩
      · --f
        exact absurd h56 (by decide)
    · --f
      exact absurd h23 (by decide)
  · --f
    exact absurd h8 (by decide)

set_option maxHeartbeats 4000000 in
theorem c_X8_reads (ρ : Rho) (σ : Sg) (hM : MInv σ ρ) : CallOK 2 mX8_reads [.ref 47] ρ (fun r ρ2 => ∃ v, r = some v ∧ (v = .int (LPr σ).1 ∧ MInv σ ρ2 ∧ EqC ρ ρ2 ∧ ((LPr σ).1 = -1 → (∀ p, p < 8 → ρ2.1 49 p = tOf (bA σ p)) ∧ (∀ p, p < 8 → ρ2.1 50 p = nI ((LPr σ).2.1 p)) ∧ ρ2.1 47 4 = nI (LPr σ).2.2.1 ∧ ∀ i, i < 4 * (LPr σ).2.2.1 → ρ2.1 51 i = nI ((LPr σ).2.2.2 i)))) := by
  refine callOK_of 3 (by decide +kernel) rfl (fun _ => Nat.le_of_ble_eq_true rfl) (ls := [some (.ref 47), none, none, none]) rfl ?_
  generalize hQ : (fun r ρ2 => ∃ v, r = some v ∧ (v = .int (LPr σ).1 ∧ MInv σ ρ2 ∧ EqC ρ ρ2 ∧ ((LPr σ).1 = -1 → (∀ p, p < 8 → ρ2.1 49 p = tOf (bA σ p)) ∧ (∀ p, p < 8 → ρ2.1 50 p = nI ((LPr σ).2.1 p)) ∧ ρ2.1 47 4 = nI (LPr σ).2.2.1 ∧ ∀ i, i < 4 * (LPr σ).2.2.1 → ρ2.1 51 i = nI ((LPr σ).2.2.2 i))) : Option Value → Rho → Prop) = Q
  have w1 := hM.1.typed
  refine w_al dX8_reads_0 rfl ?_
  refine w_k dX8_reads_1 ?_
  refine w_pi dX8_reads_2 fp_X8_97 sh47 rfl rfl rfl ?_
  refine w_k dX8_reads_5 ?_
  refine w_is (ls2 := [some (.ref 47), some (.int (nI 0)), none, none]) dX8_reads_6 rfl ?_
  have L7 : ∀ (n7 : Nat) (p : Nat) (ρ1 : Rho), (p ≤ 8) → (MInv σ ρ1) → (EqC ρ ρ1) → (ρ1.1 47 4 = nI 0) → (∀ q, q < p → ρ1.1 50 q = nI 0) → (8 - p) < n7 → MW mX8_reads 2 7 [some (.ref 47), some (.int (nI p)), none, none] [] ρ1 Q := by
    intro n7
    induction n7 with
    | zero =>
      intro p ρ1 hp1 hM1 hE1 hb1 hc1 hm7
      exact absurd hm7 (Nat.not_lt_zero _)
    | succ n7 ih7 =>
      intro p ρ1 hp1 hM1 hE1 hb1 hc1 hm7
      refine w_il dX8_reads_7 rfl ?_
      refine w_k dX8_reads_8 ?_
      refine w_icgeN dX8_reads_10 (by omega) (by omega) (fun h10 => ?_) (fun h10 => ?_)
      · --t
        refine w_k dX8_reads_26 ?_
        refine w_is (ls2 := [some (.ref 47), some (.int (nI 0)), none, none]) dX8_reads_27 rfl ?_
        have L28 : ∀ (n28 : Nat) (p : Nat) (ρ2 : Rho), (p ≤ 8) → (MInv σ ρ2) → (EqC ρ ρ2) → (ρ2.1 47 4 = nI 0) → (∀ q, q < 8 → ρ2.1 50 q = nI 0) → (∀ q, q < p → ρ2.1 49 q = tOf (bA σ q)) → (fsg σ (8 - p) p = fsg σ 8 0) → (8 - p) < n28 → MW mX8_reads 2 28 [some (.ref 47), some (.int (nI p)), none, none] [] ρ2 Q := by
          intro n28
          induction n28 with
          | zero =>
            intro p ρ2 hp2 hM2 hE2 hb2 hc2 ht2 hF2 hm28
            exact absurd hm28 (Nat.not_lt_zero _)
          | succ n28 ih28 =>
            intro p ρ2 hp2 hM2 hE2 hb2 hc2 ht2 hF2 hm28
            refine w_il dX8_reads_28 rfl ?_
            refine w_k dX8_reads_29 ?_
            refine w_icgeN dX8_reads_31 (by omega) (by omega) (fun h31 => ?_) (fun h31 => ?_)
            · --t
              refine w_k dX8_reads_66 ?_
              refine w_is (ls2 := [some (.ref 47), some (.int (nI 8)), none, none]) dX8_reads_68 rfl ?_
              have L69 : ∀ (n69 : Nat) (n : Nat) (a : Nat) (nb : Nat) (cl : Nat → Nat) (br : Nat → Nat) (ρ3 : Rho), (PP σ n a cl nb br = LPr σ) → (σ.1 47 0 ≤ a + n) → (a ≤ 66) → (MInv σ ρ3) → (EqC ρ ρ3) → (ρ3.1 47 4 = nI nb) → (brOK nb br) → (∀ q, q < 8 → ρ3.1 50 q = nI (cl q)) → (∀ q, q < 8 → ρ3.1 49 q = tOf (bA σ q)) → (∀ i, i < 4 * nb → ρ3.1 51 i = nI (br i)) → (σ.1 47 0 - a) < n69 → MW mX8_reads 2 69 [some (.ref 47), some (.int (nI a)), none, none] [] ρ3 Q := by
                intro n69
                induction n69 with
                | zero =>
                  intro n a nb cl br ρ3 hP3 hn3 ha3 hM3 hE3 hb3 hk3 hc3 ht3 hr3 hm69
                  exact absurd hm69 (Nat.not_lt_zero _)
                | succ n69 ih69 =>
                  intro n a nb cl br ρ3 hP3 hn3 ha3 hM3 hE3 hb3 hk3 hc3 ht3 hr3 hm69
                  have hn4 := hk3.1
                  refine w_il dX8_reads_69 rfl ?_
                  refine w_al dX8_reads_70 rfl ?_
                  refine w_giV (v := (nI (σ.1 47 0))) dX8_reads_71 fl_X8_93 sh47 rfl (hM3.2.2.2 0 (by decide)) ?_
                  refine w_icgeN dX8_reads_74 (by omega) (by omega) (fun h74 => ?_) (fun h74 => ?_)
                  · --t
                    refine w_k dX8_reads_226 ?_
                    refine w_iret dX8_reads_227 rfl ?_
                    rw [← hQ]
                    have e : LPr σ = (-1, cl, nb, br) := by rw [← hP3]; exact PP_end (by omega)
                    exact ⟨_, rfl, by rw [e], hM3, hE3, fun _ => by rw [e]; exact ⟨ht3, hc3, hb3, hr3⟩⟩
                  · --f
                    have wt := hM3.1.text a
                    obtain ⟨m3, rfl⟩ : ∃ m, n = m + 1 := ⟨n - 1, by omega⟩
                    refine w_al dX8_reads_77 rfl ?_
                    refine w_gr dX8_reads_78 fl_X8_7 sh47 rfl ?_
                    refine w_il dX8_reads_81 rfl ?_
                    refine w_ialdV (v := (nI (σ.1 48 a))) dX8_reads_82 sh48 (by omega) (hM3.2.1 48 (by decide) _) ?_
                    refine w_k dX8_reads_83 ?_
                    refine w_iceqN dX8_reads_85 (by omega) (by omega) (fun h85 => ?_) (fun h85 => ?_)
                    · --t
                      refine w_iincN (ls2 := [some (.ref 47), some (.int (nI (a + 1))), none, none]) dX8_reads_90 rfl rfl ?_
                      refine w_al dX8_reads_93 rfl ?_
                      refine w_il dX8_reads_94 rfl ?_
                      refine w_cVf dX8_reads_95 (vl_X8_100 _ rfl) sh47 (by decide) (c_X8_byteAt ρ3 σ (a + 1) hM3 (by omega)) rfl rfl (Nat.le_of_ble_eq_true rfl) ?_
                      refine w_k dX8_reads_98 ?_
                      refine w_icne dX8_reads_100 (fun h100 => ?_) (fun h100 => ?_)
                      · --t
                        refine w_al dX8_reads_140 rfl ?_
                        refine w_il dX8_reads_141 rfl ?_
                        refine w_cVf dX8_reads_142 (vl_X8_100 _ rfl) sh47 (by decide) (c_X8_byteAt ρ3 σ (a + 1) hM3 (by omega)) rfl rfl (Nat.le_of_ble_eq_true rfl) ?_
                        refine w_k dX8_reads_145 ?_
                        refine w_icne dX8_reads_147 (fun h147 => ?_) (fun h147 => ?_)
                        · --t
                          refine w_il dX8_reads_224 rfl ?_
                          refine w_iret dX8_reads_225 rfl ?_
                          rw [← hQ]
                          have e : LPr σ = ((nI (a + 1)), cl, nb, br) := by rw [← hP3]; exact PP_k (by omega) h85 h100 (fun q => h147 q.1)
                          exact ⟨_, rfl, by rw [e], hM3, hE3, fun h => absurd (by rw [e] at h; exact h) (nIneg (by omega))⟩
                        · --f
                          refine w_al dX8_reads_150 rfl ?_
                          refine w_giV (v := (nI nb)) dX8_reads_151 fl_X8_97 sh47 rfl (hb3) ?_
                          refine w_k dX8_reads_154 ?_
                          refine w_icgeN dX8_reads_155 (by omega) (by omega) (fun h155 => ?_) (fun h155 => ?_)
                          · --t
                            refine w_il dX8_reads_224 rfl ?_
                            refine w_iret dX8_reads_225 rfl ?_
                            rw [← hQ]
                            have e : LPr σ = ((nI (a + 1)), cl, nb, br) := by rw [← hP3]; exact PP_k (by omega) h85 h100 (fun q => absurd q.2 (by omega))
                            exact ⟨_, rfl, by rw [e], hM3, hE3, fun h => absurd (by rw [e] at h; exact h) (nIneg (by omega))⟩
                          · --f
                            refine w_iincN (ls2 := [some (.ref 47), some (.int (nI (a + 2))), none, none]) dX8_reads_158 rfl rfl ?_
                            refine w_k dX8_reads_161 ?_
                            refine w_is (ls2 := [some (.ref 47), some (.int (nI (a + 2))), some (.int (nI 0)), none]) dX8_reads_162 rfl ?_
                            refine w_il dX8_reads_163 rfl ?_
                            refine w_k dX8_reads_164 ?_
                            refine w_icgeN dX8_reads_165 (by omega) (by omega) (fun h165 => ?_) (fun h165 => ?_)
                            · --t
                              exact absurd h165 (by decide)
                            · --f
                              refine w_al dX8_reads_168 rfl ?_
                              refine w_il dX8_reads_169 rfl ?_
                              refine w_cVf dX8_reads_170 (vl_X8_100 _ rfl) sh47 (by decide) (c_X8_byteAt ρ3 σ (a + 2) hM3 (by omega)) rfl rfl (Nat.le_of_ble_eq_true rfl) ?_
                              refine w_k dX8_reads_173 ?_
                              refine w_isub dX8_reads_175 ?_
                              refine w_is (ls2 := [some (.ref 47), some (.int (nI (a + 2))), some (.int (nI 0)), some (.int ((bA σ (a + 2)) - (nI 48)))]) dX8_reads_176 rfl ?_
                              refine w_al dX8_reads_177 rfl ?_
                              refine w_il dX8_reads_178 rfl ?_
                              refine w_il dX8_reads_179 rfl ?_
                              refine w_cVf dX8_reads_180 (vl_X8_107 _ rfl) sh47 (by decide) (c_X8_mayBe0 ρ3 nb ((bA σ (a + 2)) - (nI 48)) hb3) rfl rfl (Nat.le_of_ble_eq_true rfl) ?_
                              refine w_ifneB dX8_reads_183 (fun h183 => ?_) (fun h183 => ?_)
                              · --t
                                have g0 := ((dg_in hM3.1 (a + 2) 0 7 (by omega) (by omega)).mp h183).2
                                rw [dg_val hM3.1 (k := a + 2) (by omega)]
                                refine w_al dX8_reads_188 rfl ?_
                                refine w_gr dX8_reads_189 fl_X8_19 sh47 rfl ?_
                                refine w_k dX8_reads_192 ?_
                                refine w_al dX8_reads_193 rfl ?_
                                refine w_giV (v := (nI nb)) dX8_reads_194 fl_X8_97 sh47 rfl (hb3) ?_
                                refine w_imulN dX8_reads_197 ?_
                                refine w_il dX8_reads_198 rfl ?_
                                refine w_iaddN dX8_reads_199 ?_
                                refine w_il dX8_reads_200 rfl ?_
                                refine w_iastN dX8_reads_201 sh51 (by omega) ?_
                                refine w_iincN (ls2 := [some (.ref 47), some (.int (nI (a + 3))), some (.int (nI 0)), some (.int (nI (dg σ (a + 2))))]) dX8_reads_202 rfl rfl ?_
                                refine w_iincN (ls2 := [some (.ref 47), some (.int (nI (a + 3))), some (.int (nI 1)), some (.int (nI (dg σ (a + 2))))]) dX8_reads_205 rfl rfl ?_
                                refine w_goto dX8_reads_208 ?_
                                refine w_il dX8_reads_163 rfl ?_
                                refine w_k dX8_reads_164 ?_
                                refine w_icgeN dX8_reads_165 (by omega) (by omega) (fun h165 => ?_) (fun h165 => ?_)
                                · --t
                                  exact absurd h165 (by decide)
                                · --f
                                  refine w_al dX8_reads_168 rfl ?_
                                  refine w_il dX8_reads_169 rfl ?_
                                  refine w_cVf dX8_reads_170 (vl_X8_100 _ rfl) sh47 (by decide) (c_X8_byteAt (wI ρ3 51 (4 * nb) (nI (dg σ (a + 2)))) σ (a + 3) (MInv.wk hM3 (by decide)) (by omega)) rfl rfl (Nat.le_of_ble_eq_true rfl) ?_
                                  refine w_k dX8_reads_173 ?_
                                  refine w_isub dX8_reads_175 ?_
                                  refine w_is (ls2 := [some (.ref 47), some (.int (nI (a + 3))), some (.int (nI 1)), some (.int ((bA σ (a + 3)) - (nI 48)))]) dX8_reads_176 rfl ?_
                                  refine w_al dX8_reads_177 rfl ?_
                                  refine w_il dX8_reads_178 rfl ?_
                                  refine w_il dX8_reads_179 rfl ?_
                                  refine w_cVf dX8_reads_180 (vl_X8_107 _ rfl) sh47 (by decide) (c_X8_mayBe1 (wI ρ3 51 (4 * nb) (nI (dg σ (a + 2)))) nb (dg σ (a + 2)) ((bA σ (a + 3)) - (nI 48)) (rI_c (by decide) hb3) (by omega) rI_eq) rfl rfl (Nat.le_of_ble_eq_true rfl) ?_
                                  refine w_ifneB dX8_reads_183 (fun h183 => ?_) (fun h183 => ?_)
                                  · --t
                                    have g1a := ((dg_in hM3.1 (a + 3) 0 7 (by omega) (by omega)).mp h183.1).2
                                    have g1 : dg σ (a + 3) ≤ 7 ∧ dg σ (a + 3) ≠ dg σ (a + 2) := ⟨g1a, fun e => h183.2 (by rw [dg_val hM3.1 (by omega), e])⟩
                                    rw [dg_val hM3.1 (k := a + 3) (by omega)]
                                    refine w_al dX8_reads_188 rfl ?_
                                    refine w_gr dX8_reads_189 fl_X8_19 sh47 rfl ?_
                                    refine w_k dX8_reads_192 ?_
                                    refine w_al dX8_reads_193 rfl ?_
                                    refine w_giV (v := (nI nb)) dX8_reads_194 fl_X8_97 sh47 rfl ((rI_c (by decide) hb3)) ?_
                                    refine w_imulN dX8_reads_197 ?_
                                    refine w_il dX8_reads_198 rfl ?_
                                    refine w_iaddN dX8_reads_199 ?_
                                    refine w_il dX8_reads_200 rfl ?_
                                    refine w_iastN dX8_reads_201 sh51 (by omega) ?_
                                    refine w_iincN (ls2 := [some (.ref 47), some (.int (nI (a + 4))), some (.int (nI 1)), some (.int (nI (dg σ (a + 3))))]) dX8_reads_202 rfl rfl ?_
                                    refine w_iincN (ls2 := [some (.ref 47), some (.int (nI (a + 4))), some (.int (nI 2)), some (.int (nI (dg σ (a + 3))))]) dX8_reads_205 rfl rfl ?_
                                    refine w_goto dX8_reads_208 ?_
                                    refine w_il dX8_reads_163 rfl ?_
                                    refine w_k dX8_reads_164 ?_
                                    refine w_icgeN dX8_reads_165 (by omega) (by omega) (fun h165 => ?_) (fun h165 => ?_)
                                    · --t
                                      exact absurd h165 (by decide)
                                    · --f
                                      refine w_al dX8_reads_168 rfl ?_
                                      refine w_il dX8_reads_169 rfl ?_
                                      refine w_cVf dX8_reads_170 (vl_X8_100 _ rfl) sh47 (by decide) (c_X8_byteAt (wI (wI ρ3 51 (4 * nb) (nI (dg σ (a + 2)))) 51 (4 * nb + 1) (nI (dg σ (a + 3)))) σ (a + 4) (MInv.wk (MInv.wk hM3 (by decide)) (by decide)) (by omega)) rfl rfl (Nat.le_of_ble_eq_true rfl) ?_
                                      refine w_k dX8_reads_173 ?_
                                      refine w_isub dX8_reads_175 ?_
                                      refine w_is (ls2 := [some (.ref 47), some (.int (nI (a + 4))), some (.int (nI 2)), some (.int ((bA σ (a + 4)) - (nI 48)))]) dX8_reads_176 rfl ?_
                                      refine w_al dX8_reads_177 rfl ?_
                                      refine w_il dX8_reads_178 rfl ?_
                                      refine w_il dX8_reads_179 rfl ?_
                                      refine w_cVf dX8_reads_180 (vl_X8_107 _ rfl) sh47 (by decide) (c_X8_mayBe2 (wI (wI ρ3 51 (4 * nb) (nI (dg σ (a + 2)))) 51 (4 * nb + 1) (nI (dg σ (a + 3)))) nb ((bA σ (a + 4)) - (nI 48)) (rI_c (by decide) (rI_c (by decide) hb3))) rfl rfl (Nat.le_of_ble_eq_true rfl) ?_
                                      refine w_ifneB dX8_reads_183 (fun h183 => ?_) (fun h183 => ?_)
                                      · --t
                                        have g2 := (dg_in hM3.1 (a + 4) 1 8 (by omega) (by omega)).mp h183
                                        rw [dg_val hM3.1 (k := a + 4) (by omega)]
                                        refine w_al dX8_reads_188 rfl ?_
                                        refine w_gr dX8_reads_189 fl_X8_19 sh47 rfl ?_
                                        refine w_k dX8_reads_192 ?_
                                        refine w_al dX8_reads_193 rfl ?_
                                        refine w_giV (v := (nI nb)) dX8_reads_194 fl_X8_97 sh47 rfl ((rI_c (by decide) (rI_c (by decide) hb3))) ?_
                                        refine w_imulN dX8_reads_197 ?_
                                        refine w_il dX8_reads_198 rfl ?_
                                        refine w_iaddN dX8_reads_199 ?_
                                        refine w_il dX8_reads_200 rfl ?_
                                        refine w_iastN dX8_reads_201 sh51 (by omega) ?_
                                        refine w_iincN (ls2 := [some (.ref 47), some (.int (nI (a + 5))), some (.int (nI 2)), some (.int (nI (dg σ (a + 4))))]) dX8_reads_202 rfl rfl ?_
                                        refine w_iincN (ls2 := [some (.ref 47), some (.int (nI (a + 5))), some (.int (nI 3)), some (.int (nI (dg σ (a + 4))))]) dX8_reads_205 rfl rfl ?_
                                        refine w_goto dX8_reads_208 ?_
                                        refine w_il dX8_reads_163 rfl ?_
                                        refine w_k dX8_reads_164 ?_
                                        refine w_icgeN dX8_reads_165 (by omega) (by omega) (fun h165 => ?_) (fun h165 => ?_)
                                        · --t
                                          exact absurd h165 (by decide)
                                        · --f
                                          refine w_al dX8_reads_168 rfl ?_
                                          refine w_il dX8_reads_169 rfl ?_
                                          refine w_cVf dX8_reads_170 (vl_X8_100 _ rfl) sh47 (by decide) (c_X8_byteAt (wI (wI (wI ρ3 51 (4 * nb) (nI (dg σ (a + 2)))) 51 (4 * nb + 1) (nI (dg σ (a + 3)))) 51 (4 * nb + 2) (nI (dg σ (a + 4)))) σ (a + 5) (MInv.wk (MInv.wk (MInv.wk hM3 (by decide)) (by decide)) (by decide)) (by omega)) rfl rfl (Nat.le_of_ble_eq_true rfl) ?_
                                          refine w_k dX8_reads_173 ?_
                                          refine w_isub dX8_reads_175 ?_
                                          refine w_is (ls2 := [some (.ref 47), some (.int (nI (a + 5))), some (.int (nI 3)), some (.int ((bA σ (a + 5)) - (nI 48)))]) dX8_reads_176 rfl ?_
                                          refine w_al dX8_reads_177 rfl ?_
                                          refine w_il dX8_reads_178 rfl ?_
                                          refine w_il dX8_reads_179 rfl ?_
                                          refine w_cVf dX8_reads_180 (vl_X8_107 _ rfl) sh47 (by decide) (c_X8_mayBe3 (wI (wI (wI ρ3 51 (4 * nb) (nI (dg σ (a + 2)))) 51 (4 * nb + 1) (nI (dg σ (a + 3)))) 51 (4 * nb + 2) (nI (dg σ (a + 4)))) nb (dg σ (a + 4)) ((bA σ (a + 5)) - (nI 48)) (rI_c (by decide) (rI_c (by decide) (rI_c (by decide) hb3))) (by omega) rI_eq g2.1) rfl rfl (Nat.le_of_ble_eq_true rfl) ?_
                                          refine w_ifneB dX8_reads_183 (fun h183 => ?_) (fun h183 => ?_)
                                          · --t
                                            have g3a := ((dg_in hM3.1 (a + 5) 0 (dg σ (a + 4) - 1) (by omega) (by omega)).mp h183).2
                                            have g3 : dg σ (a + 5) < dg σ (a + 4) := by omega
                                            rw [dg_val hM3.1 (k := a + 5) (by omega)]
                                            refine w_al dX8_reads_188 rfl ?_
                                            refine w_gr dX8_reads_189 fl_X8_19 sh47 rfl ?_
                                            refine w_k dX8_reads_192 ?_
                                            refine w_al dX8_reads_193 rfl ?_
                                            refine w_giV (v := (nI nb)) dX8_reads_194 fl_X8_97 sh47 rfl ((rI_c (by decide) (rI_c (by decide) (rI_c (by decide) hb3)))) ?_
                                            refine w_imulN dX8_reads_197 ?_
                                            refine w_il dX8_reads_198 rfl ?_
                                            refine w_iaddN dX8_reads_199 ?_
                                            refine w_il dX8_reads_200 rfl ?_
                                            refine w_iastN dX8_reads_201 sh51 (by omega) ?_
                                            refine w_iincN (ls2 := [some (.ref 47), some (.int (nI (a + 6))), some (.int (nI 3)), some (.int (nI (dg σ (a + 5))))]) dX8_reads_202 rfl rfl ?_
                                            refine w_iincN (ls2 := [some (.ref 47), some (.int (nI (a + 6))), some (.int (nI 4)), some (.int (nI (dg σ (a + 5))))]) dX8_reads_205 rfl rfl ?_
                                            refine w_goto dX8_reads_208 ?_
                                            refine w_il dX8_reads_163 rfl ?_
                                            refine w_k dX8_reads_164 ?_
                                            refine w_icgeN dX8_reads_165 (by omega) (by omega) (fun h165 => ?_) (fun h165 => ?_)
                                            · --t
                                              refine w_al dX8_reads_211 rfl ?_
                                              refine w_dup dX8_reads_212 rfl ?_
                                              refine w_giV (v := (nI nb)) dX8_reads_213 fl_X8_97 sh47 rfl ((rI_c (by decide) (rI_c (by decide) (rI_c (by decide) (rI_c (by decide) hb3))))) ?_
                                              refine w_k dX8_reads_216 ?_
                                              refine w_iaddN dX8_reads_217 ?_
                                              refine w_pi dX8_reads_218 fp_X8_97 sh47 rfl rfl rfl ?_
                                              refine w_goto dX8_reads_221 ?_
                                              refine w_weak (ls2 := [some (.ref 47), some (.int (nI (a + 6))), none, none]) ⟨rfl, ⟨rfl, trivial⟩⟩ ?_
                                              exact ih69 m3 (a + 6) (nb + 1) cl (br4 br nb (dg σ (a + 2)) (dg σ (a + 3)) (dg σ (a + 4)) (dg σ (a + 5))) (wI (wI (wI (wI (wI ρ3 51 (4 * nb) (nI (dg σ (a + 2)))) 51 (4 * nb + 1) (nI (dg σ (a + 3)))) 51 (4 * nb + 2) (nI (dg σ (a + 4)))) 51 (4 * nb + 3) (nI (dg σ (a + 5)))) 47 4 (nI (nb + 1))) (by rw [← hP3]; exact (PP_b (by omega) h85 h100 ⟨h147, by omega⟩ g0 g1 g2 g3).symm) (by omega) (by omega) ((MInv.w (MInv.wk (MInv.wk (MInv.wk (MInv.wk hM3 (by decide)) (by decide)) (by decide)) (by decide)) (by decide))) ((EqC.w (EqC.w (EqC.w (EqC.w (EqC.w hE3 (by decide)) (by decide)) (by decide)) (by decide)) (by decide))) (rI_eq) (brOK_4 hk3 (by omega) g0 g1.1 g1.2 g2.1 g2.2 g3) (keepA (f := fun q => nI (cl q)) (by decide) (keepA (f := fun q => nI (cl q)) (by decide) (keepA (f := fun q => nI (cl q)) (by decide) (keepA (f := fun q => nI (cl q)) (by decide) (keepA (f := fun q => nI (cl q)) (by decide) hc3))))) (keepA (f := fun q => tOf (bA σ q)) (by decide) (keepA (f := fun q => tOf (bA σ q)) (by decide) (keepA (f := fun q => tOf (bA σ q)) (by decide) (keepA (f := fun q => tOf (bA σ q)) (by decide) (keepA (f := fun q => tOf (bA σ q)) (by decide) ht3))))) (fun i hi => rI_c (by decide) (br4_ext hr3 i hi)) (by omega)
                                            · --f
                                              exact absurd h165 (by decide)
                                          · --f
                                            refine w_il dX8_reads_186 rfl ?_
                                            refine w_iret dX8_reads_187 rfl ?_
                                            rw [← hQ]
                                            have e : LPr σ = ((nI (a + 5)), cl, nb, br) := by rw [← hP3]; exact PP_b3 (by omega) h85 h100 ⟨h147, by omega⟩ g0 g1 g2 (fun q => h183 ((dg_in hM3.1 (a + 5) 0 (dg σ (a + 4) - 1) (by omega) (by omega)).mpr ⟨Nat.zero_le _, by omega⟩))
                                            exact ⟨_, rfl, by rw [e], (MInv.wk (MInv.wk (MInv.wk hM3 (by decide)) (by decide)) (by decide)), (EqC.w (EqC.w (EqC.w hE3 (by decide)) (by decide)) (by decide)), fun h => absurd (by rw [e] at h; exact h) (nIneg (by omega))⟩
                                      · --f
                                        refine w_il dX8_reads_186 rfl ?_
                                        refine w_iret dX8_reads_187 rfl ?_
                                        rw [← hQ]
                                        have e : LPr σ = ((nI (a + 4)), cl, nb, br) := by rw [← hP3]; exact PP_b2 (by omega) h85 h100 ⟨h147, by omega⟩ g0 g1 (fun q => h183 ((dg_in hM3.1 (a + 4) 1 8 (by omega) (by omega)).mpr q))
                                        exact ⟨_, rfl, by rw [e], (MInv.wk (MInv.wk hM3 (by decide)) (by decide)), (EqC.w (EqC.w hE3 (by decide)) (by decide)), fun h => absurd (by rw [e] at h; exact h) (nIneg (by omega))⟩
                                  · --f
                                    refine w_il dX8_reads_186 rfl ?_
                                    refine w_iret dX8_reads_187 rfl ?_
                                    rw [← hQ]
                                    have e : LPr σ = ((nI (a + 3)), cl, nb, br) := by rw [← hP3]; exact PP_b1 (by omega) h85 h100 ⟨h147, by omega⟩ g0 (fun q => h183 ⟨(dg_in hM3.1 (a + 3) 0 7 (by omega) (by omega)).mpr ⟨Nat.zero_le _, q.1⟩, fun e => q.2 (by rw [dg_val hM3.1 (by omega)] at e; exact (nI_eq (by omega) (by omega)).mp e)⟩)
                                    exact ⟨_, rfl, by rw [e], (MInv.wk hM3 (by decide)), (EqC.w hE3 (by decide)), fun h => absurd (by rw [e] at h; exact h) (nIneg (by omega))⟩
                              · --f
                                refine w_il dX8_reads_186 rfl ?_
                                refine w_iret dX8_reads_187 rfl ?_
                                rw [← hQ]
                                have e : LPr σ = ((nI (a + 2)), cl, nb, br) := by rw [← hP3]; exact PP_b0 (by omega) h85 h100 ⟨h147, by omega⟩ (fun q => h183 ((dg_in hM3.1 (a + 2) 0 7 (by omega) (by omega)).mpr ⟨Nat.zero_le _, q⟩))
                                exact ⟨_, rfl, by rw [e], hM3, hE3, fun h => absurd (by rw [e] at h; exact h) (nIneg (by omega))⟩
                      · --f
                        refine w_iincN (ls2 := [some (.ref 47), some (.int (nI (a + 2))), none, none]) dX8_reads_103 rfl rfl ?_
                        refine w_al dX8_reads_106 rfl ?_
                        refine w_il dX8_reads_107 rfl ?_
                        refine w_cVf dX8_reads_108 (vl_X8_100 _ rfl) sh47 (by decide) (c_X8_byteAt ρ3 σ (a + 2) hM3 (by omega)) rfl rfl (Nat.le_of_ble_eq_true rfl) ?_
                        refine w_k dX8_reads_111 ?_
                        refine w_isub dX8_reads_113 ?_
                        refine w_is (ls2 := [some (.ref 47), some (.int (nI (a + 2))), some (.int ((bA σ (a + 2)) - (nI 48))), none]) dX8_reads_114 rfl ?_
                        refine w_il dX8_reads_115 rfl ?_
                        refine w_k dX8_reads_116 ?_
                        refine w_k dX8_reads_117 ?_
                        refine w_cSf dX8_reads_119 (sl_X8_89 _ rfl) (by decide) (c_X8_in ρ3 ((bA σ (a + 2)) - (nI 48)) (nI 0) (nI 7)) rfl rfl (Nat.le_of_ble_eq_true rfl) ?_
                        refine w_ifneB dX8_reads_122 (fun h122 => ?_) (fun h122 => ?_)
                        · --t
                          have g2 := ((dg_in hM3.1 (a + 2) 0 7 (by omega) (by omega)).mp h122).2
                          rw [dg_val hM3.1 (k := a + 2) (by omega)]
                          refine w_al dX8_reads_127 rfl ?_
                          refine w_gr dX8_reads_128 fl_X8_16 sh47 rfl ?_
                          refine w_il dX8_reads_131 rfl ?_
                          refine w_k dX8_reads_132 ?_
                          refine w_iastN dX8_reads_133 sh50 (by omega) ?_
                          refine w_iincN (ls2 := [some (.ref 47), some (.int (nI (a + 3))), some (.int (nI (dg σ (a + 2)))), none]) dX8_reads_134 rfl rfl ?_
                          refine w_goto dX8_reads_137 ?_
                          refine w_weak (ls2 := [some (.ref 47), some (.int (nI (a + 3))), none, none]) ⟨rfl, ⟨rfl, trivial⟩⟩ ?_
                          exact ih69 m3 (a + 3) nb (va_up cl (dg σ (a + 2)) 1) br (wI ρ3 50 (dg σ (a + 2)) (nI 1)) (by rw [← hP3]; exact (PP_x (by omega) h85 h100 g2).symm) (by omega) (by omega) ((MInv.wk hM3 (by decide))) ((EqC.w hE3 (by decide))) ((rI_c (by decide) hb3)) (hk3) (upd1 (f := fun q => nI (cl q)) (g := fun q => nI (va_up cl (dg σ (a + 2)) 1 q)) hc3 (by rw [va_up_eq]) (fun q hq => by rw [vup_ne hq])) (keepA (f := fun q => tOf (bA σ q)) (by decide) ht3) (keepA (f := fun q => nI (br q)) (by decide) hr3) (by omega)
                        · --f
                          refine w_il dX8_reads_125 rfl ?_
                          refine w_iret dX8_reads_126 rfl ?_
                          rw [← hQ]
                          have e : LPr σ = ((nI (a + 2)), cl, nb, br) := by rw [← hP3]; exact PP_xf (by omega) h85 h100 (fun q => h122 ((dg_in hM3.1 (a + 2) 0 7 (by omega) (by omega)).mpr ⟨Nat.zero_le _, q⟩))
                          exact ⟨_, rfl, by rw [e], hM3, hE3, fun h => absurd (by rw [e] at h; exact h) (nIneg (by omega))⟩
                    · --f
                      refine w_il dX8_reads_88 rfl ?_
                      refine w_iret dX8_reads_89 rfl ?_
                      rw [← hQ]
                      have e : LPr σ = ((nI a), cl, nb, br) := by rw [← hP3]; exact PP_semi (by omega) h85
                      exact ⟨_, rfl, by rw [e], hM3, hE3, fun h => absurd (by rw [e] at h; exact h) (nIneg (by omega))⟩
              exact L69 _ 60 8 0 (fun _ => 0) (fun _ => 0) ρ2 (fsg_e (by omega) (by omega) hF2) (by omega) (by omega) (hM2) (hE2) (hb2) (⟨Nat.zero_le _, fun k hk => absurd hk (Nat.not_lt_zero _)⟩) (hc2) (fun q hq => ht2 q (by omega)) (fun i hi => absurd hi (Nat.not_lt_zero _)) (Nat.lt_succ_self _)
            · --f
              refine w_al dX8_reads_34 rfl ?_
              refine w_gr dX8_reads_35 fl_X8_13 sh47 rfl ?_
              refine w_il dX8_reads_38 rfl ?_
              refine w_al dX8_reads_39 rfl ?_
              refine w_il dX8_reads_40 rfl ?_
              refine w_cVf dX8_reads_41 (vl_X8_100 _ rfl) sh47 (by decide) (c_X8_byteAt ρ2 σ p hM2 (by omega)) rfl rfl (Nat.le_of_ble_eq_true rfl) ?_
              refine w_cSf dX8_reads_44 (sl_X8_104 _ rfl) (by decide) (c_X8_thingOf ρ2 (bA σ p)) rfl rfl (Nat.le_of_ble_eq_true rfl) ?_
              refine w_iastN dX8_reads_47 sh49 (by omega) ?_
              refine w_al dX8_reads_48 rfl ?_
              refine w_gr dX8_reads_49 fl_X8_13 sh47 rfl ?_
              refine w_il dX8_reads_52 rfl ?_
              refine w_ialdV (v := (tOf (bA σ p))) dX8_reads_53 sh49 (by omega) (rI_eq) ?_
              refine w_k dX8_reads_54 ?_
              refine w_icne dX8_reads_55 (fun h55 => ?_) (fun h55 => ?_)
              · --t
                refine w_iincN (ls2 := [some (.ref 47), some (.int (nI (p + 1))), none, none]) dX8_reads_60 rfl rfl ?_
                refine w_goto dX8_reads_63 ?_
                exact ih28 (p + 1) (wI ρ2 49 p (tOf (bA σ p))) (by omega) ((MInv.wk hM2 (by decide))) ((EqC.w hE2 (by decide))) ((rI_c (by decide) hb2)) (keepA (f := fun _ => nI 0) (by decide) hc2) (ext1 (f := fun q => tOf (bA σ q)) ht2 rfl) (fsg_s (by omega) hF2 h55) (by omega)
              · --f
                refine w_il dX8_reads_58 rfl ?_
                refine w_iret dX8_reads_59 rfl ?_
                rw [← hQ]
                have e := fsg_t (by omega) hF2 h55
                exact ⟨_, rfl, by rw [e], (MInv.wk hM2 (by decide)), (EqC.w hE2 (by decide)), fun h => absurd (by rw [e] at h; exact h) (nIneg (by omega))⟩
        exact L28 _ 0 ρ1 (by omega) (hM1) (hE1) (hb1) (fun q hq => hc1 q (by omega)) (fun q hq => absurd hq (Nat.not_lt_zero _)) (rfl) (Nat.lt_succ_self _)
      · --f
        refine w_al dX8_reads_13 rfl ?_
        refine w_gr dX8_reads_14 fl_X8_16 sh47 rfl ?_
        refine w_il dX8_reads_17 rfl ?_
        refine w_k dX8_reads_18 ?_
        refine w_iastN dX8_reads_19 sh50 (by omega) ?_
        refine w_iincN (ls2 := [some (.ref 47), some (.int (nI (p + 1))), none, none]) dX8_reads_20 rfl rfl ?_
        refine w_goto dX8_reads_23 ?_
        exact ih7 (p + 1) (wI ρ1 50 p (nI 0)) (by omega) ((MInv.wk hM1 (by decide))) ((EqC.w hE1 (by decide))) ((rI_c (by decide) hb1)) (ext1 (f := fun _ => nI 0) hc1 rfl) (by omega)
  exact L7 _ 0 (wI ρ 47 4 (nI 0)) (by omega) ((MInv.w hM (by decide))) ((EqC.w EqC.rf (by decide))) (rI_eq) (fun q hq => absurd hq (Nat.not_lt_zero _)) (Nat.lt_succ_self _)

set_option maxHeartbeats 4000000 in
theorem c_X8_faultNow (ρ : Rho) (σ : Sg) (hM : MInv σ ρ) : CallOK 3 mX8_faultNow [.ref 47] ρ (fun r ρ2 => ∃ v, r = some v ∧ (v = .int (Flt σ) ∧ MInv σ ρ2 ∧ EqC ρ ρ2 ∧ LL σ ρ2)) := by
  refine callOK_of 2 (by decide +kernel) rfl (fun _ => Nat.le_of_ble_eq_true rfl) (ls := [some (.ref 47), none, none]) rfl ?_
  generalize hQ : (fun r ρ2 => ∃ v, r = some v ∧ (v = .int (Flt σ) ∧ MInv σ ρ2 ∧ EqC ρ ρ2 ∧ LL σ ρ2) : Option Value → Rho → Prop) = Q
  refine w_al dX8_faultNow_0 rfl ?_
  refine w_cVr dX8_faultNow_1 (vl_X8_111 _ rfl) sh47 (by decide) (c_X8_reads ρ σ hM) rfl rfl (Nat.le_of_ble_eq_true rfl) (fun vr1 ρr1 hr1 => ?_)
  obtain ⟨rfl, hMr1, hEr1, hLr1⟩ := hr1
  refine w_is (ls2 := [some (.ref 47), some (.int ((LPr σ).1)), none]) dX8_faultNow_4 rfl ?_
  refine w_il dX8_faultNow_5 rfl ?_
  refine w_k dX8_faultNow_6 ?_
  refine w_iceq dX8_faultNow_7 (fun h7 => ?_) (fun h7 => ?_)
  · --t
    refine w_il dX8_faultNow_43 rfl ?_
    refine w_iret dX8_faultNow_44 rfl ?_
    rw [← hQ]
    exact ⟨_, rfl, rfl, hMr1, (EqC.tr EqC.rf hEr1), LL_ok h7 (hLr1 h7)⟩
  · --f
    refine w_al dX8_faultNow_10 rfl ?_
    refine w_k dX8_faultNow_11 ?_
    refine w_pi dX8_faultNow_12 fp_X8_97 sh47 rfl rfl rfl ?_
    refine w_k dX8_faultNow_15 ?_
    refine w_is (ls2 := [some (.ref 47), some (.int ((LPr σ).1)), some (.int (nI 0))]) dX8_faultNow_16 rfl ?_
    have L17 : ∀ (n17 : Nat) (p : Nat) (ρ2 : Rho), (p ≤ 8) → (MInv σ ρ2) → (EqC ρ ρ2) → (ρ2.1 47 4 = nI 0) → (∀ q, q < p → ρ2.1 49 q = nI 0 ∧ ρ2.1 50 q = nI 0) → (8 - p) < n17 → MW mX8_faultNow 3 17 [some (.ref 47), some (.int ((LPr σ).1)), some (.int (nI p))] [] ρ2 Q := by
      intro n17
      induction n17 with
      | zero =>
        intro p ρ2 hp2 hM2 hE2 hb2 hz2 hm17
        exact absurd hm17 (Nat.not_lt_zero _)
      | succ n17 ih17 =>
        intro p ρ2 hp2 hM2 hE2 hb2 hz2 hm17
        refine w_il dX8_faultNow_17 rfl ?_
        refine w_k dX8_faultNow_18 ?_
        refine w_icgeN dX8_faultNow_20 (by omega) (by omega) (fun h20 => ?_) (fun h20 => ?_)
        · --t
          refine w_il dX8_faultNow_43 rfl ?_
          refine w_iret dX8_faultNow_44 rfl ?_
          rw [← hQ]
          exact ⟨_, rfl, rfl, hM2, hE2, LL_bad h7 (fun q hq => (hz2 q (by omega)).1) (fun q hq => (hz2 q (by omega)).2) hb2⟩
        · --f
          refine w_al dX8_faultNow_23 rfl ?_
          refine w_gr dX8_faultNow_24 fl_X8_13 sh47 rfl ?_
          refine w_il dX8_faultNow_27 rfl ?_
          refine w_k dX8_faultNow_28 ?_
          refine w_iastN dX8_faultNow_29 sh49 (by omega) ?_
          refine w_al dX8_faultNow_30 rfl ?_
          refine w_gr dX8_faultNow_31 fl_X8_16 sh47 rfl ?_
          refine w_il dX8_faultNow_34 rfl ?_
          refine w_k dX8_faultNow_35 ?_
          refine w_iastN dX8_faultNow_36 sh50 (by omega) ?_
          refine w_iincN (ls2 := [some (.ref 47), some (.int ((LPr σ).1)), some (.int (nI (p + 1)))]) dX8_faultNow_37 rfl rfl ?_
          refine w_goto dX8_faultNow_40 ?_
          exact ih17 (p + 1) (wI (wI ρ2 49 p (nI 0)) 50 p (nI 0)) (by omega) ((MInv.wk (MInv.wk hM2 (by decide)) (by decide))) ((EqC.w (EqC.w hE2 (by decide)) (by decide))) ((rI_c (by decide) (rI_c (by decide) hb2))) (fun q hq => ⟨keepA (f := fun _ => nI 0) (by decide) (ext1 (f := fun _ => nI 0) (fun q hq => (hz2 q hq).1) rfl) q hq, ext1 (f := fun _ => nI 0) (fun q hq => rI_c (by decide) (hz2 q hq).2) rfl q hq⟩) (by omega)
    exact L17 _ 0 (wI ρr1 47 4 (nI 0)) (by omega) ((MInv.w hMr1 (by decide))) ((EqC.w (EqC.tr EqC.rf hEr1) (by decide))) (rI_eq) (fun q hq => absurd hq (Nat.not_lt_zero _)) (Nat.lt_succ_self _)

set_option maxHeartbeats 4000000 in
theorem c_X8_doesCount (ρ : Rho) (σ : Sg) (k : Nat) (hM : MInv σ ρ) (hk : k < 60) : CallOK 0 mX8_doesCount [.ref 47, .int (nI k)] ρ (fun r ρ2 => r = some (.int (b2i (cntG σ k))) ∧ ρ2 = ρ) := by
  refine callOK_of 0 (by decide +kernel) rfl (fun _ => Nat.le_of_ble_eq_true rfl) (ls := [some (.ref 47), some (.int (nI k))]) rfl ?_
  generalize hQ : (fun r ρ2 => r = some (.int (b2i (cntG σ k))) ∧ ρ2 = ρ : Option Value → Rho → Prop) = Q
  have w1 := hM.1.told k
  have w2 := hM.1.asof
  refine w_al dX8_doesCount_0 rfl ?_
  refine w_gr dX8_doesCount_1 fl_X8_31 sh47 rfl ?_
  refine w_il dX8_doesCount_4 rfl ?_
  refine w_ialdV (v := (nI (σ.1 55 k))) dX8_doesCount_5 sh55 (by omega) (hM.2.1 55 (by decide) _) ?_
  refine w_al dX8_doesCount_6 rfl ?_
  refine w_gr dX8_doesCount_7 fl_X8_37 sh47 rfl ?_
  refine w_k dX8_doesCount_10 ?_
  refine w_ialdV (v := (nI (σ.1 57 0))) dX8_doesCount_11 sh57 (by omega) (hM.2.1 57 (by decide) _) ?_
  refine w_icgtN dX8_doesCount_12 (by omega) (by omega) (fun h12 => ?_) (fun h12 => ?_)
  · --t
    refine w_k dX8_doesCount_44 ?_
    refine w_zret dX8_doesCount_45 rfl rfl ?_
    rw [← hQ]
    exact ⟨congrArg (fun z => some (Value.int z)) (b2i_f (fun q => absurd q.1 (by omega))).symm, rfl⟩
  · --f
    refine w_al dX8_doesCount_15 rfl ?_
    refine w_gr dX8_doesCount_16 fl_X8_34 sh47 rfl ?_
    refine w_il dX8_doesCount_19 rfl ?_
    refine w_ialdV (v := (σ.2 56 k)) dX8_doesCount_20 sh56 (by omega) (hM.2.2.1 56 (by decide) _) ?_
    refine w_k dX8_doesCount_21 ?_
    refine w_iceq dX8_doesCount_22 (fun h22 => ?_) (fun h22 => ?_)
    · --t
      refine w_k dX8_doesCount_40 ?_
      refine w_goto dX8_doesCount_41 ?_
      refine w_zret dX8_doesCount_45 rfl rfl ?_
      rw [← hQ]
      exact ⟨congrArg (fun z => some (Value.int z)) (b2i_t ⟨h12, Or.inl h22⟩).symm, rfl⟩
    · --f
      refine w_al dX8_doesCount_25 rfl ?_
      refine w_gr dX8_doesCount_26 fl_X8_34 sh47 rfl ?_
      refine w_il dX8_doesCount_29 rfl ?_
      refine w_ialdV (v := (σ.2 56 k)) dX8_doesCount_30 sh56 (by omega) (hM.2.2.1 56 (by decide) _) ?_
      refine w_al dX8_doesCount_31 rfl ?_
      refine w_gr dX8_doesCount_32 fl_X8_37 sh47 rfl ?_
      refine w_k dX8_doesCount_35 ?_
      refine w_ialdV (v := (nI (σ.1 57 0))) dX8_doesCount_36 sh57 (by omega) (hM.2.1 57 (by decide) _) ?_
      refine w_icle dX8_doesCount_37 (fun h37 => ?_) (fun h37 => ?_)
      · --t
        refine w_k dX8_doesCount_44 ?_
        refine w_zret dX8_doesCount_45 rfl rfl ?_
        rw [← hQ]
        exact ⟨congrArg (fun z => some (Value.int z)) (b2i_f (fun q => q.2.elim h22 (fun z => absurd h37 (Int32.not_le.mpr z)))).symm, rfl⟩
      · --f
        refine w_k dX8_doesCount_40 ?_
        refine w_goto dX8_doesCount_41 ?_
        refine w_zret dX8_doesCount_45 rfl rfl ?_
        rw [← hQ]
        exact ⟨congrArg (fun z => some (Value.int z)) (b2i_t ⟨h12, Or.inr (Int32.not_le.mp h37)⟩).symm, rfl⟩

set_option maxHeartbeats 4000000 in
theorem c_X8_lays (ρ : Rho) (σ : Sg) (hM : MInv σ ρ) : CallOK 4 mX8_lays [.ref 47] ρ (fun r ρ2 => r = none ∧ (MInv σ ρ2 ∧ EqC ρ ρ2 ∧ Laid σ ρ2)) := by
  refine callOK_of 3 (by decide +kernel) rfl (fun _ => Nat.le_of_ble_eq_true rfl) (ls := [some (.ref 47), none, none, none]) rfl ?_
  generalize hQ : (fun r ρ2 => r = none ∧ (MInv σ ρ2 ∧ EqC ρ ρ2 ∧ Laid σ ρ2) : Option Value → Rho → Prop) = Q
  have w1 := hM.1.gales
  have w2 := hM.1.begin
  have w3 := hM.1.wing
  refine w_al dX8_lays_0 rfl ?_
  refine w_cVr dX8_lays_1 (vl_X8_115 _ rfl) sh47 (by decide) (c_X8_faultNow ρ σ hM) rfl rfl (Nat.le_of_ble_eq_true rfl) (fun vf1 ρf1 hf1 => ?_)
  obtain ⟨rfl, hMf1, hEf1, hLf1⟩ := hf1
  refine w_is (ls2 := [some (.ref 47), some (.int (Flt σ)), none, none]) dX8_lays_4 rfl ?_
  refine w_k dX8_lays_5 ?_
  refine w_is (ls2 := [some (.ref 47), some (.int (Flt σ)), some (.int (nI 0)), none]) dX8_lays_6 rfl ?_
  have L7 : ∀ (n7 : Nat) (p : Nat) (ρ1 : Rho), (p ≤ 100) → (MInv σ ρ1) → (EqC ρ ρ1) → (LL σ ρ1) → (∀ q, q < p → ρ1.1 58 q = nI (σ.1 57 2)) → (100 - p) < n7 → MW mX8_lays 4 7 [some (.ref 47), none, some (.int (nI p)), none] [] ρ1 Q := by
    intro n7
    induction n7 with
    | zero =>
      intro p ρ1 hp1 hM1 hE1 hL1 ht1 hm7
      exact absurd hm7 (Nat.not_lt_zero _)
    | succ n7 ih7 =>
      intro p ρ1 hp1 hM1 hE1 hL1 ht1 hm7
      refine w_il dX8_lays_7 rfl ?_
      refine w_k dX8_lays_8 ?_
      refine w_icgeN dX8_lays_10 (by omega) (by omega) (fun h10 => ?_) (fun h10 => ?_)
      · --t
        refine w_k dX8_lays_31 ?_
        refine w_is (ls2 := [some (.ref 47), none, some (.int (nI 0)), none]) dX8_lays_32 rfl ?_
        have L33 : ∀ (n33 : Nat) (k : Nat) (ρ2 : Rho), (k ≤ σ.1 47 7) → (MInv σ ρ2) → (EqC ρ ρ2) → (LL σ ρ2) → (∀ q, q < 100 → ρ2.1 58 q = nI ((σ.1 57 2 + sumT σ q k) % 8)) → (σ.1 47 7 - k) < n33 → MW mX8_lays 4 33 [some (.ref 47), none, some (.int (nI k)), none] [] ρ2 Q := by
          intro n33
          induction n33 with
          | zero =>
            intro k ρ2 hk2 hM2 hE2 hL2 ht2 hm33
            exact absurd hm33 (Nat.not_lt_zero _)
          | succ n33 ih33 =>
            intro k ρ2 hk2 hM2 hE2 hL2 ht2 hm33
            have wd := hM.1.day k
            have wf := hM.1.frm k
            refine w_il dX8_lays_33 rfl ?_
            refine w_al dX8_lays_34 rfl ?_
            refine w_giV (v := (nI (σ.1 47 7))) dX8_lays_35 fl_X8_129 sh47 rfl (hM2.2.2.2 7 (by decide)) ?_
            refine w_icgeN dX8_lays_38 (by omega) (by omega) (fun h38 => ?_) (fun h38 => ?_)
            · --t
              refine w_ret dX8_lays_109 rfl ?_
              rw [← hQ]
              exact ⟨rfl, hM2, hE2, hL2, fun q hq => by rw [ht2 q hq, show k = σ.1 47 7 by omega]; rfl⟩
            · --f
              refine w_al dX8_lays_41 rfl ?_
              refine w_gr dX8_lays_42 fl_X8_25 sh47 rfl ?_
              refine w_il dX8_lays_45 rfl ?_
              refine w_ialdV (v := (nI (σ.1 53 k))) dX8_lays_46 sh53 (by omega) (hM2.2.1 53 (by decide) _) ?_
              refine w_is (ls2 := [some (.ref 47), none, some (.int (nI k)), some (.int (nI (σ.1 53 k)))]) dX8_lays_47 rfl ?_
              have L48 : ∀ (n48 : Nat) (d : Nat) (ρ3 : Rho), (d ≤ 100) → (σ.1 53 k ≤ d) → (MInv σ ρ3) → (EqC ρ ρ3) → (LL σ ρ3) → (∀ q, q < 100 → ρ3.1 58 q = nI ((σ.1 57 2 + sumT σ q (if q < d then k + 1 else k)) % 8)) → (100 - d) < n48 → MW mX8_lays 4 48 [some (.ref 47), none, some (.int (nI k)), some (.int (nI d))] [] ρ3 Q := by
                intro n48
                induction n48 with
                | zero =>
                  intro d ρ3 hd3 hdd hM3 hE3 hL3 ht3 hm48
                  exact absurd hm48 (Nat.not_lt_zero _)
                | succ n48 ih48 =>
                  intro d ρ3 hd3 hdd hM3 hE3 hL3 ht3 hm48
                  refine w_il dX8_lays_48 rfl ?_
                  refine w_k dX8_lays_49 ?_
                  refine w_icgeN dX8_lays_51 (by omega) (by omega) (fun h51 => ?_) (fun h51 => ?_)
                  · --t
                    refine w_iincN (ls2 := [some (.ref 47), none, some (.int (nI (k + 1))), some (.int (nI d))]) dX8_lays_103 rfl rfl ?_
                    refine w_goto dX8_lays_106 ?_
                    refine w_weak (ls2 := [some (.ref 47), none, some (.int (nI (k + 1))), none]) ⟨rfl, ⟨rfl, trivial⟩⟩ ?_
                    exact ih33 (k + 1) ρ3 (by omega) (hM3) (hE3) (hL3) (fun q hq => by rw [ht3 q hq, if_pos (by omega)]) (by omega)
                  · --f
                    refine w_al dX8_lays_54 rfl ?_
                    refine w_il dX8_lays_55 rfl ?_
                    refine w_cVf dX8_lays_56 (vl_X8_142 _ rfl) sh47 (by decide) (c_X8_doesCount ρ3 σ k hM3 (by omega)) rfl rfl (Nat.le_of_ble_eq_true rfl) ?_
                    refine w_ifeqB dX8_lays_59 (fun h59 => ?_) (fun h59 => ?_)
                    · --t
                      refine w_iincN (ls2 := [some (.ref 47), none, some (.int (nI (k + 1))), some (.int (nI d))]) dX8_lays_103 rfl rfl ?_
                      refine w_goto dX8_lays_106 ?_
                      refine w_weak (ls2 := [some (.ref 47), none, some (.int (nI (k + 1))), none]) ⟨rfl, ⟨rfl, trivial⟩⟩ ?_
                      exact ih33 (k + 1) ρ3 (by omega) (hM3) (hE3) (hL3) (fun q hq => by rw [ht3 q hq]; split <;> first | rfl | rw [sumT_n (fun z => h59 z.1)]) (by omega)
                    · --f
                      refine w_al dX8_lays_62 rfl ?_
                      refine w_gr dX8_lays_63 fl_X8_40 sh47 rfl ?_
                      refine w_il dX8_lays_66 rfl ?_
                      refine w_al dX8_lays_67 rfl ?_
                      refine w_gr dX8_lays_68 fl_X8_40 sh47 rfl ?_
                      refine w_il dX8_lays_71 rfl ?_
                      refine w_ialdV (v := (nI ((σ.1 57 2 + sumT σ d k) % 8))) dX8_lays_72 sh58 (by omega) (by rw [ht3 d (by omega), if_neg (by omega)]) ?_
                      refine w_al dX8_lays_73 rfl ?_
                      refine w_gr dX8_lays_74 fl_X8_28 sh47 rfl ?_
                      refine w_il dX8_lays_77 rfl ?_
                      refine w_ialdV (v := (nI (σ.1 54 k))) dX8_lays_78 sh54 (by omega) (hM3.2.1 54 (by decide) _) ?_
                      refine w_ifneN dX8_lays_79 (by omega) (fun h79 => ?_) (fun h79 => ?_)
                      · --t
                        refine w_al dX8_lays_86 rfl ?_
                        refine w_gr dX8_lays_87 fl_X8_37 sh47 rfl ?_
                        refine w_k dX8_lays_90 ?_
                        refine w_ialdV (v := (nI (σ.1 57 1))) dX8_lays_91 sh57 (by omega) (hM3.2.1 57 (by decide) _) ?_
                        refine w_iaddN dX8_lays_92 ?_
                        refine w_k dX8_lays_93 ?_
                        refine w_iremN dX8_lays_95 (by omega) (by omega) (by omega) ?_
                        refine w_iastN dX8_lays_96 sh58 (by omega) ?_
                        refine w_iincN (ls2 := [some (.ref 47), none, some (.int (nI k)), some (.int (nI (d + 1)))]) dX8_lays_97 rfl rfl ?_
                        refine w_goto dX8_lays_100 ?_
                        exact ih48 (d + 1) (wI ρ3 58 d (nI (((σ.1 57 2 + sumT σ d k) % 8 + (σ.1 57 1)) % 8))) (by omega) (by omega) ((MInv.wk hM3 (by decide))) ((EqC.w hE3 (by decide))) ((LL.w hL3 (by decide))) (upd1 (f := fun q => nI ((σ.1 57 2 + sumT σ q (if q < d then k + 1 else k)) % 8)) (g := fun q => nI ((σ.1 57 2 + sumT σ q (if q < d + 1 then k + 1 else k)) % 8)) ht3 (by rw [if_pos (by omega), sumT_y ⟨h59, hdd⟩, incG, if_neg h79]; congr 1; omega) (fun q hq => by simp only [show (q < d + 1) = (q < d) by simp; omega])) (by omega)
                      · --f
                        refine w_k dX8_lays_82 ?_
                        refine w_goto dX8_lays_83 ?_
                        refine w_iaddN dX8_lays_92 ?_
                        refine w_k dX8_lays_93 ?_
                        refine w_iremN dX8_lays_95 (by omega) (by omega) (by omega) ?_
                        refine w_iastN dX8_lays_96 sh58 (by omega) ?_
                        refine w_iincN (ls2 := [some (.ref 47), none, some (.int (nI k)), some (.int (nI (d + 1)))]) dX8_lays_97 rfl rfl ?_
                        refine w_goto dX8_lays_100 ?_
                        exact ih48 (d + 1) (wI ρ3 58 d (nI (((σ.1 57 2 + sumT σ d k) % 8 + 1) % 8))) (by omega) (by omega) ((MInv.wk hM3 (by decide))) ((EqC.w hE3 (by decide))) ((LL.w hL3 (by decide))) (upd1 (f := fun q => nI ((σ.1 57 2 + sumT σ q (if q < d then k + 1 else k)) % 8)) (g := fun q => nI ((σ.1 57 2 + sumT σ q (if q < d + 1 then k + 1 else k)) % 8)) ht3 (by rw [if_pos (by omega), sumT_y ⟨h59, hdd⟩, incG, if_pos h79]; congr 1; omega) (fun q hq => by simp only [show (q < d + 1) = (q < d) by simp; omega])) (by omega)
              exact L48 _ (σ.1 53 k) ρ2 (by omega) (Nat.le_refl _) (hM2) (hE2) (hL2) (fun q hq => by rw [ht2 q hq]; split <;> first | rfl | rw [sumT_n (fun z => absurd z.2 (by omega))]) (Nat.lt_succ_self _)
        exact L33 _ 0 ρ1 (by omega) (hM1) (hE1) (hL1) (fun q hq => by rw [ht1 q (by omega)]; congr 1; show _ = (σ.1 57 2 + 0) % 8; omega) (Nat.lt_succ_self _)
      · --f
        refine w_al dX8_lays_13 rfl ?_
        refine w_gr dX8_lays_14 fl_X8_40 sh47 rfl ?_
        refine w_il dX8_lays_17 rfl ?_
        refine w_al dX8_lays_18 rfl ?_
        refine w_gr dX8_lays_19 fl_X8_37 sh47 rfl ?_
        refine w_k dX8_lays_22 ?_
        refine w_ialdV (v := (nI (σ.1 57 2))) dX8_lays_23 sh57 (by omega) (hM1.2.1 57 (by decide) _) ?_
        refine w_iastN dX8_lays_24 sh58 (by omega) ?_
        refine w_iincN (ls2 := [some (.ref 47), none, some (.int (nI (p + 1))), none]) dX8_lays_25 rfl rfl ?_
        refine w_goto dX8_lays_28 ?_
        exact ih7 (p + 1) (wI ρ1 58 p (nI (σ.1 57 2))) (by omega) ((MInv.wk hM1 (by decide))) ((EqC.w hE1 (by decide))) ((LL.w hL1 (by decide))) (ext1 (f := fun _ => nI (σ.1 57 2)) ht1 rfl) (by omega)
  refine w_weak (ls2 := [some (.ref 47), none, some (.int (nI 0)), none]) ⟨rfl, ⟨rfl, trivial⟩⟩ ?_
  exact L7 _ 0 ρf1 (by omega) (hMf1) ((EqC.tr EqC.rf hEf1)) (hLf1) (fun q hq => absurd hq (Nat.not_lt_zero _)) (Nat.lt_succ_self _)
end
