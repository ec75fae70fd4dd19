theorem bt728 : Cond.methodLink RX0 3 objectInit ∈ BT := bt_of (in_t1 (List.mem_of_getElem? (i := 130) rfl)) rfl
theorem bt729 : Cond.instanceMethod objectInit ∈ BT := bt_of (in_t1 (List.mem_of_getElem? (i := 20) rfl)) rfl
theorem bt730 : Cond.code objectInit ⟨#[0xb1]⟩ 1 none ∈ BT := bt_of (in_t1 (List.mem_of_getElem? (i := 21) rfl)) rfl
theorem bt731 : Cond.arrayClass .long ∈ BT := bt_of (in_t1 (List.mem_of_getElem? (i := 140) rfl)) rfl
theorem ff_X0_9 : FPF RX0 9 0 0 (.array .long) := ⟨RX0, TX0, 2, tyX0, rfl, by decide, bt84, iB_X0, tyX0_ok, nmX0, rfl, rfl, by decide +kernel⟩
theorem bt732 : Cond.methodLink RX1 3 objectInit ∈ BT := bt_of (in_t1 (List.mem_of_getElem? (i := 80) rfl)) rfl
theorem bt733 : Cond.arrayClass .int ∈ BT := bt_of (in_t1 (List.mem_of_getElem? (i := 74) rfl)) rfl
theorem ff_X1_15 : FPF RX1 15 1 1 (.array .int) := ⟨RX1, TX1, 12, tyX1, rfl, by decide, bt93, iB_X1, tyX1_ok, nmX1, rfl, rfl, by decide +kernel⟩
theorem ff_X1_19 : FPF RX1 19 1 2 (.array .int) := ⟨RX1, TX1, 12, tyX1, rfl, by decide, bt94, iB_X1, tyX1_ok, nmX1, rfl, rfl, by decide +kernel⟩
theorem ff_X1_22 : FPF RX1 22 1 3 (.array .int) := ⟨RX1, TX1, 12, tyX1, rfl, by decide, bt95, iB_X1, tyX1_ok, nmX1, rfl, rfl, by decide +kernel⟩
theorem ff_X1_25 : FPF RX1 25 1 4 (.array .int) := ⟨RX1, TX1, 12, tyX1, rfl, by decide, bt96, iB_X1, tyX1_ok, nmX1, rfl, rfl, by decide +kernel⟩
theorem ff_X1_40 : FPF RX1 40 1 9 (.array .int) := ⟨RX1, TX1, 12, tyX1, rfl, by decide, bt105, iB_X1, tyX1_ok, nmX1, rfl, rfl, by decide +kernel⟩
theorem ff_X1_43 : FPF RX1 43 1 10 (.array .int) := ⟨RX1, TX1, 12, tyX1, rfl, by decide, bt109, iB_X1, tyX1_ok, nmX1, rfl, rfl, by decide +kernel⟩
theorem ff_X1_46 : FPF RX1 46 1 11 (.array .int) := ⟨RX1, TX1, 12, tyX1, rfl, by decide, bt110, iB_X1, tyX1_ok, nmX1, rfl, rfl, by decide +kernel⟩
theorem bt734 : Cond.methodLink RX2 3 objectInit ∈ BT := bt_of (in_t1 (List.mem_of_getElem? (i := 183) rfl)) rfl
theorem ff_X2_9 : FPF RX2 9 2 0 (.array .int) := ⟨RX2, TX2, 9, tyX2, rfl, by decide, bt141, iB_X2, tyX2_ok, nmX2, rfl, rfl, by decide +kernel⟩
theorem ff_X2_15 : FPF RX2 15 2 1 (.array .long) := ⟨RX2, TX2, 9, tyX2, rfl, by decide, bt139, iB_X2, tyX2_ok, nmX2, rfl, rfl, by decide +kernel⟩
theorem ff_X2_19 : FPF RX2 19 2 2 (.array .int) := ⟨RX2, TX2, 9, tyX2, rfl, by decide, bt134, iB_X2, tyX2_ok, nmX2, rfl, rfl, by decide +kernel⟩
theorem ff_X2_22 : FPF RX2 22 2 3 (.array .int) := ⟨RX2, TX2, 9, tyX2, rfl, by decide, bt120, iB_X2, tyX2_ok, nmX2, rfl, rfl, by decide +kernel⟩
theorem ff_X2_25 : FPF RX2 25 2 4 (.array .long) := ⟨RX2, TX2, 9, tyX2, rfl, by decide, bt133, iB_X2, tyX2_ok, nmX2, rfl, rfl, by decide +kernel⟩
theorem bt735 : Cond.methodLink RX3 3 objectInit ∈ BT := bt_of (in_t1 (List.mem_of_getElem? (i := 27) rfl)) rfl
theorem ff_X3_9 : FPF RX3 9 3 0 (.array .int) := ⟨RX3, TX3, 11, tyX3, rfl, by decide, bt144, iB_X3, tyX3_ok, nmX3, rfl, rfl, by decide +kernel⟩
theorem ff_X3_22 : FPF RX3 22 3 3 (.array .int) := ⟨RX3, TX3, 11, tyX3, rfl, by decide, bt163, iB_X3, tyX3_ok, nmX3, rfl, rfl, by decide +kernel⟩
theorem ff_X3_25 : FPF RX3 25 3 4 (.array .int) := ⟨RX3, TX3, 11, tyX3, rfl, by decide, bt165, iB_X3, tyX3_ok, nmX3, rfl, rfl, by decide +kernel⟩
theorem bt736 : Cond.fieldLink RX3 28 "TurningVillage$Land" "suns" "[I" ∈ BT := bt_of (in_t1 (List.mem_of_getElem? (i := 40) rfl)) rfl
theorem ff_X3_28 : FPF RX3 28 3 5 (.array .int) := ⟨RX3, TX3, 11, tyX3, rfl, by decide, bt736, iB_X3, tyX3_ok, nmX3, rfl, rfl, by decide +kernel⟩
theorem ff_X3_34 : FPF RX3 34 3 7 (.array .int) := ⟨RX3, TX3, 11, tyX3, rfl, by decide, bt189, iB_X3, tyX3_ok, nmX3, rfl, rfl, by decide +kernel⟩
theorem ff_X3_37 : FPF RX3 37 3 8 (.array .int) := ⟨RX3, TX3, 11, tyX3, rfl, by decide, bt190, iB_X3, tyX3_ok, nmX3, rfl, rfl, by decide +kernel⟩
theorem ff_X3_40 : FPF RX3 40 3 9 (.array .int) := ⟨RX3, TX3, 11, tyX3, rfl, by decide, bt191, iB_X3, tyX3_ok, nmX3, rfl, rfl, by decide +kernel⟩
theorem ff_X3_43 : FPF RX3 43 3 10 (.array .int) := ⟨RX3, TX3, 11, tyX3, rfl, by decide, bt192, iB_X3, tyX3_ok, nmX3, rfl, rfl, by decide +kernel⟩
theorem bt737 : Cond.methodLink RX4 3 objectInit ∈ BT := bt_of (in_t1 (List.mem_of_getElem? (i := 223) rfl)) rfl
theorem ff_X4_22 : FPF RX4 22 4 3 (.array .int) := ⟨RX4, TX4, 4, tyX4, rfl, by decide, bt196, iB_X4, tyX4_ok, nmX4, rfl, rfl, by decide +kernel⟩
theorem bt738 : Cond.methodLink RX5 3 objectInit ∈ BT := bt_of (in_t1 (List.mem_of_getElem? (i := 159) rfl)) rfl
theorem ff_X5_9 : FPF RX5 9 5 0 (.array .int) := ⟨RX5, TX5, 5, tyX5, rfl, by decide, bt199, iB_X5, tyX5_ok, nmX5, rfl, rfl, by decide +kernel⟩
theorem ff_X5_15 : FPF RX5 15 5 1 (.array .int) := ⟨RX5, TX5, 5, tyX5, rfl, by decide, bt198, iB_X5, tyX5_ok, nmX5, rfl, rfl, by decide +kernel⟩
theorem ff_X5_18 : FPF RX5 18 5 2 (.array .int) := ⟨RX5, TX5, 5, tyX5, rfl, by decide, bt201, iB_X5, tyX5_ok, nmX5, rfl, rfl, by decide +kernel⟩
theorem ff_X5_21 : FPF RX5 21 5 3 (.array .int) := ⟨RX5, TX5, 5, tyX5, rfl, by decide, bt215, iB_X5, tyX5_ok, nmX5, rfl, rfl, by decide +kernel⟩
theorem ff_X5_24 : FPF RX5 24 5 4 (.array .int) := ⟨RX5, TX5, 5, tyX5, rfl, by decide, bt228, iB_X5, tyX5_ok, nmX5, rfl, rfl, by decide +kernel⟩
theorem bt739 : Cond.methodLink RX6 3 objectInit ∈ BT := bt_of (in_t1 (List.mem_of_getElem? (i := 146) rfl)) rfl
theorem ff_X6_11 : FPF RX6 11 6 0 (.array .int) := ⟨RX6, TX6, 2, tyX6, rfl, by decide, bt229, iB_X6, tyX6_ok, nmX6, rfl, rfl, by decide +kernel⟩
theorem ff_X6_15 : FPF RX6 15 6 1 (.array .int) := ⟨RX6, TX6, 2, tyX6, rfl, by decide, bt231, iB_X6, tyX6_ok, nmX6, rfl, rfl, by decide +kernel⟩
theorem bt740 : Cond.methodLink RX7 1 objectInit ∈ BT := bt_of (in_t1 (List.mem_of_getElem? (i := 19) rfl)) rfl
theorem bt741 : Cond.classLink RX7 7 RX3 ∈ BT := bt_of (in_t1 (List.mem_of_getElem? (i := 22) rfl)) rfl
theorem bt742 : Cond.instantiable RX3 11 ∈ BT := bt_of (in_t1 (List.mem_of_getElem? (i := 23) rfl)) rfl
theorem nk_X7_7 : NWk RX7 7 3 11 [.null, .int 0, .int 0, .null, .null, .null, .int 0, .null, .null, .null, .null] := ⟨RX3, TX3, tyX3, rfl, bt741, bt742, bt148, iB_X3, tyX3_ok, fun j hj => by
  match j, hj with
  | 0, _ => rfl
  | 1, _ => rfl
  | 2, _ => rfl
  | 3, _ => rfl
  | 4, _ => rfl
  | 5, _ => rfl
  | 6, _ => rfl
  | 7, _ => rfl
  | 8, _ => rfl
  | 9, _ => rfl
  | 10, _ => rfl
  | n + 11, h => exact absurd h (by omega)⟩
theorem bt743 : Cond.instanceMethod yX3_init ∈ BT := bt_of (in_t1 (List.mem_of_getElem? (i := 25) rfl)) rfl
theorem bt744 : Cond.code yX3_init cX3_init 1 none ∈ BT := bt_of (in_t1 (List.mem_of_getElem? (i := 26) rfl)) rfl
theorem ik_X7_9 : IK mX7_init mX3_init 9 := ⟨Or.inr ⟨rfl, by decide +kernel⟩, bt743, bt148, bt744, rfl, rfl, ⟨by decide +kernel, by decide +kernel⟩, by decide +kernel⟩
theorem ff_X7_10 : FPF RX7 10 7 0 (.object "TurningVillage$Land") := ⟨RX7, TX7, 9, tyX7, rfl, by decide, bt248, iB_X7, tyX7_ok, nmX7, rfl, rfl, by decide +kernel⟩
theorem bt745 : Cond.classLink RX7 16 RX1 ∈ BT := bt_of (in_t1 (List.mem_of_getElem? (i := 75) rfl)) rfl
theorem bt746 : Cond.instantiable RX1 12 ∈ BT := bt_of (in_t1 (List.mem_of_getElem? (i := 76) rfl)) rfl
theorem nk_X7_16 : NWk RX7 16 1 12 [.int 0, .null, .null, .null, .null, .int 0, .int 0, .int 0, .int 0, .null, .null, .null] := ⟨RX1, TX1, tyX1, rfl, bt745, bt746, bt103, iB_X1, tyX1_ok, fun j hj => by
  match j, hj with
  | 0, _ => rfl
  | 1, _ => rfl
  | 2, _ => rfl
  | 3, _ => rfl
  | 4, _ => rfl
  | 5, _ => rfl
  | 6, _ => rfl
  | 7, _ => rfl
  | 8, _ => rfl
  | 9, _ => rfl
  | 10, _ => rfl
  | 11, _ => rfl
  | n + 12, h => exact absurd h (by omega)⟩
theorem bt747 : Cond.instanceMethod yX1_init ∈ BT := bt_of (in_t1 (List.mem_of_getElem? (i := 78) rfl)) rfl
theorem bt748 : Cond.code yX1_init cX1_init 1 none ∈ BT := bt_of (in_t1 (List.mem_of_getElem? (i := 79) rfl)) rfl
theorem ik_X7_18 : IK mX7_init mX1_init 18 := ⟨Or.inr ⟨rfl, by decide +kernel⟩, bt747, bt103, bt748, rfl, rfl, ⟨by decide +kernel, by decide +kernel⟩, by decide +kernel⟩
theorem ff_X7_19 : FPF RX7 19 7 1 (.object "TurningVillage$Gales") := ⟨RX7, TX7, 9, tyX7, rfl, by decide, bt269, iB_X7, tyX7_ok, nmX7, rfl, rfl, by decide +kernel⟩
theorem bt749 : Cond.classLink RX7 23 RX0 ∈ BT := bt_of (in_t1 (List.mem_of_getElem? (i := 125) rfl)) rfl
theorem bt750 : Cond.instantiable RX0 2 ∈ BT := bt_of (in_t1 (List.mem_of_getElem? (i := 126) rfl)) rfl
theorem nk_X7_23 : NWk RX7 23 0 2 [.null, .long 0] := ⟨RX0, TX0, tyX0, rfl, bt749, bt750, bt345, iB_X0, tyX0_ok, fun j hj => by
  match j, hj with
  | 0, _ => rfl
  | 1, _ => rfl
  | n + 2, h => exact absurd h (by omega)⟩
theorem bt751 : Cond.instanceMethod yX0_init ∈ BT := bt_of (in_t1 (List.mem_of_getElem? (i := 128) rfl)) rfl
theorem bt752 : Cond.code yX0_init cX0_init 1 none ∈ BT := bt_of (in_t1 (List.mem_of_getElem? (i := 129) rfl)) rfl
theorem ik_X7_25 : IK mX7_init mX0_init 25 := ⟨Or.inr ⟨rfl, by decide +kernel⟩, bt751, bt345, bt752, rfl, rfl, ⟨by decide +kernel, by decide +kernel⟩, by decide +kernel⟩
theorem ff_X7_26 : FPF RX7 26 7 2 (.object "TurningVillage$Chance") := ⟨RX7, TX7, 9, tyX7, rfl, by decide, bt341, iB_X7, tyX7_ok, nmX7, rfl, rfl, by decide +kernel⟩
theorem bt753 : Cond.classLink RX7 30 RX6 ∈ BT := bt_of (in_t1 (List.mem_of_getElem? (i := 141) rfl)) rfl
theorem bt754 : Cond.instantiable RX6 2 ∈ BT := bt_of (in_t1 (List.mem_of_getElem? (i := 142) rfl)) rfl
theorem nk_X7_30 : NWk RX7 30 6 2 [.null, .null] := ⟨RX6, TX6, tyX6, rfl, bt753, bt754, bt236, iB_X6, tyX6_ok, fun j hj => by
  match j, hj with
  | 0, _ => rfl
  | 1, _ => rfl
  | n + 2, h => exact absurd h (by omega)⟩
theorem bt755 : Cond.instanceMethod yX6_init ∈ BT := bt_of (in_t1 (List.mem_of_getElem? (i := 144) rfl)) rfl
theorem bt756 : Cond.code yX6_init cX6_init 1 none ∈ BT := bt_of (in_t1 (List.mem_of_getElem? (i := 145) rfl)) rfl
theorem ik_X7_32 : IK mX7_init mX6_init 32 := ⟨Or.inr ⟨rfl, by decide +kernel⟩, bt755, bt236, bt756, rfl, rfl, ⟨by decide +kernel, by decide +kernel⟩, by decide +kernel⟩
theorem ff_X7_33 : FPF RX7 33 7 3 (.object "TurningVillage$Walker") := ⟨RX7, TX7, 9, tyX7, rfl, by decide, bt361, iB_X7, tyX7_ok, nmX7, rfl, rfl, by decide +kernel⟩
theorem ff_X7_37 : FPF RX7 37 7 4 (.object "TurningVillage$Walker") := ⟨RX7, TX7, 9, tyX7, rfl, by decide, bt370, iB_X7, tyX7_ok, nmX7, rfl, rfl, by decide +kernel⟩
theorem bt757 : Cond.classLink RX7 40 RX5 ∈ BT := bt_of (in_t1 (List.mem_of_getElem? (i := 154) rfl)) rfl
theorem bt758 : Cond.instantiable RX5 5 ∈ BT := bt_of (in_t1 (List.mem_of_getElem? (i := 155) rfl)) rfl
theorem nk_X7_40 : NWk RX7 40 5 5 [.null, .null, .null, .null, .null] := ⟨RX5, TX5, tyX5, rfl, bt757, bt758, bt205, iB_X5, tyX5_ok, fun j hj => by
  match j, hj with
  | 0, _ => rfl
  | 1, _ => rfl
  | 2, _ => rfl
  | 3, _ => rfl
  | 4, _ => rfl
  | n + 5, h => exact absurd h (by omega)⟩
theorem bt759 : Cond.methodLink RX7 42 yX5_init ∈ BT := bt_of (in_t1 (List.mem_of_getElem? (i := 156) rfl)) rfl
theorem bt760 : Cond.instanceMethod yX5_init ∈ BT := bt_of (in_t1 (List.mem_of_getElem? (i := 157) rfl)) rfl
theorem bt761 : Cond.code yX5_init cX5_init 2 none ∈ BT := bt_of (in_t1 (List.mem_of_getElem? (i := 158) rfl)) rfl
theorem ik_X7_42 : IK mX7_init mX5_init 42 := ⟨Or.inl bt759, bt760, bt205, bt761, rfl, rfl, ⟨by decide +kernel, by decide +kernel⟩, by decide +kernel⟩
theorem ff_X7_43 : FPF RX7 43 7 5 (.object "TurningVillage$Tenants") := ⟨RX7, TX7, 9, tyX7, rfl, by decide, bt379, iB_X7, tyX7_ok, nmX7, rfl, rfl, by decide +kernel⟩
theorem bt762 : Cond.classLink RX7 47 RX2 ∈ BT := bt_of (in_t1 (List.mem_of_getElem? (i := 178) rfl)) rfl
theorem bt763 : Cond.instantiable RX2 9 ∈ BT := bt_of (in_t1 (List.mem_of_getElem? (i := 179) rfl)) rfl
theorem nk_X7_47 : NWk RX7 47 2 9 [.null, .null, .null, .null, .null, .int 0, .int 0, .int 0, .int 0] := ⟨RX2, TX2, tyX2, rfl, bt762, bt763, bt114, iB_X2, tyX2_ok, fun j hj => by
  match j, hj with
  | 0, _ => rfl
  | 1, _ => rfl
  | 2, _ => rfl
  | 3, _ => rfl
  | 4, _ => rfl
  | 5, _ => rfl
  | 6, _ => rfl
  | 7, _ => rfl
  | 8, _ => rfl
  | n + 9, h => exact absurd h (by omega)⟩
theorem bt764 : Cond.methodLink RX7 49 yX2_init ∈ BT := bt_of (in_t1 (List.mem_of_getElem? (i := 180) rfl)) rfl
theorem bt765 : Cond.instanceMethod yX2_init ∈ BT := bt_of (in_t1 (List.mem_of_getElem? (i := 181) rfl)) rfl
theorem bt766 : Cond.code yX2_init cX2_init 2 none ∈ BT := bt_of (in_t1 (List.mem_of_getElem? (i := 182) rfl)) rfl
theorem ik_X7_49 : IK mX7_init mX2_init 49 := ⟨Or.inl bt764, bt765, bt114, bt766, rfl, rfl, ⟨by decide +kernel, by decide +kernel⟩, by decide +kernel⟩
theorem ff_X7_50 : FPF RX7 50 7 6 (.object "TurningVillage$Harvest") := ⟨RX7, TX7, 9, tyX7, rfl, by decide, bt407, iB_X7, tyX7_ok, nmX7, rfl, rfl, by decide +kernel⟩
theorem bt767 : Cond.classLink RX7 54 RX4 ∈ BT := bt_of (in_t1 (List.mem_of_getElem? (i := 217) rfl)) rfl
theorem ff_X7_56 : FPF RX7 56 7 7 (.array (.object "TurningVillage$Sheet")) := ⟨RX7, TX7, 9, tyX7, rfl, by decide, bt288, iB_X7, tyX7_ok, nmX7, rfl, rfl, by decide +kernel⟩
theorem bt768 : Cond.instantiable RX4 4 ∈ BT := bt_of (in_t1 (List.mem_of_getElem? (i := 219) rfl)) rfl
theorem nk_X7_54 : NWk RX7 54 4 4 [.int 0, .int 0, .int 0, .null] := ⟨RX4, TX4, tyX4, rfl, bt767, bt768, bt428, iB_X4, tyX4_ok, fun j hj => by
  match j, hj with
  | 0, _ => rfl
  | 1, _ => rfl
  | 2, _ => rfl
  | 3, _ => rfl
  | n + 4, h => exact absurd h (by omega)⟩
theorem bt769 : Cond.instanceMethod yX4_init ∈ BT := bt_of (in_t1 (List.mem_of_getElem? (i := 221) rfl)) rfl
theorem bt770 : Cond.code yX4_init cX4_init 1 none ∈ BT := bt_of (in_t1 (List.mem_of_getElem? (i := 222) rfl)) rfl
theorem ik_X7_60 : IK mX7_init mX4_init 60 := ⟨Or.inr ⟨rfl, by decide +kernel⟩, bt769, bt428, bt770, rfl, rfl, ⟨by decide +kernel, by decide +kernel⟩, by decide +kernel⟩
theorem bt771 : Cond.methodLink RX8 1 objectInit ∈ BT := bt_of (in_t4 (List.mem_of_getElem? (i := 20) rfl)) rfl
theorem ff_X8_7 : FPF RX8 7 8 1 (.array .int) := ⟨RX8, TX8, 30, tyX8, rfl, by decide, bt530, iB_X8, tyX8_ok, nmX8, rfl, rfl, by decide +kernel⟩
theorem ff_X8_13 : FPF RX8 13 8 2 (.array .int) := ⟨RX8, TX8, 30, tyX8, rfl, by decide, bt534, iB_X8, tyX8_ok, nmX8, rfl, rfl, by decide +kernel⟩
theorem ff_X8_16 : FPF RX8 16 8 3 (.array .int) := ⟨RX8, TX8, 30, tyX8, rfl, by decide, bt533, iB_X8, tyX8_ok, nmX8, rfl, rfl, by decide +kernel⟩
theorem ff_X8_19 : FPF RX8 19 8 5 (.array .int) := ⟨RX8, TX8, 30, tyX8, rfl, by decide, bt532, iB_X8, tyX8_ok, nmX8, rfl, rfl, by decide +kernel⟩
theorem ff_X8_22 : FPF RX8 22 8 6 (.array .int) := ⟨RX8, TX8, 30, tyX8, rfl, by decide, bt554, iB_X8, tyX8_ok, nmX8, rfl, rfl, by decide +kernel⟩
theorem ff_X8_25 : FPF RX8 25 8 8 (.array .int) := ⟨RX8, TX8, 30, tyX8, rfl, by decide, bt564, iB_X8, tyX8_ok, nmX8, rfl, rfl, by decide +kernel⟩
theorem ff_X8_28 : FPF RX8 28 8 9 (.array .int) := ⟨RX8, TX8, 30, tyX8, rfl, by decide, bt565, iB_X8, tyX8_ok, nmX8, rfl, rfl, by decide +kernel⟩
theorem ff_X8_31 : FPF RX8 31 8 10 (.array .int) := ⟨RX8, TX8, 30, tyX8, rfl, by decide, bt566, iB_X8, tyX8_ok, nmX8, rfl, rfl, by decide +kernel⟩
theorem ff_X8_34 : FPF RX8 34 8 11 (.array .int) := ⟨RX8, TX8, 30, tyX8, rfl, by decide, bt567, iB_X8, tyX8_ok, nmX8, rfl, rfl, by decide +kernel⟩
theorem ff_X8_37 : FPF RX8 37 8 13 (.array .int) := ⟨RX8, TX8, 30, tyX8, rfl, by decide, bt582, iB_X8, tyX8_ok, nmX8, rfl, rfl, by decide +kernel⟩
theorem ff_X8_40 : FPF RX8 40 8 14 (.array .int) := ⟨RX8, TX8, 30, tyX8, rfl, by decide, bt583, iB_X8, tyX8_ok, nmX8, rfl, rfl, by decide +kernel⟩
theorem ff_X8_43 : FPF RX8 43 8 15 (.array .long) := ⟨RX8, TX8, 30, tyX8, rfl, by decide, bt639, iB_X8, tyX8_ok, nmX8, rfl, rfl, by decide +kernel⟩
theorem ff_X8_47 : FPF RX8 47 8 16 (.array .int) := ⟨RX8, TX8, 30, tyX8, rfl, by decide, bt641, iB_X8, tyX8_ok, nmX8, rfl, rfl, by decide +kernel⟩
theorem ff_X8_50 : FPF RX8 50 8 17 (.array .int) := ⟨RX8, TX8, 30, tyX8, rfl, by decide, bt647, iB_X8, tyX8_ok, nmX8, rfl, rfl, by decide +kernel⟩
theorem ff_X8_53 : FPF RX8 53 8 18 (.array .int) := ⟨RX8, TX8, 30, tyX8, rfl, by decide, bt664, iB_X8, tyX8_ok, nmX8, rfl, rfl, by decide +kernel⟩
theorem ff_X8_56 : FPF RX8 56 8 19 (.array .int) := ⟨RX8, TX8, 30, tyX8, rfl, by decide, bt665, iB_X8, tyX8_ok, nmX8, rfl, rfl, by decide +kernel⟩
theorem ff_X8_59 : FPF RX8 59 8 20 (.array .int) := ⟨RX8, TX8, 30, tyX8, rfl, by decide, bt666, iB_X8, tyX8_ok, nmX8, rfl, rfl, by decide +kernel⟩
theorem ff_X8_62 : FPF RX8 62 8 21 (.array .int) := ⟨RX8, TX8, 30, tyX8, rfl, by decide, bt677, iB_X8, tyX8_ok, nmX8, rfl, rfl, by decide +kernel⟩
theorem ff_X8_65 : FPF RX8 65 8 22 (.array .int) := ⟨RX8, TX8, 30, tyX8, rfl, by decide, bt686, iB_X8, tyX8_ok, nmX8, rfl, rfl, by decide +kernel⟩
theorem ff_X8_68 : FPF RX8 68 8 23 (.array .int) := ⟨RX8, TX8, 30, tyX8, rfl, by decide, bt687, iB_X8, tyX8_ok, nmX8, rfl, rfl, by decide +kernel⟩
theorem bt772 : Cond.arrayClass .boolean ∈ BT := bt_of (in_t4 (List.mem_of_getElem? (i := 112) rfl)) rfl
theorem ff_X8_71 : FPF RX8 71 8 24 (.array .boolean) := ⟨RX8, TX8, 30, tyX8, rfl, by decide, bt575, iB_X8, tyX8_ok, nmX8, rfl, rfl, by decide +kernel⟩
theorem ff_X8_75 : FPF RX8 75 8 25 (.array .int) := ⟨RX8, TX8, 30, tyX8, rfl, by decide, bt701, iB_X8, tyX8_ok, nmX8, rfl, rfl, by decide +kernel⟩
theorem ff_X8_78 : FPF RX8 78 8 26 (.array .int) := ⟨RX8, TX8, 30, tyX8, rfl, by decide, bt580, iB_X8, tyX8_ok, nmX8, rfl, rfl, by decide +kernel⟩
theorem ff_X8_81 : FPF RX8 81 8 27 (.array .int) := ⟨RX8, TX8, 30, tyX8, rfl, by decide, bt581, iB_X8, tyX8_ok, nmX8, rfl, rfl, by decide +kernel⟩
theorem ff_X8_84 : FPF RX8 84 8 28 (.array .int) := ⟨RX8, TX8, 30, tyX8, rfl, by decide, bt711, iB_X8, tyX8_ok, nmX8, rfl, rfl, by decide +kernel⟩
theorem dX0_init_0 : DLa mX0_init 0 0 1 := Or.inl ⟨0, by decide +kernel, rfl, rfl⟩
theorem dX0_init_1 : D0 mX0_init 1 (.invokespecial 3) 3 4 := ⟨by decide +kernel, rfl⟩
theorem dX0_init_4 : DLa mX0_init 4 0 5 := Or.inl ⟨0, by decide +kernel, rfl, rfl⟩
theorem dX0_init_5 : DKi mX0_init 5 (nI 8) 7 := Or.inr (Or.inl ⟨8, by decide +kernel, by decide, rfl⟩)
theorem dX0_init_7 : D0 mX0_init 7 (.newarray .long) 2 9 := ⟨by decide +kernel, rfl⟩
theorem dX0_init_9 : D0 mX0_init 9 (.putfield 9) 3 12 := ⟨by decide +kernel, rfl⟩
theorem dX0_init_12 : DLa mX0_init 12 0 13 := Or.inl ⟨0, by decide +kernel, rfl, rfl⟩
theorem dX0_init_13 : DKl mX0_init 13 (lN 1) 14 := Or.inl ⟨1, by decide +kernel, rfl, rfl⟩
theorem dX0_init_14 : D0 mX0_init 14 (.putfield 15) 3 17 := ⟨by decide +kernel, rfl⟩
theorem dX0_init_17 : D0 mX0_init 17 (.return_) 1 18 := ⟨by decide +kernel, rfl⟩
theorem dX1_init_0 : DLa mX1_init 0 0 1 := Or.inl ⟨0, by decide +kernel, rfl, rfl⟩
theorem dX1_init_1 : D0 mX1_init 1 (.invokespecial 3) 3 4 := ⟨by decide +kernel, rfl⟩
theorem dX1_init_4 : DLa mX1_init 4 0 5 := Or.inl ⟨0, by decide +kernel, rfl, rfl⟩
theorem dX1_init_5 : DKi mX1_init 5 (nI 0) 6 := Or.inl ⟨0, by decide +kernel, by decide, rfl⟩
theorem dX1_init_6 : D0 mX1_init 6 (.putfield 9) 3 9 := ⟨by decide +kernel, rfl⟩
theorem dX1_init_9 : DLa mX1_init 9 0 10 := Or.inl ⟨0, by decide +kernel, rfl, rfl⟩
theorem dX1_init_10 : DKi mX1_init 10 (nI 60) 12 := Or.inr (Or.inl ⟨60, by decide +kernel, by decide, rfl⟩)
theorem dX1_init_12 : D0 mX1_init 12 (.newarray .int) 2 14 := ⟨by decide +kernel, rfl⟩
theorem dX1_init_14 : D0 mX1_init 14 (.putfield 15) 3 17 := ⟨by decide +kernel, rfl⟩
theorem dX1_init_17 : DLa mX1_init 17 0 18 := Or.inl ⟨0, by decide +kernel, rfl, rfl⟩
theorem dX1_init_18 : DKi mX1_init 18 (nI 60) 20 := Or.inr (Or.inl ⟨60, by decide +kernel, by decide, rfl⟩)
theorem dX1_init_20 : D0 mX1_init 20 (.newarray .int) 2 22 := ⟨by decide +kernel, rfl⟩
theorem dX1_init_22 : D0 mX1_init 22 (.putfield 19) 3 25 := ⟨by decide +kernel, rfl⟩
theorem dX1_init_25 : DLa mX1_init 25 0 26 := Or.inl ⟨0, by decide +kernel, rfl, rfl⟩
theorem dX1_init_26 : DKi mX1_init 26 (nI 60) 28 := Or.inr (Or.inl ⟨60, by decide +kernel, by decide, rfl⟩)
theorem dX1_init_28 : D0 mX1_init 28 (.newarray .int) 2 30 := ⟨by decide +kernel, rfl⟩
theorem dX1_init_30 : D0 mX1_init 30 (.putfield 22) 3 33 := ⟨by decide +kernel, rfl⟩
theorem dX1_init_33 : DLa mX1_init 33 0 34 := Or.inl ⟨0, by decide +kernel, rfl, rfl⟩
theorem dX1_init_34 : DKi mX1_init 34 (nI 60) 36 := Or.inr (Or.inl ⟨60, by decide +kernel, by decide, rfl⟩)
theorem dX1_init_36 : D0 mX1_init 36 (.newarray .int) 2 38 := ⟨by decide +kernel, rfl⟩
theorem dX1_init_38 : D0 mX1_init 38 (.putfield 25) 3 41 := ⟨by decide +kernel, rfl⟩
theorem dX1_init_41 : DLa mX1_init 41 0 42 := Or.inl ⟨0, by decide +kernel, rfl, rfl⟩
theorem dX1_init_42 : DKi mX1_init 42 (nI 0) 43 := Or.inl ⟨0, by decide +kernel, by decide, rfl⟩
theorem dX1_init_43 : D0 mX1_init 43 (.putfield 28) 3 46 := ⟨by decide +kernel, rfl⟩
theorem dX1_init_46 : DLa mX1_init 46 0 47 := Or.inl ⟨0, by decide +kernel, rfl, rfl⟩
theorem dX1_init_47 : DKi mX1_init 47 (nI 999) 50 := Or.inr (Or.inr (Or.inl ⟨999, by decide +kernel, by decide, rfl⟩))
theorem dX1_init_50 : D0 mX1_init 50 (.putfield 31) 3 53 := ⟨by decide +kernel, rfl⟩
theorem dX1_init_53 : DLa mX1_init 53 0 54 := Or.inl ⟨0, by decide +kernel, rfl, rfl⟩
theorem dX1_init_54 : DKi mX1_init 54 (nI 0) 55 := Or.inl ⟨0, by decide +kernel, by decide, rfl⟩
theorem dX1_init_55 : D0 mX1_init 55 (.putfield 34) 3 58 := ⟨by decide +kernel, rfl⟩
theorem dX1_init_58 : DLa mX1_init 58 0 59 := Or.inl ⟨0, by decide +kernel, rfl, rfl⟩
theorem dX1_init_59 : DKi mX1_init 59 (nI 0) 60 := Or.inl ⟨0, by decide +kernel, by decide, rfl⟩
theorem dX1_init_60 : D0 mX1_init 60 (.putfield 37) 3 63 := ⟨by decide +kernel, rfl⟩
theorem dX1_init_63 : DLa mX1_init 63 0 64 := Or.inl ⟨0, by decide +kernel, rfl, rfl⟩
theorem dX1_init_64 : DKi mX1_init 64 (nI 100) 66 := Or.inr (Or.inl ⟨100, by decide +kernel, by decide, rfl⟩)
theorem dX1_init_66 : D0 mX1_init 66 (.newarray .int) 2 68 := ⟨by decide +kernel, rfl⟩
theorem dX1_init_68 : D0 mX1_init 68 (.putfield 40) 3 71 := ⟨by decide +kernel, rfl⟩
theorem dX1_init_71 : DLa mX1_init 71 0 72 := Or.inl ⟨0, by decide +kernel, rfl, rfl⟩
theorem dX1_init_72 : DKi mX1_init 72 (nI 8) 74 := Or.inr (Or.inl ⟨8, by decide +kernel, by decide, rfl⟩)
theorem dX1_init_74 : D0 mX1_init 74 (.newarray .int) 2 76 := ⟨by decide +kernel, rfl⟩
theorem dX1_init_76 : D0 mX1_init 76 (.putfield 43) 3 79 := ⟨by decide +kernel, rfl⟩
theorem dX1_init_79 : DLa mX1_init 79 0 80 := Or.inl ⟨0, by decide +kernel, rfl, rfl⟩
theorem dX1_init_80 : DKi mX1_init 80 (nI 8) 82 := Or.inr (Or.inl ⟨8, by decide +kernel, by decide, rfl⟩)
theorem dX1_init_82 : D0 mX1_init 82 (.newarray .int) 2 84 := ⟨by decide +kernel, rfl⟩
theorem dX1_init_84 : D0 mX1_init 84 (.putfield 46) 3 87 := ⟨by decide +kernel, rfl⟩
theorem dX1_init_87 : D0 mX1_init 87 (.return_) 1 88 := ⟨by decide +kernel, rfl⟩
theorem dX2_init_0 : DLa mX2_init 0 0 1 := Or.inl ⟨0, by decide +kernel, rfl, rfl⟩
theorem dX2_init_1 : D0 mX2_init 1 (.invokespecial 3) 3 4 := ⟨by decide +kernel, rfl⟩
theorem dX2_init_4 : DLa mX2_init 4 0 5 := Or.inl ⟨0, by decide +kernel, rfl, rfl⟩
theorem dX2_init_5 : DKi mX2_init 5 (nI 8) 7 := Or.inr (Or.inl ⟨8, by decide +kernel, by decide, rfl⟩)
theorem dX2_init_7 : D0 mX2_init 7 (.newarray .int) 2 9 := ⟨by decide +kernel, rfl⟩
theorem dX2_init_9 : D0 mX2_init 9 (.putfield 9) 3 12 := ⟨by decide +kernel, rfl⟩
theorem dX2_init_12 : DLa mX2_init 12 0 13 := Or.inl ⟨0, by decide +kernel, rfl, rfl⟩
theorem dX2_init_13 : DKi mX2_init 13 (nI 8) 15 := Or.inr (Or.inl ⟨8, by decide +kernel, by decide, rfl⟩)
theorem dX2_init_15 : D0 mX2_init 15 (.newarray .long) 2 17 := ⟨by decide +kernel, rfl⟩
theorem dX2_init_17 : D0 mX2_init 17 (.putfield 15) 3 20 := ⟨by decide +kernel, rfl⟩
theorem dX2_init_20 : DLa mX2_init 20 0 21 := Or.inl ⟨0, by decide +kernel, rfl, rfl⟩
theorem dX2_init_21 : DKi mX2_init 21 (nI 13) 23 := Or.inr (Or.inl ⟨13, by decide +kernel, by decide, rfl⟩)
theorem dX2_init_23 : D0 mX2_init 23 (.newarray .int) 2 25 := ⟨by decide +kernel, rfl⟩
theorem dX2_init_25 : D0 mX2_init 25 (.putfield 19) 3 28 := ⟨by decide +kernel, rfl⟩
theorem dX2_init_28 : DLa mX2_init 28 0 29 := Or.inl ⟨0, by decide +kernel, rfl, rfl⟩
theorem dX2_init_29 : DKi mX2_init 29 (nI 13) 31 := Or.inr (Or.inl ⟨13, by decide +kernel, by decide, rfl⟩)
theorem dX2_init_31 : D0 mX2_init 31 (.newarray .int) 2 33 := ⟨by decide +kernel, rfl⟩
theorem dX2_init_33 : D0 mX2_init 33 (.putfield 22) 3 36 := ⟨by decide +kernel, rfl⟩
theorem dX2_init_36 : DLa mX2_init 36 0 37 := Or.inl ⟨0, by decide +kernel, rfl, rfl⟩
theorem dX2_init_37 : DKi mX2_init 37 (nI 13) 39 := Or.inr (Or.inl ⟨13, by decide +kernel, by decide, rfl⟩)
theorem dX2_init_39 : D0 mX2_init 39 (.newarray .long) 2 41 := ⟨by decide +kernel, rfl⟩
theorem dX2_init_41 : D0 mX2_init 41 (.putfield 25) 3 44 := ⟨by decide +kernel, rfl⟩
theorem dX2_init_44 : DLa mX2_init 44 0 45 := Or.inl ⟨0, by decide +kernel, rfl, rfl⟩
theorem dX2_init_45 : DKi mX2_init 45 (nI 0) 46 := Or.inl ⟨0, by decide +kernel, by decide, rfl⟩
theorem dX2_init_46 : D0 mX2_init 46 (.putfield 28) 3 49 := ⟨by decide +kernel, rfl⟩
theorem dX2_init_49 : DLa mX2_init 49 0 50 := Or.inl ⟨0, by decide +kernel, rfl, rfl⟩
theorem dX2_init_50 : DKi mX2_init 50 ((-1)) 51 := Or.inl ⟨(-1), by decide +kernel, by decide, rfl⟩
theorem dX2_init_51 : D0 mX2_init 51 (.putfield 32) 3 54 := ⟨by decide +kernel, rfl⟩
theorem dX2_init_54 : DLa mX2_init 54 0 55 := Or.inl ⟨0, by decide +kernel, rfl, rfl⟩
theorem dX2_init_55 : DKi mX2_init 55 (nI 0) 56 := Or.inl ⟨0, by decide +kernel, by decide, rfl⟩
theorem dX2_init_56 : D0 mX2_init 56 (.putfield 35) 3 59 := ⟨by decide +kernel, rfl⟩
theorem dX2_init_59 : DLa mX2_init 59 0 60 := Or.inl ⟨0, by decide +kernel, rfl, rfl⟩
theorem dX2_init_60 : DKi mX2_init 60 (nI 0) 61 := Or.inl ⟨0, by decide +kernel, by decide, rfl⟩
theorem dX2_init_61 : D0 mX2_init 61 (.putfield 38) 3 64 := ⟨by decide +kernel, rfl⟩
theorem dX2_init_64 : DKi mX2_init 64 (nI 0) 65 := Or.inl ⟨0, by decide +kernel, by decide, rfl⟩
theorem dX2_init_65 : DSi mX2_init 65 1 66 := ⟨by decide, Or.inl ⟨1, by decide +kernel, rfl, rfl⟩⟩
theorem dX2_init_66 : DLi mX2_init 66 1 67 := Or.inl ⟨1, by decide +kernel, rfl, rfl⟩
theorem dX2_init_67 : DKi mX2_init 67 (nI 8) 69 := Or.inr (Or.inl ⟨8, by decide +kernel, by decide, rfl⟩)
theorem dX2_init_69 : DCge mX2_init 69 85 72 := ⟨16, by decide +kernel, by decide, rfl⟩
theorem dX2_init_72 : DLa mX2_init 72 0 73 := Or.inl ⟨0, by decide +kernel, rfl, rfl⟩
theorem dX2_init_73 : D0 mX2_init 73 (.getfield 9) 3 76 := ⟨by decide +kernel, rfl⟩
theorem dX2_init_76 : DLi mX2_init 76 1 77 := Or.inl ⟨1, by decide +kernel, rfl, rfl⟩
theorem dX2_init_77 : DKi mX2_init 77 ((-1)) 78 := Or.inl ⟨(-1), by decide +kernel, by decide, rfl⟩
theorem dX2_init_78 : D0 mX2_init 78 (.iastore) 1 79 := ⟨by decide +kernel, rfl⟩
theorem dX2_init_79 : DIn mX2_init 79 1 (nI 1) 82 := ⟨by decide, 1, by decide +kernel, by decide, rfl⟩
theorem dX2_init_82 : DG mX2_init 82 66 := ⟨(-16), by decide +kernel, by decide⟩
theorem dX2_init_85 : D0 mX2_init 85 (.return_) 1 86 := ⟨by decide +kernel, rfl⟩
theorem dX3_init_0 : DLa mX3_init 0 0 1 := Or.inl ⟨0, by decide +kernel, rfl, rfl⟩
theorem dX3_init_1 : D0 mX3_init 1 (.invokespecial 3) 3 4 := ⟨by decide +kernel, rfl⟩
theorem dX3_init_4 : DLa mX3_init 4 0 5 := Or.inl ⟨0, by decide +kernel, rfl, rfl⟩
theorem dX3_init_5 : DKi mX3_init 5 (nI 60) 7 := Or.inr (Or.inl ⟨60, by decide +kernel, by decide, rfl⟩)
theorem dX3_init_7 : D0 mX3_init 7 (.newarray .int) 2 9 := ⟨by decide +kernel, rfl⟩
theorem dX3_init_9 : D0 mX3_init 9 (.putfield 9) 3 12 := ⟨by decide +kernel, rfl⟩
theorem dX3_init_12 : DLa mX3_init 12 0 13 := Or.inl ⟨0, by decide +kernel, rfl, rfl⟩
theorem dX3_init_13 : DKi mX3_init 13 (nI 0) 14 := Or.inl ⟨0, by decide +kernel, by decide, rfl⟩
theorem dX3_init_14 : D0 mX3_init 14 (.putfield 15) 3 17 := ⟨by decide +kernel, rfl⟩
theorem dX3_init_17 : DLa mX3_init 17 0 18 := Or.inl ⟨0, by decide +kernel, rfl, rfl⟩
theorem dX3_init_18 : DKi mX3_init 18 (nI 0) 19 := Or.inl ⟨0, by decide +kernel, by decide, rfl⟩
theorem dX3_init_19 : D0 mX3_init 19 (.putfield 19) 3 22 := ⟨by decide +kernel, rfl⟩
theorem dX3_init_22 : DLa mX3_init 22 0 23 := Or.inl ⟨0, by decide +kernel, rfl, rfl⟩
theorem dX3_init_23 : DKi mX3_init 23 (nI 8) 25 := Or.inr (Or.inl ⟨8, by decide +kernel, by decide, rfl⟩)
theorem dX3_init_25 : D0 mX3_init 25 (.newarray .int) 2 27 := ⟨by decide +kernel, rfl⟩
theorem dX3_init_27 : D0 mX3_init 27 (.putfield 22) 3 30 := ⟨by decide +kernel, rfl⟩
theorem dX3_init_30 : DLa mX3_init 30 0 31 := Or.inl ⟨0, by decide +kernel, rfl, rfl⟩
theorem dX3_init_31 : DKi mX3_init 31 (nI 8) 33 := Or.inr (Or.inl ⟨8, by decide +kernel, by decide, rfl⟩)
theorem dX3_init_33 : D0 mX3_init 33 (.newarray .int) 2 35 := ⟨by decide +kernel, rfl⟩
theorem dX3_init_35 : D0 mX3_init 35 (.putfield 25) 3 38 := ⟨by decide +kernel, rfl⟩
theorem dX3_init_38 : DLa mX3_init 38 0 39 := Or.inl ⟨0, by decide +kernel, rfl, rfl⟩
theorem dX3_init_39 : DKi mX3_init 39 (nI 8) 41 := Or.inr (Or.inl ⟨8, by decide +kernel, by decide, rfl⟩)
theorem dX3_init_41 : D0 mX3_init 41 (.newarray .int) 2 43 := ⟨by decide +kernel, rfl⟩
theorem dX3_init_43 : D0 mX3_init 43 (.putfield 28) 3 46 := ⟨by decide +kernel, rfl⟩
theorem dX3_init_46 : DLa mX3_init 46 0 47 := Or.inl ⟨0, by decide +kernel, rfl, rfl⟩
theorem dX3_init_47 : DKi mX3_init 47 (nI 0) 48 := Or.inl ⟨0, by decide +kernel, by decide, rfl⟩
theorem dX3_init_48 : D0 mX3_init 48 (.putfield 31) 3 51 := ⟨by decide +kernel, rfl⟩
theorem dX3_init_51 : DLa mX3_init 51 0 52 := Or.inl ⟨0, by decide +kernel, rfl, rfl⟩
theorem dX3_init_52 : DKi mX3_init 52 (nI 4) 53 := Or.inl ⟨4, by decide +kernel, by decide, rfl⟩
theorem dX3_init_53 : D0 mX3_init 53 (.newarray .int) 2 55 := ⟨by decide +kernel, rfl⟩
theorem dX3_init_55 : D0 mX3_init 55 (.putfield 34) 3 58 := ⟨by decide +kernel, rfl⟩
theorem dX3_init_58 : DLa mX3_init 58 0 59 := Or.inl ⟨0, by decide +kernel, rfl, rfl⟩
theorem dX3_init_59 : DKi mX3_init 59 (nI 4) 60 := Or.inl ⟨4, by decide +kernel, by decide, rfl⟩
theorem dX3_init_60 : D0 mX3_init 60 (.newarray .int) 2 62 := ⟨by decide +kernel, rfl⟩
theorem dX3_init_62 : D0 mX3_init 62 (.putfield 37) 3 65 := ⟨by decide +kernel, rfl⟩
theorem dX3_init_65 : DLa mX3_init 65 0 66 := Or.inl ⟨0, by decide +kernel, rfl, rfl⟩
theorem dX3_init_66 : DKi mX3_init 66 (nI 4) 67 := Or.inl ⟨4, by decide +kernel, by decide, rfl⟩
theorem dX3_init_67 : D0 mX3_init 67 (.newarray .int) 2 69 := ⟨by decide +kernel, rfl⟩
theorem dX3_init_69 : D0 mX3_init 69 (.putfield 40) 3 72 := ⟨by decide +kernel, rfl⟩
theorem dX3_init_72 : DLa mX3_init 72 0 73 := Or.inl ⟨0, by decide +kernel, rfl, rfl⟩
theorem dX3_init_73 : DKi mX3_init 73 (nI 4) 74 := Or.inl ⟨4, by decide +kernel, by decide, rfl⟩
theorem dX3_init_74 : D0 mX3_init 74 (.newarray .int) 2 76 := ⟨by decide +kernel, rfl⟩
theorem dX3_init_76 : D0 mX3_init 76 (.putfield 43) 3 79 := ⟨by decide +kernel, rfl⟩
theorem dX3_init_79 : D0 mX3_init 79 (.return_) 1 80 := ⟨by decide +kernel, rfl⟩
theorem dX4_init_0 : DLa mX4_init 0 0 1 := Or.inl ⟨0, by decide +kernel, rfl, rfl⟩
theorem dX4_init_1 : D0 mX4_init 1 (.invokespecial 3) 3 4 := ⟨by decide +kernel, rfl⟩
theorem dX4_init_4 : DLa mX4_init 4 0 5 := Or.inl ⟨0, by decide +kernel, rfl, rfl⟩
theorem dX4_init_5 : DKi mX4_init 5 (nI 1) 6 := Or.inl ⟨1, by decide +kernel, by decide, rfl⟩
theorem dX4_init_6 : D0 mX4_init 6 (.putfield 9) 3 9 := ⟨by decide +kernel, rfl⟩
theorem dX4_init_9 : DLa mX4_init 9 0 10 := Or.inl ⟨0, by decide +kernel, rfl, rfl⟩
theorem dX4_init_10 : DKi mX4_init 10 (nI 0) 11 := Or.inl ⟨0, by decide +kernel, by decide, rfl⟩
theorem dX4_init_11 : D0 mX4_init 11 (.putfield 15) 3 14 := ⟨by decide +kernel, rfl⟩
theorem dX4_init_14 : DLa mX4_init 14 0 15 := Or.inl ⟨0, by decide +kernel, rfl, rfl⟩
theorem dX4_init_15 : DKi mX4_init 15 (nI 0) 16 := Or.inl ⟨0, by decide +kernel, by decide, rfl⟩
theorem dX4_init_16 : D0 mX4_init 16 (.putfield 19) 3 19 := ⟨by decide +kernel, rfl⟩
theorem dX4_init_19 : DLa mX4_init 19 0 20 := Or.inl ⟨0, by decide +kernel, rfl, rfl⟩
theorem dX4_init_20 : DKi mX4_init 20 (nI 60) 22 := Or.inr (Or.inl ⟨60, by decide +kernel, by decide, rfl⟩)
theorem dX4_init_22 : D0 mX4_init 22 (.newarray .int) 2 24 := ⟨by decide +kernel, rfl⟩
theorem dX4_init_24 : D0 mX4_init 24 (.putfield 22) 3 27 := ⟨by decide +kernel, rfl⟩
theorem dX4_init_27 : D0 mX4_init 27 (.return_) 1 28 := ⟨by decide +kernel, rfl⟩
theorem dX5_init_0 : DLa mX5_init 0 0 1 := Or.inl ⟨0, by decide +kernel, rfl, rfl⟩
theorem dX5_init_1 : D0 mX5_init 1 (.invokespecial 3) 3 4 := ⟨by decide +kernel, rfl⟩
theorem dX5_init_4 : DLa mX5_init 4 0 5 := Or.inl ⟨0, by decide +kernel, rfl, rfl⟩
theorem dX5_init_5 : DKi mX5_init 5 (nI 8) 7 := Or.inr (Or.inl ⟨8, by decide +kernel, by decide, rfl⟩)
theorem dX5_init_7 : D0 mX5_init 7 (.newarray .int) 2 9 := ⟨by decide +kernel, rfl⟩
theorem dX5_init_9 : D0 mX5_init 9 (.putfield 9) 3 12 := ⟨by decide +kernel, rfl⟩
theorem dX5_init_12 : DLa mX5_init 12 0 13 := Or.inl ⟨0, by decide +kernel, rfl, rfl⟩
theorem dX5_init_13 : DKi mX5_init 13 (nI 40) 15 := Or.inr (Or.inl ⟨40, by decide +kernel, by decide, rfl⟩)
theorem dX5_init_15 : D0 mX5_init 15 (.newarray .int) 2 17 := ⟨by decide +kernel, rfl⟩
theorem dX5_init_17 : D0 mX5_init 17 (.putfield 15) 3 20 := ⟨by decide +kernel, rfl⟩
theorem dX5_init_20 : DLa mX5_init 20 0 21 := Or.inl ⟨0, by decide +kernel, rfl, rfl⟩
theorem dX5_init_21 : DKi mX5_init 21 (nI 64) 23 := Or.inr (Or.inl ⟨64, by decide +kernel, by decide, rfl⟩)
theorem dX5_init_23 : D0 mX5_init 23 (.newarray .int) 2 25 := ⟨by decide +kernel, rfl⟩
theorem dX5_init_25 : D0 mX5_init 25 (.putfield 18) 3 28 := ⟨by decide +kernel, rfl⟩
theorem dX5_init_28 : DLa mX5_init 28 0 29 := Or.inl ⟨0, by decide +kernel, rfl, rfl⟩
theorem dX5_init_29 : DKi mX5_init 29 (nI 256) 32 := Or.inr (Or.inr (Or.inl ⟨256, by decide +kernel, by decide, rfl⟩))
theorem dX5_init_32 : D0 mX5_init 32 (.newarray .int) 2 34 := ⟨by decide +kernel, rfl⟩
theorem dX5_init_34 : D0 mX5_init 34 (.putfield 21) 3 37 := ⟨by decide +kernel, rfl⟩
theorem dX5_init_37 : DLa mX5_init 37 0 38 := Or.inl ⟨0, by decide +kernel, rfl, rfl⟩
theorem dX5_init_38 : DKi mX5_init 38 (nI 8) 40 := Or.inr (Or.inl ⟨8, by decide +kernel, by decide, rfl⟩)
theorem dX5_init_40 : D0 mX5_init 40 (.newarray .int) 2 42 := ⟨by decide +kernel, rfl⟩
theorem dX5_init_42 : D0 mX5_init 42 (.putfield 24) 3 45 := ⟨by decide +kernel, rfl⟩
theorem dX5_init_45 : DKi mX5_init 45 (nI 0) 46 := Or.inl ⟨0, by decide +kernel, by decide, rfl⟩
theorem dX5_init_46 : DSi mX5_init 46 1 47 := ⟨by decide, Or.inl ⟨1, by decide +kernel, rfl, rfl⟩⟩
theorem dX5_init_47 : DLi mX5_init 47 1 48 := Or.inl ⟨1, by decide +kernel, rfl, rfl⟩
theorem dX5_init_48 : DKi mX5_init 48 (nI 8) 50 := Or.inr (Or.inl ⟨8, by decide +kernel, by decide, rfl⟩)
theorem dX5_init_50 : DCge mX5_init 50 66 53 := ⟨16, by decide +kernel, by decide, rfl⟩
theorem dX5_init_53 : DLa mX5_init 53 0 54 := Or.inl ⟨0, by decide +kernel, rfl, rfl⟩
theorem dX5_init_54 : D0 mX5_init 54 (.getfield 9) 3 57 := ⟨by decide +kernel, rfl⟩
theorem dX5_init_57 : DLi mX5_init 57 1 58 := Or.inl ⟨1, by decide +kernel, rfl, rfl⟩
theorem dX5_init_58 : DLi mX5_init 58 1 59 := Or.inl ⟨1, by decide +kernel, rfl, rfl⟩
theorem dX5_init_59 : D0 mX5_init 59 (.iastore) 1 60 := ⟨by decide +kernel, rfl⟩
theorem dX5_init_60 : DIn mX5_init 60 1 (nI 1) 63 := ⟨by decide, 1, by decide +kernel, by decide, rfl⟩
theorem dX5_init_63 : DG mX5_init 63 47 := ⟨(-16), by decide +kernel, by decide⟩
theorem dX5_init_66 : D0 mX5_init 66 (.return_) 1 67 := ⟨by decide +kernel, rfl⟩
theorem dX6_init_0 : DLa mX6_init 0 0 1 := Or.inl ⟨0, by decide +kernel, rfl, rfl⟩
theorem dX6_init_1 : D0 mX6_init 1 (.invokespecial 3) 3 4 := ⟨by decide +kernel, rfl⟩
theorem dX6_init_4 : DLa mX6_init 4 0 5 := Or.inl ⟨0, by decide +kernel, rfl, rfl⟩
theorem dX6_init_5 : DKi mX6_init 5 (nI 16) 7 := Or.inr (Or.inl ⟨16, by decide +kernel, by decide, rfl⟩)
theorem dX6_init_7 : D0 mX6_init 7 (.newarray .int) 2 9 := ⟨by decide +kernel, rfl⟩
theorem dX6_init_9 : D0 mX6_init 9 (.putfield 11) 3 12 := ⟨by decide +kernel, rfl⟩
theorem dX6_init_12 : DLa mX6_init 12 0 13 := Or.inl ⟨0, by decide +kernel, rfl, rfl⟩
theorem dX6_init_13 : DKi mX6_init 13 (nI 16) 15 := Or.inr (Or.inl ⟨16, by decide +kernel, by decide, rfl⟩)
theorem dX6_init_15 : D0 mX6_init 15 (.newarray .int) 2 17 := ⟨by decide +kernel, rfl⟩
theorem dX6_init_17 : D0 mX6_init 17 (.putfield 15) 3 20 := ⟨by decide +kernel, rfl⟩
theorem dX6_init_20 : D0 mX6_init 20 (.return_) 1 21 := ⟨by decide +kernel, rfl⟩
theorem dX7_init_0 : DLa mX7_init 0 0 1 := Or.inl ⟨0, by decide +kernel, rfl, rfl⟩
theorem dX7_init_1 : D0 mX7_init 1 (.invokespecial 1) 3 4 := ⟨by decide +kernel, rfl⟩
theorem dX7_init_4 : DLa mX7_init 4 0 5 := Or.inl ⟨0, by decide +kernel, rfl, rfl⟩
theorem dX7_init_5 : D0 mX7_init 5 (.new 7) 3 8 := ⟨by decide +kernel, rfl⟩
theorem dX7_init_8 : D0 mX7_init 8 (.dup) 1 9 := ⟨by decide +kernel, rfl⟩
theorem dX7_init_9 : D0 mX7_init 9 (.invokespecial 9) 3 12 := ⟨by decide +kernel, rfl⟩
theorem dX7_init_12 : D0 mX7_init 12 (.putfield 10) 3 15 := ⟨by decide +kernel, rfl⟩
theorem dX7_init_15 : DLa mX7_init 15 0 16 := Or.inl ⟨0, by decide +kernel, rfl, rfl⟩
theorem dX7_init_16 : D0 mX7_init 16 (.new 16) 3 19 := ⟨by decide +kernel, rfl⟩
theorem dX7_init_19 : D0 mX7_init 19 (.dup) 1 20 := ⟨by decide +kernel, rfl⟩
theorem dX7_init_20 : D0 mX7_init 20 (.invokespecial 18) 3 23 := ⟨by decide +kernel, rfl⟩
theorem dX7_init_23 : D0 mX7_init 23 (.putfield 19) 3 26 := ⟨by decide +kernel, rfl⟩
theorem dX7_init_26 : DLa mX7_init 26 0 27 := Or.inl ⟨0, by decide +kernel, rfl, rfl⟩
theorem dX7_init_27 : D0 mX7_init 27 (.new 23) 3 30 := ⟨by decide +kernel, rfl⟩
theorem dX7_init_30 : D0 mX7_init 30 (.dup) 1 31 := ⟨by decide +kernel, rfl⟩
theorem dX7_init_31 : D0 mX7_init 31 (.invokespecial 25) 3 34 := ⟨by decide +kernel, rfl⟩
theorem dX7_init_34 : D0 mX7_init 34 (.putfield 26) 3 37 := ⟨by decide +kernel, rfl⟩
theorem dX7_init_37 : DLa mX7_init 37 0 38 := Or.inl ⟨0, by decide +kernel, rfl, rfl⟩
theorem dX7_init_38 : D0 mX7_init 38 (.new 30) 3 41 := ⟨by decide +kernel, rfl⟩
theorem dX7_init_41 : D0 mX7_init 41 (.dup) 1 42 := ⟨by decide +kernel, rfl⟩
theorem dX7_init_42 : D0 mX7_init 42 (.invokespecial 32) 3 45 := ⟨by decide +kernel, rfl⟩
theorem dX7_init_45 : D0 mX7_init 45 (.putfield 33) 3 48 := ⟨by decide +kernel, rfl⟩
theorem dX7_init_48 : DLa mX7_init 48 0 49 := Or.inl ⟨0, by decide +kernel, rfl, rfl⟩
theorem dX7_init_49 : D0 mX7_init 49 (.new 30) 3 52 := ⟨by decide +kernel, rfl⟩
theorem dX7_init_52 : D0 mX7_init 52 (.dup) 1 53 := ⟨by decide +kernel, rfl⟩
theorem dX7_init_53 : D0 mX7_init 53 (.invokespecial 32) 3 56 := ⟨by decide +kernel, rfl⟩
theorem dX7_init_56 : D0 mX7_init 56 (.putfield 37) 3 59 := ⟨by decide +kernel, rfl⟩
theorem dX7_init_59 : DLa mX7_init 59 0 60 := Or.inl ⟨0, by decide +kernel, rfl, rfl⟩
theorem dX7_init_60 : D0 mX7_init 60 (.new 40) 3 63 := ⟨by decide +kernel, rfl⟩
theorem dX7_init_63 : D0 mX7_init 63 (.dup) 1 64 := ⟨by decide +kernel, rfl⟩
theorem dX7_init_64 : D0 mX7_init 64 (.invokespecial 42) 3 67 := ⟨by decide +kernel, rfl⟩
theorem dX7_init_67 : D0 mX7_init 67 (.putfield 43) 3 70 := ⟨by decide +kernel, rfl⟩
theorem dX7_init_70 : DLa mX7_init 70 0 71 := Or.inl ⟨0, by decide +kernel, rfl, rfl⟩
theorem dX7_init_71 : D0 mX7_init 71 (.new 47) 3 74 := ⟨by decide +kernel, rfl⟩
theorem dX7_init_74 : D0 mX7_init 74 (.dup) 1 75 := ⟨by decide +kernel, rfl⟩
theorem dX7_init_75 : D0 mX7_init 75 (.invokespecial 49) 3 78 := ⟨by decide +kernel, rfl⟩
theorem dX7_init_78 : D0 mX7_init 78 (.putfield 50) 3 81 := ⟨by decide +kernel, rfl⟩
theorem dX7_init_81 : DLa mX7_init 81 0 82 := Or.inl ⟨0, by decide +kernel, rfl, rfl⟩
theorem dX7_init_82 : DKi mX7_init 82 (nI 4) 83 := Or.inl ⟨4, by decide +kernel, by decide, rfl⟩
theorem dX7_init_83 : D0 mX7_init 83 (.anewarray 54) 3 86 := ⟨by decide +kernel, rfl⟩
theorem dX7_init_86 : D0 mX7_init 86 (.putfield 56) 3 89 := ⟨by decide +kernel, rfl⟩
theorem dX7_init_89 : DKi mX7_init 89 (nI 0) 90 := Or.inl ⟨0, by decide +kernel, by decide, rfl⟩
theorem dX7_init_90 : DSi mX7_init 90 1 91 := ⟨by decide, Or.inl ⟨1, by decide +kernel, rfl, rfl⟩⟩
theorem dX7_init_91 : DLi mX7_init 91 1 92 := Or.inl ⟨1, by decide +kernel, rfl, rfl⟩
theorem dX7_init_92 : DKi mX7_init 92 (nI 4) 93 := Or.inl ⟨4, by decide +kernel, by decide, rfl⟩
theorem dX7_init_93 : DCge mX7_init 93 115 96 := ⟨22, by decide +kernel, by decide, rfl⟩
theorem dX7_init_96 : DLa mX7_init 96 0 97 := Or.inl ⟨0, by decide +kernel, rfl, rfl⟩
theorem dX7_init_97 : D0 mX7_init 97 (.getfield 56) 3 100 := ⟨by decide +kernel, rfl⟩
theorem dX7_init_100 : DLi mX7_init 100 1 101 := Or.inl ⟨1, by decide +kernel, rfl, rfl⟩
theorem dX7_init_101 : D0 mX7_init 101 (.new 54) 3 104 := ⟨by decide +kernel, rfl⟩
theorem dX7_init_104 : D0 mX7_init 104 (.dup) 1 105 := ⟨by decide +kernel, rfl⟩
theorem dX7_init_105 : D0 mX7_init 105 (.invokespecial 60) 3 108 := ⟨by decide +kernel, rfl⟩
theorem dX7_init_108 : D0 mX7_init 108 (.aastore) 1 109 := ⟨by decide +kernel, rfl⟩
theorem dX7_init_109 : DIn mX7_init 109 1 (nI 1) 112 := ⟨by decide, 1, by decide +kernel, by decide, rfl⟩
theorem dX7_init_112 : DG mX7_init 112 91 := ⟨(-21), by decide +kernel, by decide⟩
theorem dX7_init_115 : D0 mX7_init 115 (.return_) 1 116 := ⟨by decide +kernel, rfl⟩
theorem dX8_init_0 : DLa mX8_init 0 0 1 := Or.inl ⟨0, by decide +kernel, rfl, rfl⟩
theorem dX8_init_1 : D0 mX8_init 1 (.invokespecial 1) 3 4 := ⟨by decide +kernel, rfl⟩
theorem dX8_init_4 : DLa mX8_init 4 0 5 := Or.inl ⟨0, by decide +kernel, rfl, rfl⟩
theorem dX8_init_5 : DKi mX8_init 5 (nI 60) 7 := Or.inr (Or.inl ⟨60, by decide +kernel, by decide, rfl⟩)
theorem dX8_init_7 : D0 mX8_init 7 (.newarray .int) 2 9 := ⟨by decide +kernel, rfl⟩
theorem dX8_init_9 : D0 mX8_init 9 (.putfield 7) 3 12 := ⟨by decide +kernel, rfl⟩
theorem dX8_init_12 : DLa mX8_init 12 0 13 := Or.inl ⟨0, by decide +kernel, rfl, rfl⟩
theorem dX8_init_13 : DKi mX8_init 13 (nI 8) 15 := Or.inr (Or.inl ⟨8, by decide +kernel, by decide, rfl⟩)
theorem dX8_init_15 : D0 mX8_init 15 (.newarray .int) 2 17 := ⟨by decide +kernel, rfl⟩
theorem dX8_init_17 : D0 mX8_init 17 (.putfield 13) 3 20 := ⟨by decide +kernel, rfl⟩
theorem dX8_init_20 : DLa mX8_init 20 0 21 := Or.inl ⟨0, by decide +kernel, rfl, rfl⟩
theorem dX8_init_21 : DKi mX8_init 21 (nI 8) 23 := Or.inr (Or.inl ⟨8, by decide +kernel, by decide, rfl⟩)
theorem dX8_init_23 : D0 mX8_init 23 (.newarray .int) 2 25 := ⟨by decide +kernel, rfl⟩
theorem dX8_init_25 : D0 mX8_init 25 (.putfield 16) 3 28 := ⟨by decide +kernel, rfl⟩
theorem dX8_init_28 : DLa mX8_init 28 0 29 := Or.inl ⟨0, by decide +kernel, rfl, rfl⟩
theorem dX8_init_29 : DKi mX8_init 29 (nI 16) 31 := Or.inr (Or.inl ⟨16, by decide +kernel, by decide, rfl⟩)
theorem dX8_init_31 : D0 mX8_init 31 (.newarray .int) 2 33 := ⟨by decide +kernel, rfl⟩
theorem dX8_init_33 : D0 mX8_init 33 (.putfield 19) 3 36 := ⟨by decide +kernel, rfl⟩
theorem dX8_init_36 : DLa mX8_init 36 0 37 := Or.inl ⟨0, by decide +kernel, rfl, rfl⟩
theorem dX8_init_37 : DKi mX8_init 37 (nI 8) 39 := Or.inr (Or.inl ⟨8, by decide +kernel, by decide, rfl⟩)
theorem dX8_init_39 : D0 mX8_init 39 (.newarray .int) 2 41 := ⟨by decide +kernel, rfl⟩
theorem dX8_init_41 : D0 mX8_init 41 (.putfield 22) 3 44 := ⟨by decide +kernel, rfl⟩
theorem dX8_init_44 : DLa mX8_init 44 0 45 := Or.inl ⟨0, by decide +kernel, rfl, rfl⟩
theorem dX8_init_45 : DKi mX8_init 45 (nI 60) 47 := Or.inr (Or.inl ⟨60, by decide +kernel, by decide, rfl⟩)
theorem dX8_init_47 : D0 mX8_init 47 (.newarray .int) 2 49 := ⟨by decide +kernel, rfl⟩
theorem dX8_init_49 : D0 mX8_init 49 (.putfield 25) 3 52 := ⟨by decide +kernel, rfl⟩
theorem dX8_init_52 : DLa mX8_init 52 0 53 := Or.inl ⟨0, by decide +kernel, rfl, rfl⟩
theorem dX8_init_53 : DKi mX8_init 53 (nI 60) 55 := Or.inr (Or.inl ⟨60, by decide +kernel, by decide, rfl⟩)
theorem dX8_init_55 : D0 mX8_init 55 (.newarray .int) 2 57 := ⟨by decide +kernel, rfl⟩
theorem dX8_init_57 : D0 mX8_init 57 (.putfield 28) 3 60 := ⟨by decide +kernel, rfl⟩
theorem dX8_init_60 : DLa mX8_init 60 0 61 := Or.inl ⟨0, by decide +kernel, rfl, rfl⟩
theorem dX8_init_61 : DKi mX8_init 61 (nI 60) 63 := Or.inr (Or.inl ⟨60, by decide +kernel, by decide, rfl⟩)
theorem dX8_init_63 : D0 mX8_init 63 (.newarray .int) 2 65 := ⟨by decide +kernel, rfl⟩
theorem dX8_init_65 : D0 mX8_init 65 (.putfield 31) 3 68 := ⟨by decide +kernel, rfl⟩
theorem dX8_init_68 : DLa mX8_init 68 0 69 := Or.inl ⟨0, by decide +kernel, rfl, rfl⟩
theorem dX8_init_69 : DKi mX8_init 69 (nI 60) 71 := Or.inr (Or.inl ⟨60, by decide +kernel, by decide, rfl⟩)
theorem dX8_init_71 : D0 mX8_init 71 (.newarray .int) 2 73 := ⟨by decide +kernel, rfl⟩
theorem dX8_init_73 : D0 mX8_init 73 (.putfield 34) 3 76 := ⟨by decide +kernel, rfl⟩
theorem dX8_init_76 : DLa mX8_init 76 0 77 := Or.inl ⟨0, by decide +kernel, rfl, rfl⟩
theorem dX8_init_77 : DKi mX8_init 77 (nI 3) 78 := Or.inl ⟨3, by decide +kernel, by decide, rfl⟩
theorem dX8_init_78 : D0 mX8_init 78 (.newarray .int) 2 80 := ⟨by decide +kernel, rfl⟩
theorem dX8_init_80 : D0 mX8_init 80 (.putfield 37) 3 83 := ⟨by decide +kernel, rfl⟩
theorem dX8_init_83 : DLa mX8_init 83 0 84 := Or.inl ⟨0, by decide +kernel, rfl, rfl⟩
theorem dX8_init_84 : DKi mX8_init 84 (nI 100) 86 := Or.inr (Or.inl ⟨100, by decide +kernel, by decide, rfl⟩)
theorem dX8_init_86 : D0 mX8_init 86 (.newarray .int) 2 88 := ⟨by decide +kernel, rfl⟩
theorem dX8_init_88 : D0 mX8_init 88 (.putfield 40) 3 91 := ⟨by decide +kernel, rfl⟩
theorem dX8_init_91 : DLa mX8_init 91 0 92 := Or.inl ⟨0, by decide +kernel, rfl, rfl⟩
theorem dX8_init_92 : DKi mX8_init 92 (nI 16) 94 := Or.inr (Or.inl ⟨16, by decide +kernel, by decide, rfl⟩)
theorem dX8_init_94 : D0 mX8_init 94 (.newarray .long) 2 96 := ⟨by decide +kernel, rfl⟩
theorem dX8_init_96 : D0 mX8_init 96 (.putfield 43) 3 99 := ⟨by decide +kernel, rfl⟩
theorem dX8_init_99 : DLa mX8_init 99 0 100 := Or.inl ⟨0, by decide +kernel, rfl, rfl⟩
theorem dX8_init_100 : DKi mX8_init 100 (nI 32) 102 := Or.inr (Or.inl ⟨32, by decide +kernel, by decide, rfl⟩)
theorem dX8_init_102 : D0 mX8_init 102 (.newarray .int) 2 104 := ⟨by decide +kernel, rfl⟩
theorem dX8_init_104 : D0 mX8_init 104 (.putfield 47) 3 107 := ⟨by decide +kernel, rfl⟩
theorem dX8_init_107 : DLa mX8_init 107 0 108 := Or.inl ⟨0, by decide +kernel, rfl, rfl⟩
theorem dX8_init_108 : DKi mX8_init 108 (nI 16) 110 := Or.inr (Or.inl ⟨16, by decide +kernel, by decide, rfl⟩)
theorem dX8_init_110 : D0 mX8_init 110 (.newarray .int) 2 112 := ⟨by decide +kernel, rfl⟩
theorem dX8_init_112 : D0 mX8_init 112 (.putfield 50) 3 115 := ⟨by decide +kernel, rfl⟩
theorem dX8_init_115 : DLa mX8_init 115 0 116 := Or.inl ⟨0, by decide +kernel, rfl, rfl⟩
theorem dX8_init_116 : DKi mX8_init 116 (nI 40) 118 := Or.inr (Or.inl ⟨40, by decide +kernel, by decide, rfl⟩)
theorem dX8_init_118 : D0 mX8_init 118 (.newarray .int) 2 120 := ⟨by decide +kernel, rfl⟩
theorem dX8_init_120 : D0 mX8_init 120 (.putfield 53) 3 123 := ⟨by decide +kernel, rfl⟩
theorem dX8_init_123 : DLa mX8_init 123 0 124 := Or.inl ⟨0, by decide +kernel, rfl, rfl⟩
theorem dX8_init_124 : DKi mX8_init 124 (nI 8) 126 := Or.inr (Or.inl ⟨8, by decide +kernel, by decide, rfl⟩)
theorem dX8_init_126 : D0 mX8_init 126 (.newarray .int) 2 128 := ⟨by decide +kernel, rfl⟩
theorem dX8_init_128 : D0 mX8_init 128 (.putfield 56) 3 131 := ⟨by decide +kernel, rfl⟩
theorem dX8_init_131 : DLa mX8_init 131 0 132 := Or.inl ⟨0, by decide +kernel, rfl, rfl⟩
theorem dX8_init_132 : DKi mX8_init 132 (nI 64) 134 := Or.inr (Or.inl ⟨64, by decide +kernel, by decide, rfl⟩)
theorem dX8_init_134 : D0 mX8_init 134 (.newarray .int) 2 136 := ⟨by decide +kernel, rfl⟩
theorem dX8_init_136 : D0 mX8_init 136 (.putfield 59) 3 139 := ⟨by decide +kernel, rfl⟩
theorem dX8_init_139 : DLa mX8_init 139 0 140 := Or.inl ⟨0, by decide +kernel, rfl, rfl⟩
theorem dX8_init_140 : DKi mX8_init 140 (nI 256) 143 := Or.inr (Or.inr (Or.inl ⟨256, by decide +kernel, by decide, rfl⟩))
theorem dX8_init_143 : D0 mX8_init 143 (.newarray .int) 2 145 := ⟨by decide +kernel, rfl⟩
theorem dX8_init_145 : D0 mX8_init 145 (.putfield 62) 3 148 := ⟨by decide +kernel, rfl⟩
theorem dX8_init_148 : DLa mX8_init 148 0 149 := Or.inl ⟨0, by decide +kernel, rfl, rfl⟩
theorem dX8_init_149 : DKi mX8_init 149 (nI 8) 151 := Or.inr (Or.inl ⟨8, by decide +kernel, by decide, rfl⟩)
theorem dX8_init_151 : D0 mX8_init 151 (.newarray .int) 2 153 := ⟨by decide +kernel, rfl⟩
theorem dX8_init_153 : D0 mX8_init 153 (.putfield 65) 3 156 := ⟨by decide +kernel, rfl⟩
theorem dX8_init_156 : DLa mX8_init 156 0 157 := Or.inl ⟨0, by decide +kernel, rfl, rfl⟩
theorem dX8_init_157 : DKi mX8_init 157 (nI 8) 159 := Or.inr (Or.inl ⟨8, by decide +kernel, by decide, rfl⟩)
theorem dX8_init_159 : D0 mX8_init 159 (.newarray .int) 2 161 := ⟨by decide +kernel, rfl⟩
theorem dX8_init_161 : D0 mX8_init 161 (.putfield 68) 3 164 := ⟨by decide +kernel, rfl⟩
theorem dX8_init_164 : DLa mX8_init 164 0 165 := Or.inl ⟨0, by decide +kernel, rfl, rfl⟩
theorem dX8_init_165 : DKi mX8_init 165 (nI 4) 166 := Or.inl ⟨4, by decide +kernel, by decide, rfl⟩
theorem dX8_init_166 : D0 mX8_init 166 (.newarray .boolean) 2 168 := ⟨by decide +kernel, rfl⟩
theorem dX8_init_168 : D0 mX8_init 168 (.putfield 71) 3 171 := ⟨by decide +kernel, rfl⟩
theorem dX8_init_171 : DLa mX8_init 171 0 172 := Or.inl ⟨0, by decide +kernel, rfl, rfl⟩
theorem dX8_init_172 : DKi mX8_init 172 (nI 4) 173 := Or.inl ⟨4, by decide +kernel, by decide, rfl⟩
theorem dX8_init_173 : D0 mX8_init 173 (.newarray .int) 2 175 := ⟨by decide +kernel, rfl⟩
theorem dX8_init_175 : D0 mX8_init 175 (.putfield 75) 3 178 := ⟨by decide +kernel, rfl⟩
theorem dX8_init_178 : DLa mX8_init 178 0 179 := Or.inl ⟨0, by decide +kernel, rfl, rfl⟩
theorem dX8_init_179 : DKi mX8_init 179 (nI 4) 180 := Or.inl ⟨4, by decide +kernel, by decide, rfl⟩
theorem dX8_init_180 : D0 mX8_init 180 (.newarray .int) 2 182 := ⟨by decide +kernel, rfl⟩
theorem dX8_init_182 : D0 mX8_init 182 (.putfield 78) 3 185 := ⟨by decide +kernel, rfl⟩
theorem dX8_init_185 : DLa mX8_init 185 0 186 := Or.inl ⟨0, by decide +kernel, rfl, rfl⟩
theorem dX8_init_186 : DKi mX8_init 186 (nI 240) 189 := Or.inr (Or.inr (Or.inl ⟨240, by decide +kernel, by decide, rfl⟩))
theorem dX8_init_189 : D0 mX8_init 189 (.newarray .int) 2 191 := ⟨by decide +kernel, rfl⟩
theorem dX8_init_191 : D0 mX8_init 191 (.putfield 81) 3 194 := ⟨by decide +kernel, rfl⟩
theorem dX8_init_194 : DLa mX8_init 194 0 195 := Or.inl ⟨0, by decide +kernel, rfl, rfl⟩
theorem dX8_init_195 : DKi mX8_init 195 (nI 60) 197 := Or.inr (Or.inl ⟨60, by decide +kernel, by decide, rfl⟩)
theorem dX8_init_197 : D0 mX8_init 197 (.newarray .int) 2 199 := ⟨by decide +kernel, rfl⟩
theorem dX8_init_199 : D0 mX8_init 199 (.putfield 84) 3 202 := ⟨by decide +kernel, rfl⟩
theorem dX8_init_202 : DLa mX8_init 202 0 203 := Or.inl ⟨0, by decide +kernel, rfl, rfl⟩
theorem dX8_init_203 : D0 mX8_init 203 (.getfield 37) 3 206 := ⟨by decide +kernel, rfl⟩
theorem dX8_init_206 : DKi mX8_init 206 (nI 0) 207 := Or.inl ⟨0, by decide +kernel, by decide, rfl⟩
theorem dX8_init_207 : DKi mX8_init 207 (nI 999) 210 := Or.inr (Or.inr (Or.inl ⟨999, by decide +kernel, by decide, rfl⟩))
theorem dX8_init_210 : D0 mX8_init 210 (.iastore) 1 211 := ⟨by decide +kernel, rfl⟩
theorem dX8_init_211 : DKi mX8_init 211 (nI 0) 212 := Or.inl ⟨0, by decide +kernel, by decide, rfl⟩
theorem dX8_init_212 : DSi mX8_init 212 1 213 := ⟨by decide, Or.inl ⟨1, by decide +kernel, rfl, rfl⟩⟩
theorem dX8_init_213 : DLi mX8_init 213 1 214 := Or.inl ⟨1, by decide +kernel, rfl, rfl⟩
theorem dX8_init_214 : DKi mX8_init 214 (nI 8) 216 := Or.inr (Or.inl ⟨8, by decide +kernel, by decide, rfl⟩)
theorem dX8_init_216 : DCge mX8_init 216 239 219 := ⟨23, by decide +kernel, by decide, rfl⟩
theorem dX8_init_219 : DLa mX8_init 219 0 220 := Or.inl ⟨0, by decide +kernel, rfl, rfl⟩
theorem dX8_init_220 : D0 mX8_init 220 (.getfield 56) 3 223 := ⟨by decide +kernel, rfl⟩
theorem dX8_init_223 : DLi mX8_init 223 1 224 := Or.inl ⟨1, by decide +kernel, rfl, rfl⟩
theorem dX8_init_224 : DLi mX8_init 224 1 225 := Or.inl ⟨1, by decide +kernel, rfl, rfl⟩
theorem dX8_init_225 : D0 mX8_init 225 (.iastore) 1 226 := ⟨by decide +kernel, rfl⟩
theorem dX8_init_226 : DLa mX8_init 226 0 227 := Or.inl ⟨0, by decide +kernel, rfl, rfl⟩
theorem dX8_init_227 : D0 mX8_init 227 (.getfield 65) 3 230 := ⟨by decide +kernel, rfl⟩
theorem dX8_init_230 : DLi mX8_init 230 1 231 := Or.inl ⟨1, by decide +kernel, rfl, rfl⟩
theorem dX8_init_231 : DKi mX8_init 231 ((-1)) 232 := Or.inl ⟨(-1), by decide +kernel, by decide, rfl⟩
theorem dX8_init_232 : D0 mX8_init 232 (.iastore) 1 233 := ⟨by decide +kernel, rfl⟩
theorem dX8_init_233 : DIn mX8_init 233 1 (nI 1) 236 := ⟨by decide, 1, by decide +kernel, by decide, rfl⟩
theorem dX8_init_236 : DG mX8_init 236 213 := ⟨(-23), by decide +kernel, by decide⟩
theorem dX8_init_239 : D0 mX8_init 239 (.return_) 1 240 := ⟨by decide +kernel, rfl⟩
