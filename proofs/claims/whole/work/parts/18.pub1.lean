set_option maxHeartbeats 4000000 in
theorem c_X7_fault (ρ : Rho) (σ : Sg)  (hC : CInv σ ρ) : CallOK 0 mX7_fault [.ref 0] ρ (fun r ρ2 => ∃ v, r = some v ∧ (v = .int (Flt σ) ∧ CInv (σ) ρ2 ∧ EqM ρ ρ2)) := by
  refine callOK_of 0 (by decide +kernel) rfl (fun _ => Nat.le_of_ble_eq_true rfl) (ls := [some (.ref 0)]) rfl ?_
  generalize hQ : (fun r ρ2 => ∃ v, r = some v ∧ (v = .int (Flt σ) ∧ CInv (σ) ρ2 ∧ EqM ρ ρ2) : Option Value → Rho → Prop) = Q
  refine w_al dX7_fault_0 rfl ?_
  refine w_gr dX7_fault_1 fl_X7_10 sh0 rfl ?_
  refine w_giV (v := (Flt σ)) dX7_fault_4 fl_X7_73 sh1 rfl (hC.2.1.2.2.2.2) ?_
  refine w_iret dX7_fault_7 rfl ?_
  rw [← hQ]
  exact ⟨_, rfl, rfl, ⟨hC.1, hC.2.1, hC.2.2⟩, EqM.rf⟩

set_option maxHeartbeats 4000000 in
theorem c_X8_fault (ρ : Rho) (σ : Sg)  (hM : MInv σ ρ) : CallOK 4 mX8_fault [.ref 47] ρ (fun r ρ2 => ∃ v, r = some v ∧ (v = .int (Flt σ) ∧ MInv (σ) ρ2 ∧ EqC ρ ρ2)) := by
  refine callOK_of 0 (by decide +kernel) rfl (fun _ => Nat.le_of_ble_eq_true rfl) (ls := [some (.ref 47)]) rfl ?_
  generalize hQ : (fun r ρ2 => ∃ v, r = some v ∧ (v = .int (Flt σ) ∧ MInv (σ) ρ2 ∧ EqC ρ ρ2) : Option Value → Rho → Prop) = Q
  refine w_al dX8_fault_0 rfl ?_
  refine w_cVr dX8_fault_1 (vl_X8_115 _ rfl) sh47 (by decide) (c_X8_faultNow ρ σ hM) rfl rfl (Nat.le_of_ble_eq_true rfl) (fun vf1 ρf1 hf1 => ?_)
  obtain ⟨rfl, hMf1, hEf1, hLf1⟩ := hf1
  refine w_iret dX8_fault_4 rfl ?_
  rw [← hQ]
  exact ⟨_, rfl, rfl, hMf1, (EqC.tr EqC.rf hEf1)⟩

set_option maxHeartbeats 4000000 in
theorem c_X7_turn (ρ : Rho) (σ : Sg) (d : Int32) (hC : CInv σ ρ) : CallOK 2 mX7_turn [.ref 0, .int d] ρ (fun r ρ2 => ∃ v, r = some v ∧ (v = .int (r_turn σ d) ∧ CInv (σ) ρ2 ∧ EqM ρ ρ2)) := by
  refine callOK_of 0 (by decide +kernel) rfl (fun _ => Nat.le_of_ble_eq_true rfl) (ls := [some (.ref 0), some (.int d)]) rfl ?_
  generalize hQ : (fun r ρ2 => ∃ v, r = some v ∧ (v = .int (r_turn σ d) ∧ CInv (σ) ρ2 ∧ EqM ρ ρ2) : Option Value → Rho → Prop) = Q
  refine w_il dX7_turn_0 rfl ?_
  refine w_cSf dX7_turn_1 (sl_X7_87 _ rfl) (by decide) (c_X7_isDay ρ d) rfl rfl (Nat.le_of_ble_eq_true rfl) ?_
  refine w_ifeqB dX7_turn_4 (fun h4 => ?_) (fun h4 => ?_)
  · --t
    refine w_k dX7_turn_19 ?_
    refine w_iret dX7_turn_21 rfl ?_
    rw [← hQ]
    exact ⟨_, rfl, by rw [r_turn, if_neg (fun z => h4 z)], ⟨hC.1, hC.2.1, hC.2.2⟩, EqM.rf⟩
  · --f
    obtain ⟨a, ha, rfl⟩ := inR_nI h4 (by decide)
    refine w_al dX7_turn_7 rfl ?_
    refine w_gr dX7_turn_8 fl_X7_19 sh0 rfl ?_
    refine w_gr dX7_turn_11 fl_X7_98 sh10 rfl ?_
    refine w_il dX7_turn_14 rfl ?_
    refine w_ialdV (v := (nI (Tn σ a))) dX7_turn_15 sh15 (by omega) (hC.2.2 _ (by omega)) ?_
    refine w_goto dX7_turn_16 ?_
    refine w_iret dX7_turn_21 rfl ?_
    rw [← hQ]
    exact ⟨_, rfl, by rw [r_turn, if_pos h4, nv_nI (by omega)], ⟨hC.1, hC.2.1, hC.2.2⟩, EqM.rf⟩

set_option maxHeartbeats 4000000 in
theorem c_X8_turnOf (ρ : Rho) (σ : Sg) (a : Nat) (hM : MInv σ ρ) (ha : a < 100) : CallOK 5 mX8_turnOf [.ref 47, .int (nI a)] ρ (fun r ρ2 => ∃ v, r = some v ∧ (v = .int (nI (Tn σ a)) ∧ MInv σ ρ2 ∧ EqC ρ ρ2)) := by
  refine callOK_of 0 (by decide +kernel) rfl (fun _ => Nat.le_of_ble_eq_true rfl) (ls := [some (.ref 47), some (.int (nI a))]) rfl ?_
  generalize hQ : (fun r ρ2 => ∃ v, r = some v ∧ (v = .int (nI (Tn σ a)) ∧ MInv σ ρ2 ∧ EqC ρ ρ2) : Option Value → Rho → Prop) = Q
  refine w_al dX8_turnOf_0 rfl ?_
  refine w_cVu dX8_turnOf_1 (vl_X8_145 _ rfl) sh47 (by decide) (c_X8_lays ρ σ hM) rfl rfl (Nat.le_of_ble_eq_true rfl) (fun ρl1 hl1 => ?_)
  obtain ⟨hMl1, hEl1, hDl1⟩ := hl1
  refine w_al dX8_turnOf_4 rfl ?_
  refine w_gr dX8_turnOf_5 fl_X8_40 sh47 rfl ?_
  refine w_il dX8_turnOf_8 rfl ?_
  refine w_ialdV (v := (nI (Tn σ a))) dX8_turnOf_9 sh58 (by omega) (hDl1.2 _ (by omega)) ?_
  refine w_iret dX8_turnOf_10 rfl ?_
  rw [← hQ]
  exact ⟨_, rfl, rfl, hMl1, (EqC.tr EqC.rf hEl1)⟩

set_option maxHeartbeats 4000000 in
theorem c_X8_turn (ρ : Rho) (σ : Sg) (d : Int32) (hM : MInv σ ρ) : CallOK 6 mX8_turn [.ref 47, .int d] ρ (fun r ρ2 => ∃ v, r = some v ∧ (v = .int (r_turn σ d) ∧ MInv (σ) ρ2 ∧ EqC ρ ρ2)) := by
  refine callOK_of 0 (by decide +kernel) rfl (fun _ => Nat.le_of_ble_eq_true rfl) (ls := [some (.ref 47), some (.int d)]) rfl ?_
  generalize hQ : (fun r ρ2 => ∃ v, r = some v ∧ (v = .int (r_turn σ d) ∧ MInv (σ) ρ2 ∧ EqC ρ ρ2) : Option Value → Rho → Prop) = Q
  refine w_il dX8_turn_0 rfl ?_
  refine w_cSf dX8_turn_1 (sl_X8_148 _ rfl) (by decide) (c_X8_isDay ρ d) rfl rfl (Nat.le_of_ble_eq_true rfl) ?_
  refine w_ifeqB dX8_turn_4 (fun h4 => ?_) (fun h4 => ?_)
  · --t
    refine w_k dX8_turn_15 ?_
    refine w_iret dX8_turn_17 rfl ?_
    rw [← hQ]
    exact ⟨_, rfl, by rw [r_turn, if_neg (fun z => h4 z)], hM, EqC.rf⟩
  · --f
    obtain ⟨a, ha, rfl⟩ := inR_nI h4 (by decide)
    refine w_al dX8_turn_7 rfl ?_
    refine w_il dX8_turn_8 rfl ?_
    refine w_cVr dX8_turn_9 (vl_X8_151 _ rfl) sh47 (by decide) (c_X8_turnOf ρ σ a hM (by omega)) rfl rfl (Nat.le_of_ble_eq_true rfl) (fun vh1 ρh1 hh1 => ?_)
    obtain ⟨rfl, hMh1, hEh1⟩ := hh1
    refine w_goto dX8_turn_12 ?_
    refine w_iret dX8_turn_17 rfl ?_
    rw [← hQ]
    exact ⟨_, rfl, by rw [r_turn, if_pos h4, nv_nI (by omega)], hMh1, (EqC.tr EqC.rf hEh1)⟩

set_option maxHeartbeats 4000000 in
theorem c_X7_place (ρ : Rho) (σ : Sg) (p : Int32) (q : Int32) (hC : CInv σ ρ) : CallOK 1 mX7_place [.ref 0, .int p, .int q] ρ (fun r ρ2 => ∃ v, r = some v ∧ (v = .int (r_place σ p q) ∧ CInv (σ) ρ2 ∧ EqM ρ ρ2)) := by
  refine callOK_of 0 (by decide +kernel) rfl (fun _ => Nat.le_of_ble_eq_true rfl) (ls := [some (.ref 0), some (.int p), some (.int q)]) rfl ?_
  generalize hQ : (fun r ρ2 => ∃ v, r = some v ∧ (v = .int (r_place σ p q) ∧ CInv (σ) ρ2 ∧ EqM ρ ρ2) : Option Value → Rho → Prop) = Q
  have w1 := fun i => Cl_le σ i
  refine w_il dX7_place_0 rfl ?_
  refine w_k dX7_place_1 ?_
  refine w_cSf dX7_place_3 (sl_X7_61 _ rfl) (by decide) (c_X7_within ρ p (nI 7)) rfl rfl (Nat.le_of_ble_eq_true rfl) ?_
  refine w_ifeqB dX7_place_6 (fun h6 => ?_) (fun h6 => ?_)
  · --t
    refine w_k dX7_place_17 ?_
    refine w_iret dX7_place_19 rfl ?_
    rw [← hQ]
    exact ⟨_, rfl, by rw [r_place, if_neg (fun z => h6 z.1)], ⟨hC.1, hC.2.1, hC.2.2⟩, EqM.rf⟩
  · --f
    obtain ⟨x, hx, rfl⟩ := inR_nI h6 (by decide)
    refine w_il dX7_place_9 rfl ?_
    refine w_k dX7_place_10 ?_
    refine w_cSf dX7_place_11 (sl_X7_61 _ rfl) (by decide) (c_X7_within ρ q (nI 2)) rfl rfl (Nat.le_of_ble_eq_true rfl) ?_
    refine w_ifneB dX7_place_14 (fun h14 => ?_) (fun h14 => ?_)
    · --t
      obtain ⟨y, hy, rfl⟩ := inR_nI h14 (by decide)
      refine w_il dX7_place_20 rfl ?_
      refine w_ifneN dX7_place_21 (by omega) (fun h21 => ?_) (fun h21 => ?_)
      · --t
        refine w_il dX7_place_34 rfl ?_
        refine w_k dX7_place_35 ?_
        refine w_icneN dX7_place_36 (by omega) (by omega) (fun h36 => ?_) (fun h36 => ?_)
        · --t
          refine w_al dX7_place_53 rfl ?_
          refine w_gr dX7_place_54 fl_X7_10 sh0 rfl ?_
          refine w_gr dX7_place_57 fl_X7_84 sh1 rfl ?_
          refine w_il dX7_place_60 rfl ?_
          refine w_ialdV (v := (nI (σ.1 52 x))) dX7_place_61 sh5 (by omega) (hC.1.2.1 (5, 52) (by decide) _) ?_
          refine w_iret dX7_place_62 rfl ?_
          rw [← hQ]
          exact ⟨_, rfl, by rw [r_place, if_pos ⟨h6, h14⟩, nv_nI (by omega), nv_nI (by omega), v_place, if_neg h21, if_neg h36], ⟨hC.1, hC.2.1, hC.2.2⟩, EqM.rf⟩
        · --f
          have w2 := Cl_le σ x
          refine w_k dX7_place_39 ?_
          refine w_al dX7_place_40 rfl ?_
          refine w_gr dX7_place_41 fl_X7_10 sh0 rfl ?_
          refine w_gr dX7_place_44 fl_X7_81 sh1 rfl ?_
          refine w_il dX7_place_47 rfl ?_
          refine w_ialdV (v := (nI (Cl σ x))) dX7_place_48 sh4 (by omega) (hC.2.1.2.1 _ (by omega)) ?_
          refine w_isubN dX7_place_49 (by omega) ?_
          refine w_goto dX7_place_50 ?_
          refine w_iret dX7_place_62 rfl ?_
          rw [← hQ]
          exact ⟨_, rfl, by rw [r_place, if_pos ⟨h6, h14⟩, nv_nI (by omega), nv_nI (by omega), v_place, if_neg h21, if_pos h36], ⟨hC.1, hC.2.1, hC.2.2⟩, EqM.rf⟩
      · --f
        refine w_al dX7_place_24 rfl ?_
        refine w_gr dX7_place_25 fl_X7_10 sh0 rfl ?_
        refine w_gr dX7_place_28 fl_X7_77 sh1 rfl ?_
        refine w_il dX7_place_31 rfl ?_
        refine w_ialdV (v := (nI (Th σ x))) dX7_place_32 sh3 (by omega) (hC.2.1.1 _ (by omega)) ?_
        refine w_iret dX7_place_33 rfl ?_
        rw [← hQ]
        exact ⟨_, rfl, by rw [r_place, if_pos ⟨h6, h14⟩, nv_nI (by omega), nv_nI (by omega), v_place, if_pos h21], ⟨hC.1, hC.2.1, hC.2.2⟩, EqM.rf⟩
    · --f
      refine w_k dX7_place_17 ?_
      refine w_iret dX7_place_19 rfl ?_
      rw [← hQ]
      exact ⟨_, rfl, by rw [r_place, if_neg (fun z => h14 z.2)], ⟨hC.1, hC.2.1, hC.2.2⟩, EqM.rf⟩

set_option maxHeartbeats 4000000 in
theorem c_X8_placeOf (ρ : Rho) (σ : Sg) (x : Nat) (y : Nat) (hM : MInv σ ρ) (hx : x < 8) (hy : y < 3) : CallOK 4 mX8_placeOf [.ref 47, .int (nI x), .int (nI y)] ρ (fun r ρ2 => ∃ v, r = some v ∧ (v = .int (nI (v_place σ x y)) ∧ MInv σ ρ2 ∧ EqC ρ ρ2)) := by
  refine callOK_of 1 (by decide +kernel) rfl (fun _ => Nat.le_of_ble_eq_true rfl) (ls := [some (.ref 47), some (.int (nI x)), some (.int (nI y)), none]) rfl ?_
  generalize hQ : (fun r ρ2 => ∃ v, r = some v ∧ (v = .int (nI (v_place σ x y)) ∧ MInv σ ρ2 ∧ EqC ρ ρ2) : Option Value → Rho → Prop) = Q
  refine w_al dX8_placeOf_0 rfl ?_
  refine w_cVr dX8_placeOf_1 (vl_X8_115 _ rfl) sh47 (by decide) (c_X8_faultNow ρ σ hM) rfl rfl (Nat.le_of_ble_eq_true rfl) (fun vf1 ρf1 hf1 => ?_)
  obtain ⟨rfl, hMf1, hEf1, hLf1⟩ := hf1
  refine w_is (ls2 := [some (.ref 47), some (.int (nI x)), some (.int (nI y)), some (.int (Flt σ))]) dX8_placeOf_4 rfl ?_
  refine w_il dX8_placeOf_5 rfl ?_
  refine w_ifneN dX8_placeOf_6 (by omega) (fun h6 => ?_) (fun h6 => ?_)
  · --t
    refine w_il dX8_placeOf_18 rfl ?_
    refine w_k dX8_placeOf_19 ?_
    refine w_icneN dX8_placeOf_20 (by omega) (by omega) (fun h20 => ?_) (fun h20 => ?_)
    · --t
      refine w_al dX8_placeOf_34 rfl ?_
      refine w_gr dX8_placeOf_35 fl_X8_22 sh47 rfl ?_
      refine w_il dX8_placeOf_38 rfl ?_
      refine w_ialdV (v := (nI (σ.1 52 x))) dX8_placeOf_39 sh52 (by omega) (hMf1.2.1 52 (by decide) _) ?_
      refine w_iret dX8_placeOf_40 rfl ?_
      rw [← hQ]
      exact ⟨_, rfl, by rw [v_place, if_neg h6, if_neg h20], hMf1, (EqC.tr EqC.rf hEf1)⟩
    · --f
      have w2 := Cl_le σ x
      refine w_k dX8_placeOf_23 ?_
      refine w_al dX8_placeOf_24 rfl ?_
      refine w_gr dX8_placeOf_25 fl_X8_16 sh47 rfl ?_
      refine w_il dX8_placeOf_28 rfl ?_
      refine w_ialdV (v := (nI (Cl σ x))) dX8_placeOf_29 sh50 (by omega) (hLf1.2.1 _ (by omega)) ?_
      refine w_isubN dX8_placeOf_30 (by omega) ?_
      refine w_goto dX8_placeOf_31 ?_
      refine w_iret dX8_placeOf_40 rfl ?_
      rw [← hQ]
      exact ⟨_, rfl, by rw [v_place, if_neg h6, if_pos h20], hMf1, (EqC.tr EqC.rf hEf1)⟩
  · --f
    refine w_al dX8_placeOf_9 rfl ?_
    refine w_gr dX8_placeOf_10 fl_X8_13 sh47 rfl ?_
    refine w_il dX8_placeOf_13 rfl ?_
    refine w_ialdV (v := (nI (Th σ x))) dX8_placeOf_14 sh49 (by omega) (hLf1.1 _ (by omega)) ?_
    refine w_goto dX8_placeOf_15 ?_
    refine w_iret dX8_placeOf_40 rfl ?_
    rw [← hQ]
    exact ⟨_, rfl, by rw [v_place, if_pos h6], hMf1, (EqC.tr EqC.rf hEf1)⟩

set_option maxHeartbeats 4000000 in
theorem c_X8_place (ρ : Rho) (σ : Sg) (p : Int32) (q : Int32) (hM : MInv σ ρ) : CallOK 5 mX8_place [.ref 47, .int p, .int q] ρ (fun r ρ2 => ∃ v, r = some v ∧ (v = .int (r_place σ p q) ∧ MInv (σ) ρ2 ∧ EqC ρ ρ2)) := by
  refine callOK_of 0 (by decide +kernel) rfl (fun _ => Nat.le_of_ble_eq_true rfl) (ls := [some (.ref 47), some (.int p), some (.int q)]) rfl ?_
  generalize hQ : (fun r ρ2 => ∃ v, r = some v ∧ (v = .int (r_place σ p q) ∧ MInv (σ) ρ2 ∧ EqC ρ ρ2) : Option Value → Rho → Prop) = Q
  refine w_il dX8_place_0 rfl ?_
  refine w_cSf dX8_place_1 (sl_X8_118 _ rfl) (by decide) (c_X8_isEighth ρ p) rfl rfl (Nat.le_of_ble_eq_true rfl) ?_
  refine w_ifeqB dX8_place_4 (fun h4 => ?_) (fun h4 => ?_)
  · --t
    refine w_k dX8_place_25 ?_
    refine w_iret dX8_place_27 rfl ?_
    rw [← hQ]
    exact ⟨_, rfl, by rw [r_place, if_neg (fun z => h4 z.1)], hM, EqC.rf⟩
  · --f
    obtain ⟨x, hx, rfl⟩ := inR_nI h4 (by decide)
    refine w_il dX8_place_7 rfl ?_
    refine w_k dX8_place_8 ?_
    refine w_k dX8_place_9 ?_
    refine w_cSf dX8_place_10 (sl_X8_89 _ rfl) (by decide) (c_X8_in ρ q (nI 0) (nI 2)) rfl rfl (Nat.le_of_ble_eq_true rfl) ?_
    refine w_ifeqB dX8_place_13 (fun h13 => ?_) (fun h13 => ?_)
    · --t
      refine w_k dX8_place_25 ?_
      refine w_iret dX8_place_27 rfl ?_
      rw [← hQ]
      exact ⟨_, rfl, by rw [r_place, if_neg (fun z => h13 z.2)], hM, EqC.rf⟩
    · --f
      obtain ⟨y, hy, rfl⟩ := inR_nI h13 (by decide)
      refine w_al dX8_place_16 rfl ?_
      refine w_il dX8_place_17 rfl ?_
      refine w_il dX8_place_18 rfl ?_
      refine w_cVr dX8_place_19 (vl_X8_122 _ rfl) sh47 (by decide) (c_X8_placeOf ρ σ x y hM (by omega) (by omega)) rfl rfl (Nat.le_of_ble_eq_true rfl) (fun vh1 ρh1 hh1 => ?_)
      obtain ⟨rfl, hMh1, hEh1⟩ := hh1
      refine w_goto dX8_place_22 ?_
      refine w_iret dX8_place_27 rfl ?_
      rw [← hQ]
      exact ⟨_, rfl, by rw [r_place, if_pos ⟨h4, h13⟩, nv_nI (by omega), nv_nI (by omega)], hMh1, (EqC.tr EqC.rf hEh1)⟩

set_option maxHeartbeats 4000000 in
theorem c_X8_doorAt (ρ : Rho) (σ : Sg) (x y : Nat) (hD : Laid σ ρ) (hx : x < 8) (hy : y < 100) : CallOK 0 mX8_doorAt [.ref 47, .int (nI x), .int (nI y)] ρ (fun r ρ2 => r = some (.int (nI (dr σ x y))) ∧ ρ2 = ρ) := by
  refine callOK_of 0 (by decide +kernel) rfl (fun _ => Nat.le_of_ble_eq_true rfl) (ls := [some (.ref 47), some (.int (nI x)), some (.int (nI y))]) rfl ?_
  generalize hQ : (fun r ρ2 => r = some (.int (nI (dr σ x y))) ∧ ρ2 = ρ : Option Value → Rho → Prop) = Q
  have w1 := Tn_lt σ y
  refine w_il dX8_doorAt_0 rfl ?_
  refine w_al dX8_doorAt_1 rfl ?_
  refine w_gr dX8_doorAt_2 fl_X8_40 sh47 rfl ?_
  refine w_il dX8_doorAt_5 rfl ?_
  refine w_ialdV (v := (nI (Tn σ y))) dX8_doorAt_6 sh58 (by omega) (hD.2 _ (by omega)) ?_
  refine w_iaddN dX8_doorAt_7 ?_
  refine w_k dX8_doorAt_8 ?_
  refine w_iremN dX8_doorAt_10 (by omega) (by omega) (by omega) ?_
  refine w_iret dX8_doorAt_11 rfl ?_
  rw [← hQ]
  exact ⟨rfl, rfl⟩

set_option maxHeartbeats 4000000 in
theorem c_X8_doorOf (ρ : Rho) (σ : Sg) (x : Nat) (y : Nat) (z : Nat) (hM : MInv σ ρ) (hx : x < 8) (hy : y < 100) (hz : z < 3) : CallOK 5 mX8_doorOf [.ref 47, .int (nI x), .int (nI y), .int (nI z)] ρ (fun r ρ2 => ∃ v, r = some v ∧ (v = .int (nI (v_door σ x y z)) ∧ MInv σ ρ2 ∧ EqC ρ ρ2)) := by
  refine callOK_of 1 (by decide +kernel) rfl (fun _ => Nat.le_of_ble_eq_true rfl) (ls := [some (.ref 47), some (.int (nI x)), some (.int (nI y)), some (.int (nI z)), none]) rfl ?_
  generalize hQ : (fun r ρ2 => ∃ v, r = some v ∧ (v = .int (nI (v_door σ x y z)) ∧ MInv σ ρ2 ∧ EqC ρ ρ2) : Option Value → Rho → Prop) = Q
  have w1 := dr_lt σ x y
  refine w_al dX8_doorOf_0 rfl ?_
  refine w_cVu dX8_doorOf_1 (vl_X8_145 _ rfl) sh47 (by decide) (c_X8_lays ρ σ hM) rfl rfl (Nat.le_of_ble_eq_true rfl) (fun ρl1 hl1 => ?_)
  obtain ⟨hMl1, hEl1, hDl1⟩ := hl1
  refine w_al dX8_doorOf_4 rfl ?_
  refine w_il dX8_doorOf_5 rfl ?_
  refine w_il dX8_doorOf_6 rfl ?_
  refine w_cVf dX8_doorOf_7 (vl_X8_157 _ rfl) sh47 (by decide) (c_X8_doorAt ρl1 σ x y hDl1 (by omega) (by omega)) rfl rfl (Nat.le_of_ble_eq_true rfl) ?_
  refine w_is (ls2 := [some (.ref 47), some (.int (nI x)), some (.int (nI y)), some (.int (nI z)), some (.int (nI (dr σ x y)))]) dX8_doorOf_10 rfl ?_
  refine w_il dX8_doorOf_12 rfl ?_
  refine w_ifneN dX8_doorOf_13 (by omega) (fun h13 => ?_) (fun h13 => ?_)
  · --t
    refine w_il dX8_doorOf_21 rfl ?_
    refine w_k dX8_doorOf_22 ?_
    refine w_icneN dX8_doorOf_23 (by omega) (by omega) (fun h23 => ?_) (fun h23 => ?_)
    · --t
      refine w_al dX8_doorOf_36 rfl ?_
      refine w_gr dX8_doorOf_37 fl_X8_22 sh47 rfl ?_
      refine w_il dX8_doorOf_40 rfl ?_
      refine w_ialdV (v := (nI (σ.1 52 (dr σ x y)))) dX8_doorOf_42 sh52 (by omega) (hMl1.2.1 52 (by decide) _) ?_
      refine w_iret dX8_doorOf_43 rfl ?_
      rw [← hQ]
      exact ⟨_, rfl, by rw [v_door, if_neg h13, if_neg h23], hMl1, (EqC.tr EqC.rf hEl1)⟩
    · --f
      refine w_al dX8_doorOf_26 rfl ?_
      refine w_gr dX8_doorOf_27 fl_X8_13 sh47 rfl ?_
      refine w_il dX8_doorOf_30 rfl ?_
      refine w_ialdV (v := (nI (Th σ (dr σ x y)))) dX8_doorOf_32 sh49 (by omega) (hDl1.1.1 _ (by omega)) ?_
      refine w_goto dX8_doorOf_33 ?_
      refine w_iret dX8_doorOf_43 rfl ?_
      rw [← hQ]
      exact ⟨_, rfl, by rw [v_door, if_neg h13, if_pos h23], hMl1, (EqC.tr EqC.rf hEl1)⟩
  · --f
    refine w_il dX8_doorOf_16 rfl ?_
    refine w_goto dX8_doorOf_18 ?_
    refine w_iret dX8_doorOf_43 rfl ?_
    rw [← hQ]
    exact ⟨_, rfl, by rw [v_door, if_pos h13], hMl1, (EqC.tr EqC.rf hEl1)⟩

set_option maxHeartbeats 4000000 in
theorem c_X8_door (ρ : Rho) (σ : Sg) (p : Int32) (d : Int32) (q : Int32) (hM : MInv σ ρ) : CallOK 6 mX8_door [.ref 47, .int p, .int d, .int q] ρ (fun r ρ2 => ∃ v, r = some v ∧ (v = .int (r_door σ p d q) ∧ MInv (σ) ρ2 ∧ EqC ρ ρ2)) := by
  refine callOK_of 0 (by decide +kernel) rfl (fun _ => Nat.le_of_ble_eq_true rfl) (ls := [some (.ref 47), some (.int p), some (.int d), some (.int q)]) rfl ?_
  generalize hQ : (fun r ρ2 => ∃ v, r = some v ∧ (v = .int (r_door σ p d q) ∧ MInv (σ) ρ2 ∧ EqC ρ ρ2) : Option Value → Rho → Prop) = Q
  refine w_il dX8_door_0 rfl ?_
  refine w_cSf dX8_door_1 (sl_X8_118 _ rfl) (by decide) (c_X8_isEighth ρ p) rfl rfl (Nat.le_of_ble_eq_true rfl) ?_
  refine w_ifeqB dX8_door_4 (fun h4 => ?_) (fun h4 => ?_)
  · --t
    refine w_k dX8_door_33 ?_
    refine w_iret dX8_door_35 rfl ?_
    rw [← hQ]
    exact ⟨_, rfl, by rw [r_door, if_neg (fun z => h4 z.1)], hM, EqC.rf⟩
  · --f
    obtain ⟨x, hx, rfl⟩ := inR_nI h4 (by decide)
    refine w_il dX8_door_7 rfl ?_
    refine w_cSf dX8_door_8 (sl_X8_148 _ rfl) (by decide) (c_X8_isDay ρ d) rfl rfl (Nat.le_of_ble_eq_true rfl) ?_
    refine w_ifeqB dX8_door_11 (fun h11 => ?_) (fun h11 => ?_)
    · --t
      refine w_k dX8_door_33 ?_
      refine w_iret dX8_door_35 rfl ?_
      rw [← hQ]
      exact ⟨_, rfl, by rw [r_door, if_neg (fun z => h11 z.2.1)], hM, EqC.rf⟩
    · --f
      obtain ⟨y, hy, rfl⟩ := inR_nI h11 (by decide)
      refine w_il dX8_door_14 rfl ?_
      refine w_k dX8_door_15 ?_
      refine w_k dX8_door_16 ?_
      refine w_cSf dX8_door_17 (sl_X8_89 _ rfl) (by decide) (c_X8_in ρ q (nI 0) (nI 2)) rfl rfl (Nat.le_of_ble_eq_true rfl) ?_
      refine w_ifeqB dX8_door_20 (fun h20 => ?_) (fun h20 => ?_)
      · --t
        refine w_k dX8_door_33 ?_
        refine w_iret dX8_door_35 rfl ?_
        rw [← hQ]
        exact ⟨_, rfl, by rw [r_door, if_neg (fun z => h20 z.2.2)], hM, EqC.rf⟩
      · --f
        obtain ⟨z, hz, rfl⟩ := inR_nI h20 (by decide)
        refine w_al dX8_door_23 rfl ?_
        refine w_il dX8_door_24 rfl ?_
        refine w_il dX8_door_25 rfl ?_
        refine w_il dX8_door_26 rfl ?_
        refine w_cVr dX8_door_27 (vl_X8_160 _ rfl) sh47 (by decide) (c_X8_doorOf ρ σ x y z hM (by omega) (by omega) (by omega)) rfl rfl (Nat.le_of_ble_eq_true rfl) (fun vh1 ρh1 hh1 => ?_)
        obtain ⟨rfl, hMh1, hEh1⟩ := hh1
        refine w_goto dX8_door_30 ?_
        refine w_iret dX8_door_35 rfl ?_
        rw [← hQ]
        exact ⟨_, rfl, by rw [r_door, if_pos ⟨h4, h11, h20⟩, nv_nI (by omega), nv_nI (by omega), nv_nI (by omega)], hMh1, (EqC.tr EqC.rf hEh1)⟩

set_option maxHeartbeats 4000000 in
theorem c_X7_door (ρ : Rho) (σ : Sg) (p : Int32) (d : Int32) (q : Int32) (hC : CInv σ ρ) : CallOK 2 mX7_door [.ref 0, .int p, .int d, .int q] ρ (fun r ρ2 => ∃ v, r = some v ∧ (v = .int (r_door σ p d q) ∧ CInv (σ) ρ2 ∧ EqM ρ ρ2)) := by
  refine callOK_of 1 (by decide +kernel) rfl (fun _ => Nat.le_of_ble_eq_true rfl) (ls := [some (.ref 0), some (.int p), some (.int d), some (.int q), none]) rfl ?_
  generalize hQ : (fun r ρ2 => ∃ v, r = some v ∧ (v = .int (r_door σ p d q) ∧ CInv (σ) ρ2 ∧ EqM ρ ρ2) : Option Value → Rho → Prop) = Q
  refine w_il dX7_door_0 rfl ?_
  refine w_k dX7_door_1 ?_
  refine w_cSf dX7_door_3 (sl_X7_61 _ rfl) (by decide) (c_X7_within ρ p (nI 7)) rfl rfl (Nat.le_of_ble_eq_true rfl) ?_
  refine w_ifeqB dX7_door_6 (fun h6 => ?_) (fun h6 => ?_)
  · --t
    refine w_k dX7_door_24 ?_
    refine w_iret dX7_door_26 rfl ?_
    rw [← hQ]
    exact ⟨_, rfl, by rw [r_door, if_neg (fun z => h6 z.1)], ⟨hC.1, hC.2.1, hC.2.2⟩, EqM.rf⟩
  · --f
    obtain ⟨x, hx, rfl⟩ := inR_nI h6 (by decide)
    refine w_il dX7_door_9 rfl ?_
    refine w_cSf dX7_door_10 (sl_X7_87 _ rfl) (by decide) (c_X7_isDay ρ d) rfl rfl (Nat.le_of_ble_eq_true rfl) ?_
    refine w_ifeqB dX7_door_13 (fun h13 => ?_) (fun h13 => ?_)
    · --t
      refine w_k dX7_door_24 ?_
      refine w_iret dX7_door_26 rfl ?_
      rw [← hQ]
      exact ⟨_, rfl, by rw [r_door, if_neg (fun z => h13 z.2.1)], ⟨hC.1, hC.2.1, hC.2.2⟩, EqM.rf⟩
    · --f
      obtain ⟨y, hy, rfl⟩ := inR_nI h13 (by decide)
      refine w_il dX7_door_16 rfl ?_
      refine w_k dX7_door_17 ?_
      refine w_cSf dX7_door_18 (sl_X7_61 _ rfl) (by decide) (c_X7_within ρ q (nI 2)) rfl rfl (Nat.le_of_ble_eq_true rfl) ?_
      refine w_ifneB dX7_door_21 (fun h21 => ?_) (fun h21 => ?_)
      · --t
        obtain ⟨z, hz, rfl⟩ := inR_nI h21 (by decide)
        have w1 := Tn_lt σ y
        refine w_il dX7_door_27 rfl ?_
        refine w_al dX7_door_28 rfl ?_
        refine w_gr dX7_door_29 fl_X7_19 sh0 rfl ?_
        refine w_gr dX7_door_32 fl_X7_98 sh10 rfl ?_
        refine w_il dX7_door_35 rfl ?_
        refine w_ialdV (v := (nI (Tn σ y))) dX7_door_36 sh15 (by omega) (hC.2.2 _ (by omega)) ?_
        refine w_iaddN dX7_door_37 ?_
        refine w_k dX7_door_38 ?_
        refine w_iand7 dX7_door_40 (by omega) ?_
        refine w_is (ls2 := [some (.ref 0), some (.int (nI x)), some (.int (nI y)), some (.int (nI z)), some (.int (nI ((x + (Tn σ y)) % 8)))]) dX7_door_41 rfl ?_
        have w2 := dr_lt σ x y
        rw [show (x + Tn σ y) % 8 = dr σ x y from rfl]
        refine w_il dX7_door_43 rfl ?_
        refine w_ifneN dX7_door_44 (by omega) (fun h44 => ?_) (fun h44 => ?_)
        · --t
          refine w_il dX7_door_50 rfl ?_
          refine w_k dX7_door_51 ?_
          refine w_icneN dX7_door_52 (by omega) (by omega) (fun h52 => ?_) (fun h52 => ?_)
          · --t
            refine w_al dX7_door_68 rfl ?_
            refine w_gr dX7_door_69 fl_X7_10 sh0 rfl ?_
            refine w_gr dX7_door_72 fl_X7_84 sh1 rfl ?_
            refine w_il dX7_door_75 rfl ?_
            refine w_ialdV (v := (nI (σ.1 52 (dr σ x y)))) dX7_door_77 sh5 (by omega) (hC.1.2.1 (5, 52) (by decide) _) ?_
            refine w_iret dX7_door_78 rfl ?_
            rw [← hQ]
            exact ⟨_, rfl, by rw [r_door, if_pos ⟨h6, h13, h21⟩, nv_nI (by omega), nv_nI (by omega), nv_nI (by omega), v_door, if_neg h44, if_neg h52], ⟨hC.1, hC.2.1, hC.2.2⟩, EqM.rf⟩
          · --f
            refine w_al dX7_door_55 rfl ?_
            refine w_gr dX7_door_56 fl_X7_10 sh0 rfl ?_
            refine w_gr dX7_door_59 fl_X7_77 sh1 rfl ?_
            refine w_il dX7_door_62 rfl ?_
            refine w_ialdV (v := (nI (Th σ (dr σ x y)))) dX7_door_64 sh3 (by omega) (hC.2.1.1 _ (by omega)) ?_
            refine w_goto dX7_door_65 ?_
            refine w_iret dX7_door_78 rfl ?_
            rw [← hQ]
            exact ⟨_, rfl, by rw [r_door, if_pos ⟨h6, h13, h21⟩, nv_nI (by omega), nv_nI (by omega), nv_nI (by omega), v_door, if_neg h44, if_pos h52], ⟨hC.1, hC.2.1, hC.2.2⟩, EqM.rf⟩
        · --f
          refine w_il dX7_door_47 rfl ?_
          refine w_iret dX7_door_49 rfl ?_
          rw [← hQ]
          exact ⟨_, rfl, by rw [r_door, if_pos ⟨h6, h13, h21⟩, nv_nI (by omega), nv_nI (by omega), nv_nI (by omega), v_door, if_pos h44], ⟨hC.1, hC.2.1, hC.2.2⟩, EqM.rf⟩
      · --f
        refine w_k dX7_door_24 ?_
        refine w_iret dX7_door_26 rfl ?_
        rw [← hQ]
        exact ⟨_, rfl, by rw [r_door, if_neg (fun z => h21 z.2.2)], ⟨hC.1, hC.2.1, hC.2.2⟩, EqM.rf⟩
