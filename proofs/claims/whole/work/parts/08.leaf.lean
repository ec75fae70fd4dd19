set_option maxHeartbeats 4000000 in
theorem c_X7_within (ρ : Rho) (v m : Int32) : CallOK 0 mX7_within [.int v, .int m] ρ (fun r ρ2 => r = some (.int (b2i (inR v (nI 0) m))) ∧ ρ2 = ρ) := by
  refine callOK_of 0 (by decide +kernel) rfl (fun _ => Nat.le_of_ble_eq_true rfl) (ls := [some (.int v), some (.int m)]) rfl ?_
  generalize hQ : (fun r ρ2 => r = some (.int (b2i (inR v (nI 0) m))) ∧ ρ2 = ρ : Option Value → Rho → Prop) = Q
  refine w_il dX7_within_0 rfl ?_
  refine w_iflt dX7_within_1 (fun h1 => ?_) (fun h1 => ?_)
  · --t
    refine w_k dX7_within_13 ?_
    refine w_zret dX7_within_14 rfl rfl ?_
    rw [← hQ]
    exact ⟨congrArg (fun z => some (Value.int z)) (b2i_f (fun q => Int32.not_lt.mpr q.1 h1)).symm, rfl⟩
  · --f
    refine w_il dX7_within_4 rfl ?_
    refine w_il dX7_within_5 rfl ?_
    refine w_icgt dX7_within_6 (fun h6 => ?_) (fun h6 => ?_)
    · --t
      refine w_k dX7_within_13 ?_
      refine w_zret dX7_within_14 rfl rfl ?_
      rw [← hQ]
      exact ⟨congrArg (fun z => some (Value.int z)) (b2i_f (fun q => Int32.not_lt.mpr q.2 h6)).symm, rfl⟩
    · --f
      refine w_k dX7_within_9 ?_
      refine w_goto dX7_within_10 ?_
      refine w_zret dX7_within_14 rfl rfl ?_
      rw [← hQ]
      exact ⟨congrArg (fun z => some (Value.int z)) (b2i_t ⟨Int32.not_lt.mp h1, Int32.not_lt.mp h6⟩).symm, rfl⟩

set_option maxHeartbeats 4000000 in
theorem c_X8_in (ρ : Rho) (v lo hi : Int32) : CallOK 0 mX8_in [.int v, .int lo, .int hi] ρ (fun r ρ2 => r = some (.int (b2i (inR v lo hi))) ∧ ρ2 = ρ) := by
  refine callOK_of 0 (by decide +kernel) rfl (fun _ => Nat.le_of_ble_eq_true rfl) (ls := [some (.int v), some (.int lo), some (.int hi)]) rfl ?_
  generalize hQ : (fun r ρ2 => r = some (.int (b2i (inR v lo hi))) ∧ ρ2 = ρ : Option Value → Rho → Prop) = Q
  refine w_il dX8_in_0 rfl ?_
  refine w_il dX8_in_1 rfl ?_
  refine w_iclt dX8_in_2 (fun h2 => ?_) (fun h2 => ?_)
  · --t
    refine w_k dX8_in_14 ?_
    refine w_zret dX8_in_15 rfl rfl ?_
    rw [← hQ]
    exact ⟨congrArg (fun z => some (Value.int z)) (b2i_f (fun q => Int32.not_lt.mpr q.1 h2)).symm, rfl⟩
  · --f
    refine w_il dX8_in_5 rfl ?_
    refine w_il dX8_in_6 rfl ?_
    refine w_icgt dX8_in_7 (fun h7 => ?_) (fun h7 => ?_)
    · --t
      refine w_k dX8_in_14 ?_
      refine w_zret dX8_in_15 rfl rfl ?_
      rw [← hQ]
      exact ⟨congrArg (fun z => some (Value.int z)) (b2i_f (fun q => Int32.not_lt.mpr q.2 h7)).symm, rfl⟩
    · --f
      refine w_k dX8_in_10 ?_
      refine w_goto dX8_in_11 ?_
      refine w_zret dX8_in_15 rfl rfl ?_
      rw [← hQ]
      exact ⟨congrArg (fun z => some (Value.int z)) (b2i_t ⟨Int32.not_lt.mp h2, Int32.not_lt.mp h7⟩).symm, rfl⟩

set_option maxHeartbeats 4000000 in
theorem c_X7_isDay (ρ : Rho) (v : Int32) : CallOK 1 mX7_isDay [.int v] ρ (fun r ρ2 => r = some (.int (b2i (inR v (nI 0) (nI 99)))) ∧ ρ2 = ρ) := by
  refine callOK_of 0 (by decide +kernel) rfl (fun _ => Nat.le_of_ble_eq_true rfl) (ls := [some (.int v)]) rfl ?_
  generalize hQ : (fun r ρ2 => r = some (.int (b2i (inR v (nI 0) (nI 99)))) ∧ ρ2 = ρ : Option Value → Rho → Prop) = Q
  refine w_il dX7_isDay_0 rfl ?_
  refine w_k dX7_isDay_1 ?_
  refine w_cSf dX7_isDay_3 (sl_X7_61 _ rfl) (by decide) (c_X7_within ρ v (nI 99)) rfl rfl (Nat.le_of_ble_eq_true rfl) ?_
  refine w_zret dX7_isDay_6 rfl (b2i_nar _) ?_
  rw [← hQ]
  exact ⟨congrArg (fun z => some (Value.int z)) (rfl), rfl⟩

set_option maxHeartbeats 4000000 in
theorem c_X7_isThing (ρ : Rho) (v : Int32) : CallOK 1 mX7_isThing [.int v] ρ (fun r ρ2 => r = some (.int (b2i (inR v (nI 0) (nI 4)))) ∧ ρ2 = ρ) := by
  refine callOK_of 0 (by decide +kernel) rfl (fun _ => Nat.le_of_ble_eq_true rfl) (ls := [some (.int v)]) rfl ?_
  generalize hQ : (fun r ρ2 => r = some (.int (b2i (inR v (nI 0) (nI 4)))) ∧ ρ2 = ρ : Option Value → Rho → Prop) = Q
  refine w_il dX7_isThing_0 rfl ?_
  refine w_k dX7_isThing_1 ?_
  refine w_cSf dX7_isThing_2 (sl_X7_61 _ rfl) (by decide) (c_X7_within ρ v (nI 4)) rfl rfl (Nat.le_of_ble_eq_true rfl) ?_
  refine w_zret dX7_isThing_5 rfl (b2i_nar _) ?_
  rw [← hQ]
  exact ⟨congrArg (fun z => some (Value.int z)) (rfl), rfl⟩

set_option maxHeartbeats 4000000 in
theorem c_X7_isSheet (ρ : Rho) (v : Int32) : CallOK 1 mX7_isSheet [.int v] ρ (fun r ρ2 => r = some (.int (b2i (inR v (nI 0) (nI 3)))) ∧ ρ2 = ρ) := by
  refine callOK_of 0 (by decide +kernel) rfl (fun _ => Nat.le_of_ble_eq_true rfl) (ls := [some (.int v)]) rfl ?_
  generalize hQ : (fun r ρ2 => r = some (.int (b2i (inR v (nI 0) (nI 3)))) ∧ ρ2 = ρ : Option Value → Rho → Prop) = Q
  refine w_il dX7_isSheet_0 rfl ?_
  refine w_k dX7_isSheet_1 ?_
  refine w_cSf dX7_isSheet_2 (sl_X7_61 _ rfl) (by decide) (c_X7_within ρ v (nI 3)) rfl rfl (Nat.le_of_ble_eq_true rfl) ?_
  refine w_zret dX7_isSheet_5 rfl (b2i_nar _) ?_
  rw [← hQ]
  exact ⟨congrArg (fun z => some (Value.int z)) (rfl), rfl⟩

set_option maxHeartbeats 4000000 in
theorem c_X7_isForm (ρ : Rho) (v : Int32) : CallOK 1 mX7_isForm [.int v] ρ (fun r ρ2 => r = some (.int (b2i (inR v (nI 0) (nI 2)))) ∧ ρ2 = ρ) := by
  refine callOK_of 0 (by decide +kernel) rfl (fun _ => Nat.le_of_ble_eq_true rfl) (ls := [some (.int v)]) rfl ?_
  generalize hQ : (fun r ρ2 => r = some (.int (b2i (inR v (nI 0) (nI 2)))) ∧ ρ2 = ρ : Option Value → Rho → Prop) = Q
  refine w_il dX7_isForm_0 rfl ?_
  refine w_k dX7_isForm_1 ?_
  refine w_cSf dX7_isForm_2 (sl_X7_61 _ rfl) (by decide) (c_X7_within ρ v (nI 2)) rfl rfl (Nat.le_of_ble_eq_true rfl) ?_
  refine w_zret dX7_isForm_5 rfl (b2i_nar _) ?_
  rw [← hQ]
  exact ⟨congrArg (fun z => some (Value.int z)) (rfl), rfl⟩

set_option maxHeartbeats 4000000 in
theorem c_X8_isEighth (ρ : Rho) (v : Int32) : CallOK 1 mX8_isEighth [.int v] ρ (fun r ρ2 => r = some (.int (b2i (inR v (nI 0) (nI 7)))) ∧ ρ2 = ρ) := by
  refine callOK_of 0 (by decide +kernel) rfl (fun _ => Nat.le_of_ble_eq_true rfl) (ls := [some (.int v)]) rfl ?_
  generalize hQ : (fun r ρ2 => r = some (.int (b2i (inR v (nI 0) (nI 7)))) ∧ ρ2 = ρ : Option Value → Rho → Prop) = Q
  refine w_il dX8_isEighth_0 rfl ?_
  refine w_k dX8_isEighth_1 ?_
  refine w_k dX8_isEighth_2 ?_
  refine w_cSf dX8_isEighth_4 (sl_X8_89 _ rfl) (by decide) (c_X8_in ρ v (nI 0) (nI 7)) rfl rfl (Nat.le_of_ble_eq_true rfl) ?_
  refine w_zret dX8_isEighth_7 rfl (b2i_nar _) ?_
  rw [← hQ]
  exact ⟨congrArg (fun z => some (Value.int z)) (rfl), rfl⟩

set_option maxHeartbeats 4000000 in
theorem c_X8_isDay (ρ : Rho) (v : Int32) : CallOK 1 mX8_isDay [.int v] ρ (fun r ρ2 => r = some (.int (b2i (inR v (nI 0) (nI 99)))) ∧ ρ2 = ρ) := by
  refine callOK_of 0 (by decide +kernel) rfl (fun _ => Nat.le_of_ble_eq_true rfl) (ls := [some (.int v)]) rfl ?_
  generalize hQ : (fun r ρ2 => r = some (.int (b2i (inR v (nI 0) (nI 99)))) ∧ ρ2 = ρ : Option Value → Rho → Prop) = Q
  refine w_il dX8_isDay_0 rfl ?_
  refine w_k dX8_isDay_1 ?_
  refine w_k dX8_isDay_2 ?_
  refine w_cSf dX8_isDay_4 (sl_X8_89 _ rfl) (by decide) (c_X8_in ρ v (nI 0) (nI 99)) rfl rfl (Nat.le_of_ble_eq_true rfl) ?_
  refine w_zret dX8_isDay_7 rfl (b2i_nar _) ?_
  rw [← hQ]
  exact ⟨congrArg (fun z => some (Value.int z)) (rfl), rfl⟩

set_option maxHeartbeats 4000000 in
theorem c_X8_isThing (ρ : Rho) (v : Int32) : CallOK 1 mX8_isThing [.int v] ρ (fun r ρ2 => r = some (.int (b2i (inR v (nI 0) (nI 4)))) ∧ ρ2 = ρ) := by
  refine callOK_of 0 (by decide +kernel) rfl (fun _ => Nat.le_of_ble_eq_true rfl) (ls := [some (.int v)]) rfl ?_
  generalize hQ : (fun r ρ2 => r = some (.int (b2i (inR v (nI 0) (nI 4)))) ∧ ρ2 = ρ : Option Value → Rho → Prop) = Q
  refine w_il dX8_isThing_0 rfl ?_
  refine w_k dX8_isThing_1 ?_
  refine w_k dX8_isThing_2 ?_
  refine w_cSf dX8_isThing_3 (sl_X8_89 _ rfl) (by decide) (c_X8_in ρ v (nI 0) (nI 4)) rfl rfl (Nat.le_of_ble_eq_true rfl) ?_
  refine w_zret dX8_isThing_6 rfl (b2i_nar _) ?_
  rw [← hQ]
  exact ⟨congrArg (fun z => some (Value.int z)) (rfl), rfl⟩

set_option maxHeartbeats 4000000 in
theorem c_X8_isSheet (ρ : Rho) (v : Int32) : CallOK 1 mX8_isSheet [.int v] ρ (fun r ρ2 => r = some (.int (b2i (inR v (nI 0) (nI 3)))) ∧ ρ2 = ρ) := by
  refine callOK_of 0 (by decide +kernel) rfl (fun _ => Nat.le_of_ble_eq_true rfl) (ls := [some (.int v)]) rfl ?_
  generalize hQ : (fun r ρ2 => r = some (.int (b2i (inR v (nI 0) (nI 3)))) ∧ ρ2 = ρ : Option Value → Rho → Prop) = Q
  refine w_il dX8_isSheet_0 rfl ?_
  refine w_k dX8_isSheet_1 ?_
  refine w_k dX8_isSheet_2 ?_
  refine w_cSf dX8_isSheet_3 (sl_X8_89 _ rfl) (by decide) (c_X8_in ρ v (nI 0) (nI 3)) rfl rfl (Nat.le_of_ble_eq_true rfl) ?_
  refine w_zret dX8_isSheet_6 rfl (b2i_nar _) ?_
  rw [← hQ]
  exact ⟨congrArg (fun z => some (Value.int z)) (rfl), rfl⟩
