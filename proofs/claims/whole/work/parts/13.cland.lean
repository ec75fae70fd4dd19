set_option maxHeartbeats 4000000 in
theorem c_fill (ρ : Rho) (q n : Nat) (v : Int32) (hs : Sh q (.inl (0, n))) : CallOK 0 mJ7_fill_53178 [.ref q, .int v] ρ (fun r ρ2 => r = none ∧ ρ2 = fillI ρ q n v) := by
  refine callOK_of 2 (by decide +kernel) rfl (fun _ => Nat.le_of_ble_eq_true rfl) (ls := [some (.ref q), some (.int v), none, none]) rfl ?_
  generalize hQ : (fun r ρ2 => r = none ∧ ρ2 = fillI ρ q n v : Option Value → Rho → Prop) = Q
  have hn := sh_n hs
  refine w_k dJ7_fill_53178_0 ?_
  refine w_is (ls2 := [some (.ref q), some (.int v), some (.int (nI 0)), none]) dJ7_fill_53178_1 rfl ?_
  refine w_al dJ7_fill_53178_2 rfl ?_
  refine w_alen dJ7_fill_53178_3 hs ?_
  refine w_is (ls2 := [some (.ref q), some (.int v), some (.int (nI 0)), some (.int (nI n))]) dJ7_fill_53178_4 rfl ?_
  have L5 : ∀ (n5 : Nat) (i : Nat), (i ≤ n) → (n - i) < n5 → MW mJ7_fill_53178 0 5 [some (.ref q), some (.int v), some (.int (nI i)), some (.int (nI n))] [] (fillI ρ q i v) Q := by
    intro n5
    induction n5 with
    | zero =>
      intro i hi hm5
      exact absurd hm5 (Nat.not_lt_zero _)
    | succ n5 ih5 =>
      intro i hi hm5
      refine w_il dJ7_fill_53178_5 rfl ?_
      refine w_il dJ7_fill_53178_6 rfl ?_
      refine w_icgeN dJ7_fill_53178_7 (by omega) (by omega) (fun h7 => ?_) (fun h7 => ?_)
      · --t
        refine w_ret dJ7_fill_53178_20 rfl ?_
        rw [← hQ]
        have e : i = n := by omega
        subst e
        exact ⟨rfl, rfl⟩
      · --f
        refine w_al dJ7_fill_53178_10 rfl ?_
        refine w_il dJ7_fill_53178_11 rfl ?_
        refine w_il dJ7_fill_53178_12 rfl ?_
        refine w_iastN dJ7_fill_53178_13 hs (by omega) ?_
        refine w_iincN (ls2 := [some (.ref q), some (.int v), some (.int (nI (i + 1))), some (.int (nI n))]) dJ7_fill_53178_14 rfl rfl ?_
        refine w_goto dJ7_fill_53178_17 ?_
        refine w_eqR (fillI_s _ _ _ _) ?_
        exact ih5 (i + 1) (by omega) (by omega)
  refine w_eqR (fillI_0 ρ q v).symm ?_
  exact L5 _ 0 (by omega) (Nat.lt_succ_self _)

set_option maxHeartbeats 4000000 in
theorem c_fillL (ρ : Rho) (q n : Nat) (v : Int64) (hs : Sh q (.inl (1, n))) : CallOK 0 mJ7_fill_d0a16 [.ref q, .long v] ρ (fun r ρ2 => r = none ∧ ρ2 = fillL ρ q n v) := by
  refine callOK_of 2 (by decide +kernel) rfl (fun _ => Nat.le_of_ble_eq_true rfl) (ls := [some (.ref q), some (.long v), none, none, none]) rfl ?_
  generalize hQ : (fun r ρ2 => r = none ∧ ρ2 = fillL ρ q n v : Option Value → Rho → Prop) = Q
  have hn := sh_n hs
  refine w_k dJ7_fill_d0a16_0 ?_
  refine w_is (ls2 := [some (.ref q), some (.long v), none, some (.int (nI 0)), none]) dJ7_fill_d0a16_1 rfl ?_
  refine w_al dJ7_fill_d0a16_2 rfl ?_
  refine w_alenL dJ7_fill_d0a16_3 hs ?_
  refine w_is (ls2 := [some (.ref q), some (.long v), none, some (.int (nI 0)), some (.int (nI n))]) dJ7_fill_d0a16_4 rfl ?_
  have L6 : ∀ (n6 : Nat) (i : Nat), (i ≤ n) → (n - i) < n6 → MW mJ7_fill_d0a16 0 6 [some (.ref q), some (.long v), none, some (.int (nI i)), some (.int (nI n))] [] (fillL ρ q i v) Q := by
    intro n6
    induction n6 with
    | zero =>
      intro i hi hm6
      exact absurd hm6 (Nat.not_lt_zero _)
    | succ n6 ih6 =>
      intro i hi hm6
      refine w_il dJ7_fill_d0a16_6 rfl ?_
      refine w_il dJ7_fill_d0a16_7 rfl ?_
      refine w_icgeN dJ7_fill_d0a16_9 (by omega) (by omega) (fun h9 => ?_) (fun h9 => ?_)
      · --t
        refine w_ret dJ7_fill_d0a16_22 rfl ?_
        rw [← hQ]
        have e : i = n := by omega
        subst e
        exact ⟨rfl, rfl⟩
      · --f
        refine w_al dJ7_fill_d0a16_12 rfl ?_
        refine w_il dJ7_fill_d0a16_13 rfl ?_
        refine w_ll dJ7_fill_d0a16_14 rfl ?_
        refine w_lastN dJ7_fill_d0a16_15 hs (by omega) ?_
        refine w_iincN (ls2 := [some (.ref q), some (.long v), none, some (.int (nI (i + 1))), some (.int (nI n))]) dJ7_fill_d0a16_16 rfl rfl ?_
        refine w_goto dJ7_fill_d0a16_19 ?_
        refine w_eqR (fillL_s _ _ _ _) ?_
        exact ih6 (i + 1) (by omega) (by omega)
  refine w_eqR (fillL_0 ρ q v).symm ?_
  exact L6 _ 0 (by omega) (Nat.lt_succ_self _)

set_option maxHeartbeats 4000000 in
theorem c_X3_signAt (ρ : Rho) (σ : Sg) (k : Nat) (hC : CP σ ρ) (hk : k < 1000) : CallOK 0 mX3_signAt [.ref 1, .int (nI k)] ρ (fun r ρ2 => r = some (.int (bA σ k)) ∧ ρ2 = ρ) := by
  refine callOK_of 0 (by decide +kernel) rfl (fun _ => Nat.le_of_ble_eq_true rfl) (ls := [some (.ref 1), some (.int (nI k))]) rfl ?_
  generalize hQ : (fun r ρ2 => r = some (.int (bA σ k)) ∧ ρ2 = ρ : Option Value → Rho → Prop) = Q
  have w1 := hC.1.typed
  refine w_il dX3_signAt_0 rfl ?_
  refine w_ifltN dX3_signAt_1 (by omega) ?_
  refine w_il dX3_signAt_4 rfl ?_
  refine w_al dX3_signAt_5 rfl ?_
  refine w_giV (v := (nI (σ.1 47 0))) dX3_signAt_6 fl_X3_15 sh1 rfl (hC.2.2.2.1 (1, 1, 47, 0) (by decide)) ?_
  refine w_icgeN dX3_signAt_9 (by omega) (by omega) (fun h9 => ?_) (fun h9 => ?_)
  · --t
    refine w_k dX3_signAt_27 ?_
    refine w_iret dX3_signAt_28 rfl ?_
    rw [← hQ]
    exact ⟨congrArg (fun z => some (Value.int z)) (bA_ne (by omega)).symm, rfl⟩
  · --f
    refine w_il dX3_signAt_12 rfl ?_
    refine w_k dX3_signAt_13 ?_
    refine w_icgeN dX3_signAt_15 (by omega) (by omega) (fun h15 => ?_) (fun h15 => ?_)
    · --t
      refine w_k dX3_signAt_27 ?_
      refine w_iret dX3_signAt_28 rfl ?_
      rw [← hQ]
      exact ⟨congrArg (fun z => some (Value.int z)) (bA_ne (by omega)).symm, rfl⟩
    · --f
      refine w_al dX3_signAt_18 rfl ?_
      refine w_gr dX3_signAt_19 fl_X3_9 sh1 rfl ?_
      refine w_il dX3_signAt_22 rfl ?_
      refine w_ialdV (v := (nI (σ.1 48 k))) dX3_signAt_23 sh2 (by omega) (hC.2.1 (2, 48) (by decide) _) ?_
      refine w_goto dX3_signAt_24 ?_
      refine w_iret dX3_signAt_28 rfl ?_
      rw [← hQ]
      exact ⟨congrArg (fun z => some (Value.int z)) (bA_eq (by omega)).symm, rfl⟩

set_option maxHeartbeats 4000000 in
theorem c_X3_figureAt (ρ : Rho) (σ : Sg) (k : Nat) (hC : CP σ ρ) (hk : k < 1000) : CallOK 1 mX3_figureAt [.ref 1, .int (nI k)] ρ (fun r ρ2 => r = some (.int (fgA σ k)) ∧ ρ2 = ρ) := by
  refine callOK_of 1 (by decide +kernel) rfl (fun _ => Nat.le_of_ble_eq_true rfl) (ls := [some (.ref 1), some (.int (nI k)), none]) rfl ?_
  generalize hQ : (fun r ρ2 => r = some (.int (fgA σ k)) ∧ ρ2 = ρ : Option Value → Rho → Prop) = Q
  have w1 := hC.1.typed
  refine w_al dX3_figureAt_0 rfl ?_
  refine w_il dX3_figureAt_1 rfl ?_
  refine w_cVf dX3_figureAt_2 (vl_X3_65 _ rfl) sh1 (by decide) (c_X3_signAt ρ σ k hC (by omega)) rfl rfl (Nat.le_of_ble_eq_true rfl) ?_
  refine w_is (ls2 := [some (.ref 1), some (.int (nI k)), some (.int (bA σ k))]) dX3_figureAt_5 rfl ?_
  refine w_il dX3_figureAt_6 rfl ?_
  refine w_k dX3_figureAt_7 ?_
  refine w_iclt dX3_figureAt_9 (fun h9 => ?_) (fun h9 => ?_)
  · --t
    refine w_k dX3_figureAt_25 ?_
    refine w_iret dX3_figureAt_26 rfl ?_
    rw [← hQ]
    exact ⟨congrArg (fun z => some (Value.int z)) (fgA_f hC.1 (fun z => z.1 h9)).symm, rfl⟩
  · --f
    refine w_il dX3_figureAt_12 rfl ?_
    refine w_k dX3_figureAt_13 ?_
    refine w_icgt dX3_figureAt_15 (fun h15 => ?_) (fun h15 => ?_)
    · --t
      refine w_k dX3_figureAt_25 ?_
      refine w_iret dX3_figureAt_26 rfl ?_
      rw [← hQ]
      exact ⟨congrArg (fun z => some (Value.int z)) (fgA_f hC.1 (fun z => z.2 h15)).symm, rfl⟩
    · --f
      refine w_il dX3_figureAt_18 rfl ?_
      refine w_k dX3_figureAt_19 ?_
      refine w_isub dX3_figureAt_21 ?_
      refine w_goto dX3_figureAt_22 ?_
      refine w_iret dX3_figureAt_26 rfl ?_
      rw [← hQ]
      exact ⟨congrArg (fun z => some (Value.int z)) (fgA_t hC.1 h9 h15).symm, rfl⟩

set_option maxHeartbeats 4000000 in
theorem c_X3_thingOf (ρ : Rho) (b : Int32) : CallOK 0 mX3_thingOf [.int b] ρ (fun r ρ2 => r = some (.int (tOf b)) ∧ ρ2 = ρ) := by
  refine callOK_of 0 (by decide +kernel) rfl (fun _ => Nat.le_of_ble_eq_true rfl) (ls := [some (.int b)]) rfl ?_
  generalize hQ : (fun r ρ2 => r = some (.int (tOf b)) ∧ ρ2 = ρ : Option Value → Rho → Prop) = Q
  refine w_il dX3_thingOf_0 rfl ?_
  by_cases c46 : b = nI 46
  · --
    subst c46
    refine w_lkp (off := 51) (tgt := 52) dX3_thingOf_1 (by decide) (by decide) (by decide) ?_
    refine w_k dX3_thingOf_52 ?_
    refine w_iret dX3_thingOf_53 rfl ?_
    rw [← hQ]
    exact ⟨congrArg (fun z => some (Value.int z)) (by decide), rfl⟩
  by_cases c109 : b = nI 109
  · --
    subst c109
    refine w_lkp (off := 53) (tgt := 54) dX3_thingOf_1 (by decide) (by decide) (by decide) ?_
    refine w_k dX3_thingOf_54 ?_
    refine w_iret dX3_thingOf_55 rfl ?_
    rw [← hQ]
    exact ⟨congrArg (fun z => some (Value.int z)) (by decide), rfl⟩
  by_cases c119 : b = nI 119
  · --
    subst c119
    refine w_lkp (off := 55) (tgt := 56) dX3_thingOf_1 (by decide) (by decide) (by decide) ?_
    refine w_k dX3_thingOf_56 ?_
    refine w_iret dX3_thingOf_57 rfl ?_
    rw [← hQ]
    exact ⟨congrArg (fun z => some (Value.int z)) (by decide), rfl⟩
  by_cases c115 : b = nI 115
  · --
    subst c115
    refine w_lkp (off := 57) (tgt := 58) dX3_thingOf_1 (by decide) (by decide) (by decide) ?_
    refine w_k dX3_thingOf_58 ?_
    refine w_iret dX3_thingOf_59 rfl ?_
    rw [← hQ]
    exact ⟨congrArg (fun z => some (Value.int z)) (by decide), rfl⟩
  by_cases c102 : b = nI 102
  · --
    subst c102
    refine w_lkp (off := 59) (tgt := 60) dX3_thingOf_1 (by decide) (by decide) (by decide) ?_
    refine w_k dX3_thingOf_60 ?_
    refine w_iret dX3_thingOf_61 rfl ?_
    rw [← hQ]
    exact ⟨congrArg (fun z => some (Value.int z)) (by decide), rfl⟩
  refine w_lkp (off := 61) (tgt := 62) dX3_thingOf_1 (by decide) (by show (if (46 : Int) = b.toInt then _ else if (102 : Int) = b.toInt then _ else if (109 : Int) = b.toInt then _ else if (115 : Int) = b.toInt then _ else if (119 : Int) = b.toInt then _ else _) = _; rw [if_neg (fun e => c46 (Int32.toInt_inj.mp (by rw [← e]; decide))), if_neg (fun e => c102 (Int32.toInt_inj.mp (by rw [← e]; decide))), if_neg (fun e => c109 (Int32.toInt_inj.mp (by rw [← e]; decide))), if_neg (fun e => c115 (Int32.toInt_inj.mp (by rw [← e]; decide))), if_neg (fun e => c119 (Int32.toInt_inj.mp (by rw [← e]; decide)))]; rfl) (by decide) ?_
  refine w_k dX3_thingOf_62 ?_
  refine w_iret dX3_thingOf_63 rfl ?_
  rw [← hQ]
  exact ⟨congrArg (fun z => some (Value.int z)) (by unfold tOf; rw [if_neg c46, if_neg c109, if_neg c119, if_neg c115, if_neg c102]), rfl⟩

set_option maxHeartbeats 4000000 in
theorem c_X3_forget (ρ : Rho) : CallOK 1 mX3_forget [.ref 1] ρ (fun r ρ2 => r = none ∧ ρ2 = wI (fillI (fillI ρ 3 8 (nI 0)) 4 8 (nI 0)) 1 6 (nI 0)) := by
  refine callOK_of 0 (by decide +kernel) rfl (fun _ => Nat.le_of_ble_eq_true rfl) (ls := [some (.ref 1)]) rfl ?_
  generalize hQ : (fun r ρ2 => r = none ∧ ρ2 = wI (fillI (fillI ρ 3 8 (nI 0)) 4 8 (nI 0)) 1 6 (nI 0) : Option Value → Rho → Prop) = Q
  refine w_al dX3_forget_0 rfl ?_
  refine w_gr dX3_forget_1 fl_X3_22 sh1 rfl ?_
  refine w_k dX3_forget_4 ?_
  refine w_cSv dX3_forget_5 (sl_X3_59 _ rfl) (by decide) (c_fill ρ 3 8 (nI 0) sh3) rfl rfl (Nat.le_of_ble_eq_true rfl) ?_
  refine w_al dX3_forget_8 rfl ?_
  refine w_gr dX3_forget_9 fl_X3_25 sh1 rfl ?_
  refine w_k dX3_forget_12 ?_
  refine w_cSv dX3_forget_13 (sl_X3_59 _ rfl) (by decide) (c_fill (fillI ρ 3 8 (nI 0)) 4 8 (nI 0) sh4) rfl rfl (Nat.le_of_ble_eq_true rfl) ?_
  refine w_al dX3_forget_16 rfl ?_
  refine w_k dX3_forget_17 ?_
  refine w_pi dX3_forget_18 fp_X3_31 sh1 rfl rfl rfl ?_
  refine w_ret dX3_forget_21 rfl ?_
  rw [← hQ]
  exact ⟨rfl, rfl⟩

set_option maxHeartbeats 4000000 in
theorem c_X3_takePath (ρ : Rho) (σ : Sg) (k : Nat) (hC : CP σ ρ) (hk : k < 900) : CallOK 2 mX3_takePath [.ref 1, .int (nI k)] ρ (fun r ρ2 => ∃ v, r = some v ∧ (v = .int (tpt σ k) ∧ (tpt σ k = -1 → ρ2 = wI ρ 4 (dg σ k) (nI 1)) ∧ (tpt σ k ≠ -1 → ρ2 = ρ))) := by
  refine callOK_of 1 (by decide +kernel) rfl (fun _ => Nat.le_of_ble_eq_true rfl) (ls := [some (.ref 1), some (.int (nI k)), none]) rfl ?_
  generalize hQ : (fun r ρ2 => ∃ v, r = some v ∧ (v = .int (tpt σ k) ∧ (tpt σ k = -1 → ρ2 = wI ρ 4 (dg σ k) (nI 1)) ∧ (tpt σ k ≠ -1 → ρ2 = ρ)) : Option Value → Rho → Prop) = Q
  refine w_al dX3_takePath_0 rfl ?_
  refine w_il dX3_takePath_1 rfl ?_
  refine w_cVf dX3_takePath_2 (vl_X3_78 _ rfl) sh1 (by decide) (c_X3_figureAt ρ σ k hC (by omega)) rfl rfl (Nat.le_of_ble_eq_true rfl) ?_
  refine w_is (ls2 := [some (.ref 1), some (.int (nI k)), some (.int (fgA σ k))]) dX3_takePath_5 rfl ?_
  refine w_il dX3_takePath_6 rfl ?_
  refine w_k dX3_takePath_7 ?_
  refine w_cSNf rfl dX3_takePath_9 (by decide) (c_X7_within ρ (fgA σ k) (nI 7)) rfl rfl (Nat.le_of_ble_eq_true rfl) ?_
  refine w_ifneB dX3_takePath_12 (fun h12 => ?_) (fun h12 => ?_)
  · --t
    have g := (fgA_in k 7 (by omega)).mp h12
    rw [fgA_val (by omega)]
    refine w_al dX3_takePath_17 rfl ?_
    refine w_gr dX3_takePath_18 fl_X3_25 sh1 rfl ?_
    refine w_il dX3_takePath_21 rfl ?_
    refine w_k dX3_takePath_22 ?_
    refine w_iastN dX3_takePath_23 sh4 (by omega) ?_
    refine w_k dX3_takePath_24 ?_
    refine w_iret dX3_takePath_25 rfl ?_
    rw [← hQ]
    exact ⟨_, rfl, by rw [tpt, if_pos g], fun _ => rfl, fun h => absurd (by rw [tpt, if_pos g]) h⟩
  · --f
    refine w_il dX3_takePath_15 rfl ?_
    refine w_iret dX3_takePath_16 rfl ?_
    rw [← hQ]
    have g : ¬ dg σ k ≤ 7 := fun q => h12 ((fgA_in k 7 (by omega)).mpr q)
    exact ⟨_, rfl, by rw [tpt, if_neg g], fun h => absurd (by rw [tpt, if_neg g] at h; exact h) (nIneg (by omega)), fun _ => rfl⟩

set_option maxHeartbeats 4000000 in
theorem c_X3_takeBridge (ρ : Rho) (σ : Sg) (k nb : Nat) (hC : CP σ ρ) (hk : k < 900) (hb : ρ.1 1 6 = nI nb) (hn : nb ≤ 4) : CallOK 2 mX3_takeBridge [.ref 1, .int (nI k)] ρ (fun r ρ2 => ∃ v, r = some v ∧ (v = .int (tbr σ k nb) ∧ (tbr σ k nb = -1 → ρ2 = wI (wI (wI (wI (wI ρ 6 nb (nI (dg σ (k + 1)))) 7 nb (nI (dg σ (k + 2)))) 8 nb (nI (dg σ (k + 3)))) 9 nb (nI (dg σ (k + 4)))) 1 6 (nI (nb + 1))) ∧ (tbr σ k nb ≠ -1 → ρ2 = ρ))) := by
  refine callOK_of 4 (by decide +kernel) rfl (fun _ => Nat.le_of_ble_eq_true rfl) (ls := [some (.ref 1), some (.int (nI k)), none, none, none, none]) rfl ?_
  generalize hQ : (fun r ρ2 => ∃ v, r = some v ∧ (v = .int (tbr σ k nb) ∧ (tbr σ k nb = -1 → ρ2 = wI (wI (wI (wI (wI ρ 6 nb (nI (dg σ (k + 1)))) 7 nb (nI (dg σ (k + 2)))) 8 nb (nI (dg σ (k + 3)))) 9 nb (nI (dg σ (k + 4)))) 1 6 (nI (nb + 1))) ∧ (tbr σ k nb ≠ -1 → ρ2 = ρ)) : Option Value → Rho → Prop) = Q
  refine w_al dX3_takeBridge_0 rfl ?_
  refine w_giV (v := (nI nb)) dX3_takeBridge_1 fl_X3_31 sh1 rfl (hb) ?_
  refine w_k dX3_takeBridge_4 ?_
  refine w_icltN dX3_takeBridge_5 (by omega) (by omega) (fun h5 => ?_) (fun h5 => ?_)
  · --t
    refine w_al dX3_takeBridge_10 rfl ?_
    refine w_il dX3_takeBridge_11 rfl ?_
    refine w_k dX3_takeBridge_12 ?_
    refine w_iaddN dX3_takeBridge_13 ?_
    refine w_cVf dX3_takeBridge_14 (vl_X3_78 _ rfl) sh1 (by decide) (c_X3_figureAt ρ σ (k + 1) hC (by omega)) rfl rfl (Nat.le_of_ble_eq_true rfl) ?_
    refine w_is (ls2 := [some (.ref 1), some (.int (nI k)), some (.int (fgA σ (k + 1))), none, none, none]) dX3_takeBridge_17 rfl ?_
    refine w_il dX3_takeBridge_18 rfl ?_
    refine w_k dX3_takeBridge_19 ?_
    refine w_cSNf rfl dX3_takeBridge_21 (by decide) (c_X7_within ρ (fgA σ (k + 1)) (nI 7)) rfl rfl (Nat.le_of_ble_eq_true rfl) ?_
    refine w_ifneB dX3_takeBridge_24 (fun h24 => ?_) (fun h24 => ?_)
    · --t
      have g0 := (fgA_in (k + 1) 7 (by omega)).mp h24
      rw [fgA_val (k := k + 1) (by omega)]
      refine w_al dX3_takeBridge_31 rfl ?_
      refine w_il dX3_takeBridge_32 rfl ?_
      refine w_k dX3_takeBridge_33 ?_
      refine w_iaddN dX3_takeBridge_34 ?_
      refine w_cVf dX3_takeBridge_35 (vl_X3_78 _ rfl) sh1 (by decide) (c_X3_figureAt ρ σ (k + 2) hC (by omega)) rfl rfl (Nat.le_of_ble_eq_true rfl) ?_
      refine w_is (ls2 := [some (.ref 1), some (.int (nI k)), some (.int (nI (dg σ (k + 1)))), some (.int (fgA σ (k + 2))), none, none]) dX3_takeBridge_38 rfl ?_
      refine w_il dX3_takeBridge_39 rfl ?_
      refine w_k dX3_takeBridge_40 ?_
      refine w_cSNf rfl dX3_takeBridge_42 (by decide) (c_X7_within ρ (fgA σ (k + 2)) (nI 7)) rfl rfl (Nat.le_of_ble_eq_true rfl) ?_
      refine w_ifeqB dX3_takeBridge_45 (fun h45 => ?_) (fun h45 => ?_)
      · --t
        refine w_il dX3_takeBridge_53 rfl ?_
        refine w_k dX3_takeBridge_54 ?_
        refine w_iaddN dX3_takeBridge_55 ?_
        refine w_iret dX3_takeBridge_56 rfl ?_
        rw [← hQ]
        have g : ¬ (dg σ (k + 2) ≤ 7 ∧ dg σ (k + 2) ≠ dg σ (k + 1)) := fun q => h45 ((fgA_in (k + 2) 7 (by omega)).mpr q.1)
        have e : tbr σ k nb = (nI (k + 2)) := by rw [tbr, if_neg (by omega), if_neg (fun q => q g0), if_pos g]
        exact ⟨_, rfl, by rw [e], fun h => absurd (by rw [e] at h; exact h) (nIneg (by omega)), fun _ => rfl⟩
      · --f
        have g1a := (fgA_in (k + 2) 7 (by omega)).mp h45
        rw [fgA_val (k := k + 2) (by omega)]
        refine w_il dX3_takeBridge_48 rfl ?_
        refine w_il dX3_takeBridge_49 rfl ?_
        refine w_icneN dX3_takeBridge_50 (by omega) (by omega) (fun h50 => ?_) (fun h50 => ?_)
        · --t
          refine w_al dX3_takeBridge_57 rfl ?_
          refine w_il dX3_takeBridge_58 rfl ?_
          refine w_k dX3_takeBridge_59 ?_
          refine w_iaddN dX3_takeBridge_60 ?_
          refine w_cVf dX3_takeBridge_61 (vl_X3_78 _ rfl) sh1 (by decide) (c_X3_figureAt ρ σ (k + 3) hC (by omega)) rfl rfl (Nat.le_of_ble_eq_true rfl) ?_
          refine w_is (ls2 := [some (.ref 1), some (.int (nI k)), some (.int (nI (dg σ (k + 1)))), some (.int (nI (dg σ (k + 2)))), some (.int (fgA σ (k + 3))), none]) dX3_takeBridge_64 rfl ?_
          refine w_il dX3_takeBridge_66 rfl ?_
          refine w_k dX3_takeBridge_68 ?_
          refine w_iclt dX3_takeBridge_69 (fun h69 => ?_) (fun h69 => ?_)
          · --t
            refine w_il dX3_takeBridge_79 rfl ?_
            refine w_k dX3_takeBridge_80 ?_
            refine w_iaddN dX3_takeBridge_81 ?_
            refine w_iret dX3_takeBridge_82 rfl ?_
            rw [← hQ]
            have g : ¬ (1 ≤ dg σ (k + 3) ∧ dg σ (k + 3) ≤ 8) := fun q => fgA_n18 q (Or.inl h69)
            have e : tbr σ k nb = (nI (k + 3)) := by rw [tbr, if_neg (by omega), if_neg (fun q => q g0), if_neg (fun q => q ⟨g1a, h50⟩), if_pos g]
            exact ⟨_, rfl, by rw [e], fun h => absurd (by rw [e] at h; exact h) (nIneg (by omega)), fun _ => rfl⟩
          · --f
            refine w_il dX3_takeBridge_72 rfl ?_
            refine w_k dX3_takeBridge_74 ?_
            refine w_icle dX3_takeBridge_76 (fun h76 => ?_) (fun h76 => ?_)
            · --t
              have g2 := fgA_18 h69 h76
              rw [fgA_val (k := k + 3) (by omega)]
              refine w_al dX3_takeBridge_83 rfl ?_
              refine w_il dX3_takeBridge_84 rfl ?_
              refine w_k dX3_takeBridge_85 ?_
              refine w_iaddN dX3_takeBridge_86 ?_
              refine w_cVf dX3_takeBridge_87 (vl_X3_78 _ rfl) sh1 (by decide) (c_X3_figureAt ρ σ (k + 4) hC (by omega)) rfl rfl (Nat.le_of_ble_eq_true rfl) ?_
              refine w_is (ls2 := [some (.ref 1), some (.int (nI k)), some (.int (nI (dg σ (k + 1)))), some (.int (nI (dg σ (k + 2)))), some (.int (nI (dg σ (k + 3)))), some (.int (fgA σ (k + 4)))]) dX3_takeBridge_90 rfl ?_
              refine w_il dX3_takeBridge_92 rfl ?_
              refine w_il dX3_takeBridge_94 rfl ?_
              refine w_k dX3_takeBridge_96 ?_
              refine w_isubN dX3_takeBridge_97 (by omega) ?_
              refine w_cSNf rfl dX3_takeBridge_98 (by decide) (c_X7_within ρ (fgA σ (k + 4)) (nI (dg σ (k + 3) - 1))) rfl rfl (Nat.le_of_ble_eq_true rfl) ?_
              refine w_ifneB dX3_takeBridge_101 (fun h101 => ?_) (fun h101 => ?_)
              · --t
                have g3a := (fgA_in (k + 4) (dg σ (k + 3) - 1) (by omega)).mp h101
                have g3 : dg σ (k + 4) < dg σ (k + 3) := by omega
                rw [fgA_val (k := k + 4) (by omega)]
                refine w_al dX3_takeBridge_108 rfl ?_
                refine w_gr dX3_takeBridge_109 fl_X3_34 sh1 rfl ?_
                refine w_al dX3_takeBridge_112 rfl ?_
                refine w_giV (v := (nI nb)) dX3_takeBridge_113 fl_X3_31 sh1 rfl (hb) ?_
                refine w_il dX3_takeBridge_116 rfl ?_
                refine w_iastN dX3_takeBridge_117 sh6 (by omega) ?_
                refine w_al dX3_takeBridge_118 rfl ?_
                refine w_gr dX3_takeBridge_119 fl_X3_37 sh1 rfl ?_
                refine w_al dX3_takeBridge_122 rfl ?_
                refine w_giV (v := (nI nb)) dX3_takeBridge_123 fl_X3_31 sh1 rfl ((rI_c (by decide) hb)) ?_
                refine w_il dX3_takeBridge_126 rfl ?_
                refine w_iastN dX3_takeBridge_127 sh7 (by omega) ?_
                refine w_al dX3_takeBridge_128 rfl ?_
                refine w_gr dX3_takeBridge_129 fl_X3_40 sh1 rfl ?_
                refine w_al dX3_takeBridge_132 rfl ?_
                refine w_giV (v := (nI nb)) dX3_takeBridge_133 fl_X3_31 sh1 rfl ((rI_c (by decide) (rI_c (by decide) hb))) ?_
                refine w_il dX3_takeBridge_136 rfl ?_
                refine w_iastN dX3_takeBridge_138 sh8 (by omega) ?_
                refine w_al dX3_takeBridge_139 rfl ?_
                refine w_gr dX3_takeBridge_140 fl_X3_43 sh1 rfl ?_
                refine w_al dX3_takeBridge_143 rfl ?_
                refine w_giV (v := (nI nb)) dX3_takeBridge_144 fl_X3_31 sh1 rfl ((rI_c (by decide) (rI_c (by decide) (rI_c (by decide) hb)))) ?_
                refine w_il dX3_takeBridge_147 rfl ?_
                refine w_iastN dX3_takeBridge_149 sh9 (by omega) ?_
                refine w_al dX3_takeBridge_150 rfl ?_
                refine w_dup dX3_takeBridge_151 rfl ?_
                refine w_giV (v := (nI nb)) dX3_takeBridge_152 fl_X3_31 sh1 rfl ((rI_c (by decide) (rI_c (by decide) (rI_c (by decide) (rI_c (by decide) hb))))) ?_
                refine w_k dX3_takeBridge_155 ?_
                refine w_iaddN dX3_takeBridge_156 ?_
                refine w_pi dX3_takeBridge_157 fp_X3_31 sh1 rfl rfl rfl ?_
                refine w_k dX3_takeBridge_160 ?_
                refine w_iret dX3_takeBridge_161 rfl ?_
                rw [← hQ]
                have e : tbr σ k nb = -1 := by rw [tbr, if_neg (by omega), if_neg (fun q => q g0), if_neg (fun q => q ⟨g1a, h50⟩), if_neg (fun q => q g2), if_neg (fun q => q g3)]
                exact ⟨_, rfl, by rw [e], fun _ => rfl, fun h => absurd e h⟩
              · --f
                refine w_il dX3_takeBridge_104 rfl ?_
                refine w_k dX3_takeBridge_105 ?_
                refine w_iaddN dX3_takeBridge_106 ?_
                refine w_iret dX3_takeBridge_107 rfl ?_
                rw [← hQ]
                have g : ¬ dg σ (k + 4) < dg σ (k + 3) := fun q => h101 ((fgA_in (k + 4) (dg σ (k + 3) - 1) (by omega)).mpr (by omega))
                have e : tbr σ k nb = (nI (k + 4)) := by rw [tbr, if_neg (by omega), if_neg (fun q => q g0), if_neg (fun q => q ⟨g1a, h50⟩), if_neg (fun q => q g2), if_pos g]
                exact ⟨_, rfl, by rw [e], fun h => absurd (by rw [e] at h; exact h) (nIneg (by omega)), fun _ => rfl⟩
            · --f
              refine w_il dX3_takeBridge_79 rfl ?_
              refine w_k dX3_takeBridge_80 ?_
              refine w_iaddN dX3_takeBridge_81 ?_
              refine w_iret dX3_takeBridge_82 rfl ?_
              rw [← hQ]
              have g : ¬ (1 ≤ dg σ (k + 3) ∧ dg σ (k + 3) ≤ 8) := fun q => fgA_n18 q (Or.inr h76)
              have e : tbr σ k nb = (nI (k + 3)) := by rw [tbr, if_neg (by omega), if_neg (fun q => q g0), if_neg (fun q => q ⟨g1a, h50⟩), if_pos g]
              exact ⟨_, rfl, by rw [e], fun h => absurd (by rw [e] at h; exact h) (nIneg (by omega)), fun _ => rfl⟩
        · --f
          refine w_il dX3_takeBridge_53 rfl ?_
          refine w_k dX3_takeBridge_54 ?_
          refine w_iaddN dX3_takeBridge_55 ?_
          refine w_iret dX3_takeBridge_56 rfl ?_
          rw [← hQ]
          have g : ¬ (dg σ (k + 2) ≤ 7 ∧ dg σ (k + 2) ≠ dg σ (k + 1)) := fun q => q.2 h50
          have e : tbr σ k nb = (nI (k + 2)) := by rw [tbr, if_neg (by omega), if_neg (fun q => q g0), if_pos g]
          exact ⟨_, rfl, by rw [e], fun h => absurd (by rw [e] at h; exact h) (nIneg (by omega)), fun _ => rfl⟩
    · --f
      refine w_il dX3_takeBridge_27 rfl ?_
      refine w_k dX3_takeBridge_28 ?_
      refine w_iaddN dX3_takeBridge_29 ?_
      refine w_iret dX3_takeBridge_30 rfl ?_
      rw [← hQ]
      have g : ¬ dg σ (k + 1) ≤ 7 := fun q => h24 ((fgA_in (k + 1) 7 (by omega)).mpr q)
      have e : tbr σ k nb = (nI (k + 1)) := by rw [tbr, if_neg (by omega), if_pos g]
      exact ⟨_, rfl, by rw [e], fun h => absurd (by rw [e] at h; exact h) (nIneg (by omega)), fun _ => rfl⟩
  · --f
    refine w_il dX3_takeBridge_8 rfl ?_
    refine w_iret dX3_takeBridge_9 rfl ?_
    rw [← hQ]
    have e : tbr σ k nb = (nI k) := by rw [tbr, if_pos (by omega)]
    exact ⟨_, rfl, by rw [e], fun h => absurd (by rw [e] at h; exact h) (nIneg (by omega)), fun _ => rfl⟩
