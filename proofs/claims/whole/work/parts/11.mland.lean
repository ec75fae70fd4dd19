set_option maxHeartbeats 4000000 in
theorem c_X8_thingOf (ρ : Rho) (b : Int32) : CallOK 0 mX8_thingOf [.int b] ρ (fun r ρ2 => r = some (.int (tOf b)) ∧ ρ2 = ρ) := by
  refine callOK_of 0 (by decide +kernel) rfl (fun _ => Nat.le_of_ble_eq_true rfl) (ls := [some (.int b)]) rfl ?_
  generalize hQ : (fun r ρ2 => r = some (.int (tOf b)) ∧ ρ2 = ρ : Option Value → Rho → Prop) = Q
  refine w_il dX8_thingOf_0 rfl ?_
  refine w_k dX8_thingOf_1 ?_
  refine w_icne dX8_thingOf_3 (fun h3 => ?_) (fun h3 => ?_)
  · --t
    refine w_il dX8_thingOf_10 rfl ?_
    refine w_k dX8_thingOf_11 ?_
    refine w_icne dX8_thingOf_13 (fun h13 => ?_) (fun h13 => ?_)
    · --t
      refine w_il dX8_thingOf_20 rfl ?_
      refine w_k dX8_thingOf_21 ?_
      refine w_icne dX8_thingOf_23 (fun h23 => ?_) (fun h23 => ?_)
      · --t
        refine w_il dX8_thingOf_30 rfl ?_
        refine w_k dX8_thingOf_31 ?_
        refine w_icne dX8_thingOf_33 (fun h33 => ?_) (fun h33 => ?_)
        · --t
          refine w_il dX8_thingOf_40 rfl ?_
          refine w_k dX8_thingOf_41 ?_
          refine w_icne dX8_thingOf_43 (fun h43 => ?_) (fun h43 => ?_)
          · --t
            refine w_k dX8_thingOf_50 ?_
            refine w_iret dX8_thingOf_51 rfl ?_
            rw [← hQ]
            exact ⟨congrArg (fun z => some (Value.int z)) (by unfold tOf; rw [if_neg h3, if_neg h13, if_neg h23, if_neg h33, if_neg h43]), rfl⟩
          · --f
            refine w_k dX8_thingOf_46 ?_
            refine w_goto dX8_thingOf_47 ?_
            refine w_iret dX8_thingOf_51 rfl ?_
            rw [← hQ]
            exact ⟨congrArg (fun z => some (Value.int z)) (by unfold tOf; rw [if_neg h3, if_neg h13, if_neg h23, if_neg h33, if_pos h43]), rfl⟩
        · --f
          refine w_k dX8_thingOf_36 ?_
          refine w_goto dX8_thingOf_37 ?_
          refine w_iret dX8_thingOf_51 rfl ?_
          rw [← hQ]
          exact ⟨congrArg (fun z => some (Value.int z)) (by unfold tOf; rw [if_neg h3, if_neg h13, if_neg h23, if_pos h33]), rfl⟩
      · --f
        refine w_k dX8_thingOf_26 ?_
        refine w_goto dX8_thingOf_27 ?_
        refine w_iret dX8_thingOf_51 rfl ?_
        rw [← hQ]
        exact ⟨congrArg (fun z => some (Value.int z)) (by unfold tOf; rw [if_neg h3, if_neg h13, if_pos h23]), rfl⟩
    · --f
      refine w_k dX8_thingOf_16 ?_
      refine w_goto dX8_thingOf_17 ?_
      refine w_iret dX8_thingOf_51 rfl ?_
      rw [← hQ]
      exact ⟨congrArg (fun z => some (Value.int z)) (by unfold tOf; rw [if_neg h3, if_pos h13]), rfl⟩
  · --f
    refine w_k dX8_thingOf_6 ?_
    refine w_goto dX8_thingOf_7 ?_
    refine w_iret dX8_thingOf_51 rfl ?_
    rw [← hQ]
    exact ⟨congrArg (fun z => some (Value.int z)) (by unfold tOf; rw [if_pos h3]), rfl⟩

set_option maxHeartbeats 4000000 in
theorem c_X8_byteAt (ρ : Rho) (σ : Sg) (k : Nat) (hM : MInv σ ρ) (hk : k < 1000) : CallOK 0 mX8_byteAt [.ref 47, .int (nI k)] ρ (fun r ρ2 => r = some (.int (bA σ k)) ∧ ρ2 = ρ) := by
  refine callOK_of 0 (by decide +kernel) rfl (fun _ => Nat.le_of_ble_eq_true rfl) (ls := [some (.ref 47), some (.int (nI k))]) rfl ?_
  generalize hQ : (fun r ρ2 => r = some (.int (bA σ k)) ∧ ρ2 = ρ : Option Value → Rho → Prop) = Q
  have w1 := hM.1.typed
  refine w_il dX8_byteAt_0 rfl ?_
  refine w_al dX8_byteAt_1 rfl ?_
  refine w_giV (v := (nI (σ.1 47 0))) dX8_byteAt_2 fl_X8_93 sh47 rfl (hM.2.2.2 0 (by decide)) ?_
  refine w_icgeN dX8_byteAt_5 (by omega) (by omega) (fun h5 => ?_) (fun h5 => ?_)
  · --t
    refine w_k dX8_byteAt_17 ?_
    refine w_iret dX8_byteAt_18 rfl ?_
    rw [← hQ]
    exact ⟨congrArg (fun z => some (Value.int z)) (bA_ne (by omega)).symm, rfl⟩
  · --f
    refine w_al dX8_byteAt_8 rfl ?_
    refine w_gr dX8_byteAt_9 fl_X8_7 sh47 rfl ?_
    refine w_il dX8_byteAt_12 rfl ?_
    refine w_ialdV (v := (nI (σ.1 48 k))) dX8_byteAt_13 sh48 (by omega) (hM.2.1 48 (by decide) _) ?_
    refine w_goto dX8_byteAt_14 ?_
    refine w_iret dX8_byteAt_18 rfl ?_
    rw [← hQ]
    exact ⟨congrArg (fun z => some (Value.int z)) (bA_eq h5).symm, rfl⟩

set_option maxHeartbeats 4000000 in
theorem c_X8_mayBe0 (ρ : Rho) (nb : Nat) (v : Int32) (hb : ρ.1 47 4 = nI nb) : CallOK 1 mX8_mayBe [.ref 47, .int (nI 0), .int v] ρ (fun r ρ2 => r = some (.int (b2i (inR v (nI 0) (nI 7)))) ∧ ρ2 = ρ) := by
  refine callOK_of 1 (by decide +kernel) rfl (fun _ => Nat.le_of_ble_eq_true rfl) (ls := [some (.ref 47), some (.int (nI 0)), some (.int v), none]) rfl ?_
  generalize hQ : (fun r ρ2 => r = some (.int (b2i (inR v (nI 0) (nI 7)))) ∧ ρ2 = ρ : Option Value → Rho → Prop) = Q
  refine w_k dX8_mayBe_0 ?_
  refine w_al dX8_mayBe_1 rfl ?_
  refine w_giV (v := (nI nb)) dX8_mayBe_2 fl_X8_97 sh47 rfl (hb) ?_
  refine w_imulN dX8_mayBe_5 ?_
  refine w_is (ls2 := [some (.ref 47), some (.int (nI 0)), some (.int v), some (.int (nI (4 * nb)))]) dX8_mayBe_6 rfl ?_
  refine w_il dX8_mayBe_7 rfl ?_
  refine w_ifneN dX8_mayBe_8 (by omega) (fun h8 => ?_) (fun h8 => ?_)
  · --t
    exact absurd rfl h8
  · --f
    refine w_il dX8_mayBe_11 rfl ?_
    refine w_k dX8_mayBe_12 ?_
    refine w_k dX8_mayBe_13 ?_
    refine w_cSf dX8_mayBe_15 (sl_X8_89 _ rfl) (by decide) (c_X8_in ρ v (nI 0) (nI 7)) rfl rfl (Nat.le_of_ble_eq_true rfl) ?_
    refine w_goto dX8_mayBe_18 ?_
    refine w_zret dX8_mayBe_84 rfl (b2i_nar _) ?_
    rw [← hQ]
    exact ⟨rfl, rfl⟩

set_option maxHeartbeats 4000000 in
theorem c_X8_mayBe1 (ρ : Rho) (nb f0 : Nat) (v : Int32) (hb : ρ.1 47 4 = nI nb) (hn : nb < 4) (h0 : ρ.1 51 (4 * nb) = nI f0) : CallOK 1 mX8_mayBe [.ref 47, .int (nI 1), .int v] ρ (fun r ρ2 => r = some (.int (b2i (inR v (nI 0) (nI 7) ∧ v ≠ nI f0))) ∧ ρ2 = ρ) := by
  refine callOK_of 1 (by decide +kernel) rfl (fun _ => Nat.le_of_ble_eq_true rfl) (ls := [some (.ref 47), some (.int (nI 1)), some (.int v), none]) rfl ?_
  generalize hQ : (fun r ρ2 => r = some (.int (b2i (inR v (nI 0) (nI 7) ∧ v ≠ nI f0))) ∧ ρ2 = ρ : Option Value → Rho → Prop) = Q
  refine w_k dX8_mayBe_0 ?_
  refine w_al dX8_mayBe_1 rfl ?_
  refine w_giV (v := (nI nb)) dX8_mayBe_2 fl_X8_97 sh47 rfl (hb) ?_
  refine w_imulN dX8_mayBe_5 ?_
  refine w_is (ls2 := [some (.ref 47), some (.int (nI 1)), some (.int v), some (.int (nI (4 * nb)))]) dX8_mayBe_6 rfl ?_
  refine w_il dX8_mayBe_7 rfl ?_
  refine w_ifneN dX8_mayBe_8 (by omega) (fun h8 => ?_) (fun h8 => ?_)
  · --t
    refine w_il dX8_mayBe_21 rfl ?_
    refine w_k dX8_mayBe_22 ?_
    refine w_icneN dX8_mayBe_23 (by omega) (by omega) (fun h23 => ?_) (fun h23 => ?_)
    · --t
      exact absurd rfl h23
    · --f
      refine w_il dX8_mayBe_26 rfl ?_
      refine w_k dX8_mayBe_27 ?_
      refine w_k dX8_mayBe_28 ?_
      refine w_cSf dX8_mayBe_30 (sl_X8_89 _ rfl) (by decide) (c_X8_in ρ v (nI 0) (nI 7)) rfl rfl (Nat.le_of_ble_eq_true rfl) ?_
      refine w_ifeqB dX8_mayBe_33 (fun h33 => ?_) (fun h33 => ?_)
      · --t
        refine w_k dX8_mayBe_50 ?_
        refine w_goto dX8_mayBe_51 ?_
        refine w_zret dX8_mayBe_84 rfl rfl ?_
        rw [← hQ]
        exact ⟨congrArg (fun z => some (Value.int z)) (b2i_f (fun q => h33 q.1)).symm, rfl⟩
      · --f
        refine w_il dX8_mayBe_36 rfl ?_
        refine w_al dX8_mayBe_37 rfl ?_
        refine w_gr dX8_mayBe_38 fl_X8_19 sh47 rfl ?_
        refine w_il dX8_mayBe_41 rfl ?_
        refine w_ialdV (v := (nI f0)) dX8_mayBe_42 sh51 (by omega) (h0) ?_
        refine w_iceq dX8_mayBe_43 (fun h43 => ?_) (fun h43 => ?_)
        · --t
          refine w_k dX8_mayBe_50 ?_
          refine w_goto dX8_mayBe_51 ?_
          refine w_zret dX8_mayBe_84 rfl rfl ?_
          rw [← hQ]
          exact ⟨congrArg (fun z => some (Value.int z)) (b2i_f (fun q => q.2 h43)).symm, rfl⟩
        · --f
          refine w_k dX8_mayBe_46 ?_
          refine w_goto dX8_mayBe_47 ?_
          refine w_zret dX8_mayBe_84 rfl rfl ?_
          rw [← hQ]
          exact ⟨congrArg (fun z => some (Value.int z)) (b2i_t ⟨h33, h43⟩).symm, rfl⟩
  · --f
    exact absurd h8 (by decide)

set_option maxHeartbeats 4000000 in
theorem c_X8_mayBe2 (ρ : Rho) (nb : Nat) (v : Int32) (hb : ρ.1 47 4 = nI nb) : CallOK 1 mX8_mayBe [.ref 47, .int (nI 2), .int v] ρ (fun r ρ2 => r = some (.int (b2i (inR v (nI 1) (nI 8)))) ∧ ρ2 = ρ) := by
  refine callOK_of 1 (by decide +kernel) rfl (fun _ => Nat.le_of_ble_eq_true rfl) (ls := [some (.ref 47), some (.int (nI 2)), some (.int v), none]) rfl ?_
  generalize hQ : (fun r ρ2 => r = some (.int (b2i (inR v (nI 1) (nI 8)))) ∧ ρ2 = ρ : Option Value → Rho → Prop) = Q
  refine w_k dX8_mayBe_0 ?_
  refine w_al dX8_mayBe_1 rfl ?_
  refine w_giV (v := (nI nb)) dX8_mayBe_2 fl_X8_97 sh47 rfl (hb) ?_
  refine w_imulN dX8_mayBe_5 ?_
  refine w_is (ls2 := [some (.ref 47), some (.int (nI 2)), some (.int v), some (.int (nI (4 * nb)))]) dX8_mayBe_6 rfl ?_
  refine w_il dX8_mayBe_7 rfl ?_
  refine w_ifneN dX8_mayBe_8 (by omega) (fun h8 => ?_) (fun h8 => ?_)
  · --t
    refine w_il dX8_mayBe_21 rfl ?_
    refine w_k dX8_mayBe_22 ?_
    refine w_icneN dX8_mayBe_23 (by omega) (by omega) (fun h23 => ?_) (fun h23 => ?_)
    · --t
      refine w_il dX8_mayBe_54 rfl ?_
      refine w_k dX8_mayBe_55 ?_
      refine w_icneN dX8_mayBe_56 (by omega) (by omega) (fun h56 => ?_) (fun h56 => ?_)
      · --t
        exact absurd rfl h56
      · --f
        refine w_il dX8_mayBe_59 rfl ?_
        refine w_k dX8_mayBe_60 ?_
        refine w_k dX8_mayBe_61 ?_
        refine w_cSf dX8_mayBe_63 (sl_X8_89 _ rfl) (by decide) (c_X8_in ρ v (nI 1) (nI 8)) rfl rfl (Nat.le_of_ble_eq_true rfl) ?_
        refine w_goto dX8_mayBe_66 ?_
        refine w_zret dX8_mayBe_84 rfl (b2i_nar _) ?_
        rw [← hQ]
        exact ⟨rfl, rfl⟩
    · --f
      exact absurd h23 (by decide)
  · --f
    exact absurd h8 (by decide)

set_option maxHeartbeats 4000000 in
theorem c_X8_mayBe3 (ρ : Rho) (nb f2 : Nat) (v : Int32) (hb : ρ.1 47 4 = nI nb) (hn : nb < 4) (h2 : ρ.1 51 (4 * nb + 2) = nI f2) (hf : 1 ≤ f2) : CallOK 1 mX8_mayBe [.ref 47, .int (nI 3), .int v] ρ (fun r ρ2 => r = some (.int (b2i (inR v (nI 0) (nI (f2 - 1))))) ∧ ρ2 = ρ) := by
  refine callOK_of 1 (by decide +kernel) rfl (fun _ => Nat.le_of_ble_eq_true rfl) (ls := [some (.ref 47), some (.int (nI 3)), some (.int v), none]) rfl ?_
  generalize hQ : (fun r ρ2 => r = some (.int (b2i (inR v (nI 0) (nI (f2 - 1))))) ∧ ρ2 = ρ : Option Value → Rho → Prop) = Q
  refine w_k dX8_mayBe_0 ?_
  refine w_al dX8_mayBe_1 rfl ?_
  refine w_giV (v := (nI nb)) dX8_mayBe_2 fl_X8_97 sh47 rfl (hb) ?_
  refine w_imulN dX8_mayBe_5 ?_
  refine w_is (ls2 := [some (.ref 47), some (.int (nI 3)), some (.int v), some (.int (nI (4 * nb)))]) dX8_mayBe_6 rfl ?_
  refine w_il dX8_mayBe_7 rfl ?_
  refine w_ifneN dX8_mayBe_8 (by omega) (fun h8 => ?_) (fun h8 => ?_)
  · --t
    refine w_il dX8_mayBe_21 rfl ?_
    refine w_k dX8_mayBe_22 ?_
    refine w_icneN dX8_mayBe_23 (by omega) (by omega) (fun h23 => ?_) (fun h23 => ?_)
    · --t
      refine w_il dX8_mayBe_54 rfl ?_
      refine w_k dX8_mayBe_55 ?_
      refine w_icneN dX8_mayBe_56 (by omega) (by omega) (fun h56 => ?_) (fun h56 => ?_)
      · --t
        refine w_il dX8_mayBe_69 rfl ?_
        refine w_k dX8_mayBe_70 ?_
        refine w_al dX8_mayBe_71 rfl ?_
        refine w_gr dX8_mayBe_72 fl_X8_19 sh47 rfl ?_
        refine w_il dX8_mayBe_75 rfl ?_
        refine w_k dX8_mayBe_76 ?_
        refine w_iaddN dX8_mayBe_77 ?_
        refine w_ialdV (v := (nI f2)) dX8_mayBe_78 sh51 (by omega) (h2) ?_
        refine w_k dX8_mayBe_79 ?_
        refine w_isubN dX8_mayBe_80 (by omega) ?_
        refine w_cSf dX8_mayBe_81 (sl_X8_89 _ rfl) (by decide) (c_X8_in ρ v (nI 0) (nI (f2 - 1))) rfl rfl (Nat.le_of_ble_eq_true rfl) ?_
        refine w_zret dX8_mayBe_84 rfl (b2i_nar _) ?_
        rw [← hQ]
        exact ⟨rfl, rfl⟩
      · --f
        exact absurd h56 (by decide)
    · --f
      exact absurd h23 (by decide)
  · --f
    exact absurd h8 (by decide)

set_option maxHeartbeats 4000000 in
theorem c_X8_reads (ρ : Rho) (σ : Sg) (hM : MInv σ ρ) : CallOK 2 mX8_reads [.ref 47] ρ (fun r ρ2 => ∃ v, r = some v ∧ (v = .int (LPr σ).1 ∧ MInv σ ρ2 ∧ EqC ρ ρ2 ∧ ((LPr σ).1 = -1 → (∀ p, p < 8 → ρ2.1 49 p = tOf (bA σ p)) ∧ (∀ p, p < 8 → ρ2.1 50 p = nI ((LPr σ).2.1 p)) ∧ ρ2.1 47 4 = nI (LPr σ).2.2.1 ∧ ∀ i, i < 4 * (LPr σ).2.2.1 → ρ2.1 51 i = nI ((LPr σ).2.2.2 i)))) := by
  refine callOK_of 3 (by decide +kernel) rfl (fun _ => Nat.le_of_ble_eq_true rfl) (ls := [some (.ref 47), none, none, none]) rfl ?_
  generalize hQ : (fun r ρ2 => ∃ v, r = some v ∧ (v = .int (LPr σ).1 ∧ MInv σ ρ2 ∧ EqC ρ ρ2 ∧ ((LPr σ).1 = -1 → (∀ p, p < 8 → ρ2.1 49 p = tOf (bA σ p)) ∧ (∀ p, p < 8 → ρ2.1 50 p = nI ((LPr σ).2.1 p)) ∧ ρ2.1 47 4 = nI (LPr σ).2.2.1 ∧ ∀ i, i < 4 * (LPr σ).2.2.1 → ρ2.1 51 i = nI ((LPr σ).2.2.2 i))) : Option Value → Rho → Prop) = Q
  have w1 := hM.1.typed
  refine w_al dX8_reads_0 rfl ?_
  refine w_k dX8_reads_1 ?_
  refine w_pi dX8_reads_2 fp_X8_97 sh47 rfl rfl rfl ?_
  refine w_k dX8_reads_5 ?_
  refine w_is (ls2 := [some (.ref 47), some (.int (nI 0)), none, none]) dX8_reads_6 rfl ?_
  have L7 : ∀ (n7 : Nat) (p : Nat) (ρ1 : Rho), (p ≤ 8) → (MInv σ ρ1) → (EqC ρ ρ1) → (ρ1.1 47 4 = nI 0) → (∀ q, q < p → ρ1.1 50 q = nI 0) → (8 - p) < n7 → MW mX8_reads 2 7 [some (.ref 47), some (.int (nI p)), none, none] [] ρ1 Q := by
    intro n7
    induction n7 with
    | zero =>
      intro p ρ1 hp1 hM1 hE1 hb1 hc1 hm7
      exact absurd hm7 (Nat.not_lt_zero _)
    | succ n7 ih7 =>
      intro p ρ1 hp1 hM1 hE1 hb1 hc1 hm7
      refine w_il dX8_reads_7 rfl ?_
      refine w_k dX8_reads_8 ?_
      refine w_icgeN dX8_reads_10 (by omega) (by omega) (fun h10 => ?_) (fun h10 => ?_)
      · --t
        refine w_k dX8_reads_26 ?_
        refine w_is (ls2 := [some (.ref 47), some (.int (nI 0)), none, none]) dX8_reads_27 rfl ?_
        have L28 : ∀ (n28 : Nat) (p : Nat) (ρ2 : Rho), (p ≤ 8) → (MInv σ ρ2) → (EqC ρ ρ2) → (ρ2.1 47 4 = nI 0) → (∀ q, q < 8 → ρ2.1 50 q = nI 0) → (∀ q, q < p → ρ2.1 49 q = tOf (bA σ q)) → (fsg σ (8 - p) p = fsg σ 8 0) → (8 - p) < n28 → MW mX8_reads 2 28 [some (.ref 47), some (.int (nI p)), none, none] [] ρ2 Q := by
          intro n28
          induction n28 with
          | zero =>
            intro p ρ2 hp2 hM2 hE2 hb2 hc2 ht2 hF2 hm28
            exact absurd hm28 (Nat.not_lt_zero _)
          | succ n28 ih28 =>
            intro p ρ2 hp2 hM2 hE2 hb2 hc2 ht2 hF2 hm28
            refine w_il dX8_reads_28 rfl ?_
            refine w_k dX8_reads_29 ?_
            refine w_icgeN dX8_reads_31 (by omega) (by omega) (fun h31 => ?_) (fun h31 => ?_)
            · --t
              refine w_k dX8_reads_66 ?_
              refine w_is (ls2 := [some (.ref 47), some (.int (nI 8)), none, none]) dX8_reads_68 rfl ?_
              have L69 : ∀ (n69 : Nat) (n : Nat) (a : Nat) (nb : Nat) (cl : Nat → Nat) (br : Nat → Nat) (ρ3 : Rho), (PP σ n a cl nb br = LPr σ) → (σ.1 47 0 ≤ a + n) → (a ≤ 66) → (MInv σ ρ3) → (EqC ρ ρ3) → (ρ3.1 47 4 = nI nb) → (brOK nb br) → (∀ q, q < 8 → ρ3.1 50 q = nI (cl q)) → (∀ q, q < 8 → ρ3.1 49 q = tOf (bA σ q)) → (∀ i, i < 4 * nb → ρ3.1 51 i = nI (br i)) → (σ.1 47 0 - a) < n69 → MW mX8_reads 2 69 [some (.ref 47), some (.int (nI a)), none, none] [] ρ3 Q := by
                intro n69
                induction n69 with
                | zero =>
                  intro n a nb cl br ρ3 hP3 hn3 ha3 hM3 hE3 hb3 hk3 hc3 ht3 hr3 hm69
                  exact absurd hm69 (Nat.not_lt_zero _)
                | succ n69 ih69 =>
                  intro n a nb cl br ρ3 hP3 hn3 ha3 hM3 hE3 hb3 hk3 hc3 ht3 hr3 hm69
                  have hn4 := hk3.1
                  refine w_il dX8_reads_69 rfl ?_
                  refine w_al dX8_reads_70 rfl ?_
                  refine w_giV (v := (nI (σ.1 47 0))) dX8_reads_71 fl_X8_93 sh47 rfl (hM3.2.2.2 0 (by decide)) ?_
                  refine w_icgeN dX8_reads_74 (by omega) (by omega) (fun h74 => ?_) (fun h74 => ?_)
                  · --t
                    refine w_k dX8_reads_226 ?_
                    refine w_iret dX8_reads_227 rfl ?_
                    rw [← hQ]
                    have e : LPr σ = (-1, cl, nb, br) := by rw [← hP3]; exact PP_end (by omega)
                    exact ⟨_, rfl, by rw [e], hM3, hE3, fun _ => by rw [e]; exact ⟨ht3, hc3, hb3, hr3⟩⟩
                  · --f
                    have wt := hM3.1.text a
                    obtain ⟨m3, rfl⟩ : ∃ m, n = m + 1 := ⟨n - 1, by omega⟩
                    refine w_al dX8_reads_77 rfl ?_
                    refine w_gr dX8_reads_78 fl_X8_7 sh47 rfl ?_
                    refine w_il dX8_reads_81 rfl ?_
                    refine w_ialdV (v := (nI (σ.1 48 a))) dX8_reads_82 sh48 (by omega) (hM3.2.1 48 (by decide) _) ?_
                    refine w_k dX8_reads_83 ?_
                    refine w_iceqN dX8_reads_85 (by omega) (by omega) (fun h85 => ?_) (fun h85 => ?_)
                    · --t
                      refine w_iincN (ls2 := [some (.ref 47), some (.int (nI (a + 1))), none, none]) dX8_reads_90 rfl rfl ?_
                      refine w_al dX8_reads_93 rfl ?_
                      refine w_il dX8_reads_94 rfl ?_
                      refine w_cVf dX8_reads_95 (vl_X8_100 _ rfl) sh47 (by decide) (c_X8_byteAt ρ3 σ (a + 1) hM3 (by omega)) rfl rfl (Nat.le_of_ble_eq_true rfl) ?_
                      refine w_k dX8_reads_98 ?_
                      refine w_icne dX8_reads_100 (fun h100 => ?_) (fun h100 => ?_)
                      · --t
                        refine w_al dX8_reads_140 rfl ?_
                        refine w_il dX8_reads_141 rfl ?_
                        refine w_cVf dX8_reads_142 (vl_X8_100 _ rfl) sh47 (by decide) (c_X8_byteAt ρ3 σ (a + 1) hM3 (by omega)) rfl rfl (Nat.le_of_ble_eq_true rfl) ?_
                        refine w_k dX8_reads_145 ?_
                        refine w_icne dX8_reads_147 (fun h147 => ?_) (fun h147 => ?_)
                        · --t
                          refine w_il dX8_reads_224 rfl ?_
                          refine w_iret dX8_reads_225 rfl ?_
                          rw [← hQ]
                          have e : LPr σ = ((nI (a + 1)), cl, nb, br) := by rw [← hP3]; exact PP_k (by omega) h85 h100 (fun q => h147 q.1)
                          exact ⟨_, rfl, by rw [e], hM3, hE3, fun h => absurd (by rw [e] at h; exact h) (nIneg (by omega))⟩
                        · --f
                          refine w_al dX8_reads_150 rfl ?_
                          refine w_giV (v := (nI nb)) dX8_reads_151 fl_X8_97 sh47 rfl (hb3) ?_
                          refine w_k dX8_reads_154 ?_
                          refine w_icgeN dX8_reads_155 (by omega) (by omega) (fun h155 => ?_) (fun h155 => ?_)
                          · --t
                            refine w_il dX8_reads_224 rfl ?_
                            refine w_iret dX8_reads_225 rfl ?_
                            rw [← hQ]
                            have e : LPr σ = ((nI (a + 1)), cl, nb, br) := by rw [← hP3]; exact PP_k (by omega) h85 h100 (fun q => absurd q.2 (by omega))
                            exact ⟨_, rfl, by rw [e], hM3, hE3, fun h => absurd (by rw [e] at h; exact h) (nIneg (by omega))⟩
                          · --f
                            refine w_iincN (ls2 := [some (.ref 47), some (.int (nI (a + 2))), none, none]) dX8_reads_158 rfl rfl ?_
                            refine w_k dX8_reads_161 ?_
                            refine w_is (ls2 := [some (.ref 47), some (.int (nI (a + 2))), some (.int (nI 0)), none]) dX8_reads_162 rfl ?_
                            refine w_il dX8_reads_163 rfl ?_
                            refine w_k dX8_reads_164 ?_
                            refine w_icgeN dX8_reads_165 (by omega) (by omega) (fun h165 => ?_) (fun h165 => ?_)
                            · --t
                              exact absurd h165 (by decide)
                            · --f
                              refine w_al dX8_reads_168 rfl ?_
                              refine w_il dX8_reads_169 rfl ?_
                              refine w_cVf dX8_reads_170 (vl_X8_100 _ rfl) sh47 (by decide) (c_X8_byteAt ρ3 σ (a + 2) hM3 (by omega)) rfl rfl (Nat.le_of_ble_eq_true rfl) ?_
                              refine w_k dX8_reads_173 ?_
                              refine w_isub dX8_reads_175 ?_
                              refine w_is (ls2 := [some (.ref 47), some (.int (nI (a + 2))), some (.int (nI 0)), some (.int ((bA σ (a + 2)) - (nI 48)))]) dX8_reads_176 rfl ?_
                              refine w_al dX8_reads_177 rfl ?_
                              refine w_il dX8_reads_178 rfl ?_
                              refine w_il dX8_reads_179 rfl ?_
                              refine w_cVf dX8_reads_180 (vl_X8_107 _ rfl) sh47 (by decide) (c_X8_mayBe0 ρ3 nb ((bA σ (a + 2)) - (nI 48)) hb3) rfl rfl (Nat.le_of_ble_eq_true rfl) ?_
                              refine w_ifneB dX8_reads_183 (fun h183 => ?_) (fun h183 => ?_)
                              · --t
                                have g0 := ((dg_in hM3.1 (a + 2) 0 7 (by omega) (by omega)).mp h183).2
                                rw [dg_val hM3.1 (k := a + 2) (by omega)]
                                refine w_al dX8_reads_188 rfl ?_
                                refine w_gr dX8_reads_189 fl_X8_19 sh47 rfl ?_
                                refine w_k dX8_reads_192 ?_
                                refine w_al dX8_reads_193 rfl ?_
                                refine w_giV (v := (nI nb)) dX8_reads_194 fl_X8_97 sh47 rfl (hb3) ?_
                                refine w_imulN dX8_reads_197 ?_
                                refine w_il dX8_reads_198 rfl ?_
                                refine w_iaddN dX8_reads_199 ?_
                                refine w_il dX8_reads_200 rfl ?_
                                refine w_iastN dX8_reads_201 sh51 (by omega) ?_
                                refine w_iincN (ls2 := [some (.ref 47), some (.int (nI (a + 3))), some (.int (nI 0)), some (.int (nI (dg σ (a + 2))))]) dX8_reads_202 rfl rfl ?_
                                refine w_iincN (ls2 := [some (.ref 47), some (.int (nI (a + 3))), some (.int (nI 1)), some (.int (nI (dg σ (a + 2))))]) dX8_reads_205 rfl rfl ?_
                                refine w_goto dX8_reads_208 ?_
                                refine w_il dX8_reads_163 rfl ?_
                                refine w_k dX8_reads_164 ?_
                                refine w_icgeN dX8_reads_165 (by omega) (by omega) (fun h165 => ?_) (fun h165 => ?_)
                                · --t
                                  exact absurd h165 (by decide)
                                · --f
                                  refine w_al dX8_reads_168 rfl ?_
                                  refine w_il dX8_reads_169 rfl ?_
                                  refine w_cVf dX8_reads_170 (vl_X8_100 _ rfl) sh47 (by decide) (c_X8_byteAt (wI ρ3 51 (4 * nb) (nI (dg σ (a + 2)))) σ (a + 3) (MInv.wk hM3 (by decide)) (by omega)) rfl rfl (Nat.le_of_ble_eq_true rfl) ?_
                                  refine w_k dX8_reads_173 ?_
                                  refine w_isub dX8_reads_175 ?_
                                  refine w_is (ls2 := [some (.ref 47), some (.int (nI (a + 3))), some (.int (nI 1)), some (.int ((bA σ (a + 3)) - (nI 48)))]) dX8_reads_176 rfl ?_
                                  refine w_al dX8_reads_177 rfl ?_
                                  refine w_il dX8_reads_178 rfl ?_
                                  refine w_il dX8_reads_179 rfl ?_
                                  refine w_cVf dX8_reads_180 (vl_X8_107 _ rfl) sh47 (by decide) (c_X8_mayBe1 (wI ρ3 51 (4 * nb) (nI (dg σ (a + 2)))) nb (dg σ (a + 2)) ((bA σ (a + 3)) - (nI 48)) (rI_c (by decide) hb3) (by omega) rI_eq) rfl rfl (Nat.le_of_ble_eq_true rfl) ?_
                                  refine w_ifneB dX8_reads_183 (fun h183 => ?_) (fun h183 => ?_)
                                  · --t
                                    have g1a := ((dg_in hM3.1 (a + 3) 0 7 (by omega) (by omega)).mp h183.1).2
                                    have g1 : dg σ (a + 3) ≤ 7 ∧ dg σ (a + 3) ≠ dg σ (a + 2) := ⟨g1a, fun e => h183.2 (by rw [dg_val hM3.1 (by omega), e])⟩
                                    rw [dg_val hM3.1 (k := a + 3) (by omega)]
                                    refine w_al dX8_reads_188 rfl ?_
                                    refine w_gr dX8_reads_189 fl_X8_19 sh47 rfl ?_
                                    refine w_k dX8_reads_192 ?_
                                    refine w_al dX8_reads_193 rfl ?_
                                    refine w_giV (v := (nI nb)) dX8_reads_194 fl_X8_97 sh47 rfl ((rI_c (by decide) hb3)) ?_
                                    refine w_imulN dX8_reads_197 ?_
                                    refine w_il dX8_reads_198 rfl ?_
                                    refine w_iaddN dX8_reads_199 ?_
                                    refine w_il dX8_reads_200 rfl ?_
                                    refine w_iastN dX8_reads_201 sh51 (by omega) ?_
                                    refine w_iincN (ls2 := [some (.ref 47), some (.int (nI (a + 4))), some (.int (nI 1)), some (.int (nI (dg σ (a + 3))))]) dX8_reads_202 rfl rfl ?_
                                    refine w_iincN (ls2 := [some (.ref 47), some (.int (nI (a + 4))), some (.int (nI 2)), some (.int (nI (dg σ (a + 3))))]) dX8_reads_205 rfl rfl ?_
                                    refine w_goto dX8_reads_208 ?_
                                    refine w_il dX8_reads_163 rfl ?_
                                    refine w_k dX8_reads_164 ?_
                                    refine w_icgeN dX8_reads_165 (by omega) (by omega) (fun h165 => ?_) (fun h165 => ?_)
                                    · --t
                                      exact absurd h165 (by decide)
                                    · --f
                                      refine w_al dX8_reads_168 rfl ?_
                                      refine w_il dX8_reads_169 rfl ?_
                                      refine w_cVf dX8_reads_170 (vl_X8_100 _ rfl) sh47 (by decide) (c_X8_byteAt (wI (wI ρ3 51 (4 * nb) (nI (dg σ (a + 2)))) 51 (4 * nb + 1) (nI (dg σ (a + 3)))) σ (a + 4) (MInv.wk (MInv.wk hM3 (by decide)) (by decide)) (by omega)) rfl rfl (Nat.le_of_ble_eq_true rfl) ?_
                                      refine w_k dX8_reads_173 ?_
                                      refine w_isub dX8_reads_175 ?_
                                      refine w_is (ls2 := [some (.ref 47), some (.int (nI (a + 4))), some (.int (nI 2)), some (.int ((bA σ (a + 4)) - (nI 48)))]) dX8_reads_176 rfl ?_
                                      refine w_al dX8_reads_177 rfl ?_
                                      refine w_il dX8_reads_178 rfl ?_
                                      refine w_il dX8_reads_179 rfl ?_
                                      refine w_cVf dX8_reads_180 (vl_X8_107 _ rfl) sh47 (by decide) (c_X8_mayBe2 (wI (wI ρ3 51 (4 * nb) (nI (dg σ (a + 2)))) 51 (4 * nb + 1) (nI (dg σ (a + 3)))) nb ((bA σ (a + 4)) - (nI 48)) (rI_c (by decide) (rI_c (by decide) hb3))) rfl rfl (Nat.le_of_ble_eq_true rfl) ?_
                                      refine w_ifneB dX8_reads_183 (fun h183 => ?_) (fun h183 => ?_)
                                      · --t
                                        have g2 := (dg_in hM3.1 (a + 4) 1 8 (by omega) (by omega)).mp h183
                                        rw [dg_val hM3.1 (k := a + 4) (by omega)]
                                        refine w_al dX8_reads_188 rfl ?_
                                        refine w_gr dX8_reads_189 fl_X8_19 sh47 rfl ?_
                                        refine w_k dX8_reads_192 ?_
                                        refine w_al dX8_reads_193 rfl ?_
                                        refine w_giV (v := (nI nb)) dX8_reads_194 fl_X8_97 sh47 rfl ((rI_c (by decide) (rI_c (by decide) hb3))) ?_
                                        refine w_imulN dX8_reads_197 ?_
                                        refine w_il dX8_reads_198 rfl ?_
                                        refine w_iaddN dX8_reads_199 ?_
                                        refine w_il dX8_reads_200 rfl ?_
                                        refine w_iastN dX8_reads_201 sh51 (by omega) ?_
                                        refine w_iincN (ls2 := [some (.ref 47), some (.int (nI (a + 5))), some (.int (nI 2)), some (.int (nI (dg σ (a + 4))))]) dX8_reads_202 rfl rfl ?_
                                        refine w_iincN (ls2 := [some (.ref 47), some (.int (nI (a + 5))), some (.int (nI 3)), some (.int (nI (dg σ (a + 4))))]) dX8_reads_205 rfl rfl ?_
                                        refine w_goto dX8_reads_208 ?_
                                        refine w_il dX8_reads_163 rfl ?_
                                        refine w_k dX8_reads_164 ?_
                                        refine w_icgeN dX8_reads_165 (by omega) (by omega) (fun h165 => ?_) (fun h165 => ?_)
                                        · --t
                                          exact absurd h165 (by decide)
                                        · --f
                                          refine w_al dX8_reads_168 rfl ?_
                                          refine w_il dX8_reads_169 rfl ?_
                                          refine w_cVf dX8_reads_170 (vl_X8_100 _ rfl) sh47 (by decide) (c_X8_byteAt (wI (wI (wI ρ3 51 (4 * nb) (nI (dg σ (a + 2)))) 51 (4 * nb + 1) (nI (dg σ (a + 3)))) 51 (4 * nb + 2) (nI (dg σ (a + 4)))) σ (a + 5) (MInv.wk (MInv.wk (MInv.wk hM3 (by decide)) (by decide)) (by decide)) (by omega)) rfl rfl (Nat.le_of_ble_eq_true rfl) ?_
                                          refine w_k dX8_reads_173 ?_
                                          refine w_isub dX8_reads_175 ?_
                                          refine w_is (ls2 := [some (.ref 47), some (.int (nI (a + 5))), some (.int (nI 3)), some (.int ((bA σ (a + 5)) - (nI 48)))]) dX8_reads_176 rfl ?_
                                          refine w_al dX8_reads_177 rfl ?_
                                          refine w_il dX8_reads_178 rfl ?_
                                          refine w_il dX8_reads_179 rfl ?_
                                          refine w_cVf dX8_reads_180 (vl_X8_107 _ rfl) sh47 (by decide) (c_X8_mayBe3 (wI (wI (wI ρ3 51 (4 * nb) (nI (dg σ (a + 2)))) 51 (4 * nb + 1) (nI (dg σ (a + 3)))) 51 (4 * nb + 2) (nI (dg σ (a + 4)))) nb (dg σ (a + 4)) ((bA σ (a + 5)) - (nI 48)) (rI_c (by decide) (rI_c (by decide) (rI_c (by decide) hb3))) (by omega) rI_eq g2.1) rfl rfl (Nat.le_of_ble_eq_true rfl) ?_
                                          refine w_ifneB dX8_reads_183 (fun h183 => ?_) (fun h183 => ?_)
                                          · --t
                                            have g3a := ((dg_in hM3.1 (a + 5) 0 (dg σ (a + 4) - 1) (by omega) (by omega)).mp h183).2
                                            have g3 : dg σ (a + 5) < dg σ (a + 4) := by omega
                                            rw [dg_val hM3.1 (k := a + 5) (by omega)]
                                            refine w_al dX8_reads_188 rfl ?_
                                            refine w_gr dX8_reads_189 fl_X8_19 sh47 rfl ?_
                                            refine w_k dX8_reads_192 ?_
                                            refine w_al dX8_reads_193 rfl ?_
                                            refine w_giV (v := (nI nb)) dX8_reads_194 fl_X8_97 sh47 rfl ((rI_c (by decide) (rI_c (by decide) (rI_c (by decide) hb3)))) ?_
                                            refine w_imulN dX8_reads_197 ?_
                                            refine w_il dX8_reads_198 rfl ?_
                                            refine w_iaddN dX8_reads_199 ?_
                                            refine w_il dX8_reads_200 rfl ?_
                                            refine w_iastN dX8_reads_201 sh51 (by omega) ?_
                                            refine w_iincN (ls2 := [some (.ref 47), some (.int (nI (a + 6))), some (.int (nI 3)), some (.int (nI (dg σ (a + 5))))]) dX8_reads_202 rfl rfl ?_
                                            refine w_iincN (ls2 := [some (.ref 47), some (.int (nI (a + 6))), some (.int (nI 4)), some (.int (nI (dg σ (a + 5))))]) dX8_reads_205 rfl rfl ?_
                                            refine w_goto dX8_reads_208 ?_
                                            refine w_il dX8_reads_163 rfl ?_
                                            refine w_k dX8_reads_164 ?_
                                            refine w_icgeN dX8_reads_165 (by omega) (by omega) (fun h165 => ?_) (fun h165 => ?_)
                                            · --t
                                              refine w_al dX8_reads_211 rfl ?_
                                              refine w_dup dX8_reads_212 rfl ?_
                                              refine w_giV (v := (nI nb)) dX8_reads_213 fl_X8_97 sh47 rfl ((rI_c (by decide) (rI_c (by decide) (rI_c (by decide) (rI_c (by decide) hb3))))) ?_
                                              refine w_k dX8_reads_216 ?_
                                              refine w_iaddN dX8_reads_217 ?_
                                              refine w_pi dX8_reads_218 fp_X8_97 sh47 rfl rfl rfl ?_
                                              refine w_goto dX8_reads_221 ?_
                                              refine w_weak (ls2 := [some (.ref 47), some (.int (nI (a + 6))), none, none]) ⟨rfl, ⟨rfl, trivial⟩⟩ ?_
                                              exact ih69 m3 (a + 6) (nb + 1) cl (br4 br nb (dg σ (a + 2)) (dg σ (a + 3)) (dg σ (a + 4)) (dg σ (a + 5))) (wI (wI (wI (wI (wI ρ3 51 (4 * nb) (nI (dg σ (a + 2)))) 51 (4 * nb + 1) (nI (dg σ (a + 3)))) 51 (4 * nb + 2) (nI (dg σ (a + 4)))) 51 (4 * nb + 3) (nI (dg σ (a + 5)))) 47 4 (nI (nb + 1))) (by rw [← hP3]; exact (PP_b (by omega) h85 h100 ⟨h147, by omega⟩ g0 g1 g2 g3).symm) (by omega) (by omega) ((MInv.w (MInv.wk (MInv.wk (MInv.wk (MInv.wk hM3 (by decide)) (by decide)) (by decide)) (by decide)) (by decide))) ((EqC.w (EqC.w (EqC.w (EqC.w (EqC.w hE3 (by decide)) (by decide)) (by decide)) (by decide)) (by decide))) (rI_eq) (brOK_4 hk3 (by omega) g0 g1.1 g1.2 g2.1 g2.2 g3) (keepA (f := fun q => nI (cl q)) (by decide) (keepA (f := fun q => nI (cl q)) (by decide) (keepA (f := fun q => nI (cl q)) (by decide) (keepA (f := fun q => nI (cl q)) (by decide) (keepA (f := fun q => nI (cl q)) (by decide) hc3))))) (keepA (f := fun q => tOf (bA σ q)) (by decide) (keepA (f := fun q => tOf (bA σ q)) (by decide) (keepA (f := fun q => tOf (bA σ q)) (by decide) (keepA (f := fun q => tOf (bA σ q)) (by decide) (keepA (f := fun q => tOf (bA σ q)) (by decide) ht3))))) (fun i hi => rI_c (by decide) (br4_ext hr3 i hi)) (by omega)
                                            · --f
                                              exact absurd h165 (by decide)
                                          · --f
                                            refine w_il dX8_reads_186 rfl ?_
                                            refine w_iret dX8_reads_187 rfl ?_
                                            rw [← hQ]
                                            have e : LPr σ = ((nI (a + 5)), cl, nb, br) := by rw [← hP3]; exact PP_b3 (by omega) h85 h100 ⟨h147, by omega⟩ g0 g1 g2 (fun q => h183 ((dg_in hM3.1 (a + 5) 0 (dg σ (a + 4) - 1) (by omega) (by omega)).mpr ⟨Nat.zero_le _, by omega⟩))
                                            exact ⟨_, rfl, by rw [e], (MInv.wk (MInv.wk (MInv.wk hM3 (by decide)) (by decide)) (by decide)), (EqC.w (EqC.w (EqC.w hE3 (by decide)) (by decide)) (by decide)), fun h => absurd (by rw [e] at h; exact h) (nIneg (by omega))⟩
                                      · --f
                                        refine w_il dX8_reads_186 rfl ?_
                                        refine w_iret dX8_reads_187 rfl ?_
                                        rw [← hQ]
                                        have e : LPr σ = ((nI (a + 4)), cl, nb, br) := by rw [← hP3]; exact PP_b2 (by omega) h85 h100 ⟨h147, by omega⟩ g0 g1 (fun q => h183 ((dg_in hM3.1 (a + 4) 1 8 (by omega) (by omega)).mpr q))
                                        exact ⟨_, rfl, by rw [e], (MInv.wk (MInv.wk hM3 (by decide)) (by decide)), (EqC.w (EqC.w hE3 (by decide)) (by decide)), fun h => absurd (by rw [e] at h; exact h) (nIneg (by omega))⟩
                                  · --f
                                    refine w_il dX8_reads_186 rfl ?_
                                    refine w_iret dX8_reads_187 rfl ?_
                                    rw [← hQ]
                                    have e : LPr σ = ((nI (a + 3)), cl, nb, br) := by rw [← hP3]; exact PP_b1 (by omega) h85 h100 ⟨h147, by omega⟩ g0 (fun q => h183 ⟨(dg_in hM3.1 (a + 3) 0 7 (by omega) (by omega)).mpr ⟨Nat.zero_le _, q.1⟩, fun e => q.2 (by rw [dg_val hM3.1 (by omega)] at e; exact (nI_eq (by omega) (by omega)).mp e)⟩)
                                    exact ⟨_, rfl, by rw [e], (MInv.wk hM3 (by decide)), (EqC.w hE3 (by decide)), fun h => absurd (by rw [e] at h; exact h) (nIneg (by omega))⟩
                              · --f
                                refine w_il dX8_reads_186 rfl ?_
                                refine w_iret dX8_reads_187 rfl ?_
                                rw [← hQ]
                                have e : LPr σ = ((nI (a + 2)), cl, nb, br) := by rw [← hP3]; exact PP_b0 (by omega) h85 h100 ⟨h147, by omega⟩ (fun q => h183 ((dg_in hM3.1 (a + 2) 0 7 (by omega) (by omega)).mpr ⟨Nat.zero_le _, q⟩))
                                exact ⟨_, rfl, by rw [e], hM3, hE3, fun h => absurd (by rw [e] at h; exact h) (nIneg (by omega))⟩
                      · --f
                        refine w_iincN (ls2 := [some (.ref 47), some (.int (nI (a + 2))), none, none]) dX8_reads_103 rfl rfl ?_
                        refine w_al dX8_reads_106 rfl ?_
                        refine w_il dX8_reads_107 rfl ?_
                        refine w_cVf dX8_reads_108 (vl_X8_100 _ rfl) sh47 (by decide) (c_X8_byteAt ρ3 σ (a + 2) hM3 (by omega)) rfl rfl (Nat.le_of_ble_eq_true rfl) ?_
                        refine w_k dX8_reads_111 ?_
                        refine w_isub dX8_reads_113 ?_
                        refine w_is (ls2 := [some (.ref 47), some (.int (nI (a + 2))), some (.int ((bA σ (a + 2)) - (nI 48))), none]) dX8_reads_114 rfl ?_
                        refine w_il dX8_reads_115 rfl ?_
                        refine w_k dX8_reads_116 ?_
                        refine w_k dX8_reads_117 ?_
                        refine w_cSf dX8_reads_119 (sl_X8_89 _ rfl) (by decide) (c_X8_in ρ3 ((bA σ (a + 2)) - (nI 48)) (nI 0) (nI 7)) rfl rfl (Nat.le_of_ble_eq_true rfl) ?_
                        refine w_ifneB dX8_reads_122 (fun h122 => ?_) (fun h122 => ?_)
                        · --t
                          have g2 := ((dg_in hM3.1 (a + 2) 0 7 (by omega) (by omega)).mp h122).2
                          rw [dg_val hM3.1 (k := a + 2) (by omega)]
                          refine w_al dX8_reads_127 rfl ?_
                          refine w_gr dX8_reads_128 fl_X8_16 sh47 rfl ?_
                          refine w_il dX8_reads_131 rfl ?_
                          refine w_k dX8_reads_132 ?_
                          refine w_iastN dX8_reads_133 sh50 (by omega) ?_
                          refine w_iincN (ls2 := [some (.ref 47), some (.int (nI (a + 3))), some (.int (nI (dg σ (a + 2)))), none]) dX8_reads_134 rfl rfl ?_
                          refine w_goto dX8_reads_137 ?_
                          refine w_weak (ls2 := [some (.ref 47), some (.int (nI (a + 3))), none, none]) ⟨rfl, ⟨rfl, trivial⟩⟩ ?_
                          exact ih69 m3 (a + 3) nb (va_up cl (dg σ (a + 2)) 1) br (wI ρ3 50 (dg σ (a + 2)) (nI 1)) (by rw [← hP3]; exact (PP_x (by omega) h85 h100 g2).symm) (by omega) (by omega) ((MInv.wk hM3 (by decide))) ((EqC.w hE3 (by decide))) ((rI_c (by decide) hb3)) (hk3) (upd1 (f := fun q => nI (cl q)) (g := fun q => nI (va_up cl (dg σ (a + 2)) 1 q)) hc3 (by rw [va_up_eq]) (fun q hq => by rw [vup_ne hq])) (keepA (f := fun q => tOf (bA σ q)) (by decide) ht3) (keepA (f := fun q => nI (br q)) (by decide) hr3) (by omega)
                        · --f
                          refine w_il dX8_reads_125 rfl ?_
                          refine w_iret dX8_reads_126 rfl ?_
                          rw [← hQ]
                          have e : LPr σ = ((nI (a + 2)), cl, nb, br) := by rw [← hP3]; exact PP_xf (by omega) h85 h100 (fun q => h122 ((dg_in hM3.1 (a + 2) 0 7 (by omega) (by omega)).mpr ⟨Nat.zero_le _, q⟩))
                          exact ⟨_, rfl, by rw [e], hM3, hE3, fun h => absurd (by rw [e] at h; exact h) (nIneg (by omega))⟩
                    · --f
                      refine w_il dX8_reads_88 rfl ?_
                      refine w_iret dX8_reads_89 rfl ?_
                      rw [← hQ]
                      have e : LPr σ = ((nI a), cl, nb, br) := by rw [← hP3]; exact PP_semi (by omega) h85
                      exact ⟨_, rfl, by rw [e], hM3, hE3, fun h => absurd (by rw [e] at h; exact h) (nIneg (by omega))⟩
              exact L69 _ 60 8 0 (fun _ => 0) (fun _ => 0) ρ2 (fsg_e (by omega) (by omega) hF2) (by omega) (by omega) (hM2) (hE2) (hb2) (⟨Nat.zero_le _, fun k hk => absurd hk (Nat.not_lt_zero _)⟩) (hc2) (fun q hq => ht2 q (by omega)) (fun i hi => absurd hi (Nat.not_lt_zero _)) (Nat.lt_succ_self _)
            · --f
              refine w_al dX8_reads_34 rfl ?_
              refine w_gr dX8_reads_35 fl_X8_13 sh47 rfl ?_
              refine w_il dX8_reads_38 rfl ?_
              refine w_al dX8_reads_39 rfl ?_
              refine w_il dX8_reads_40 rfl ?_
              refine w_cVf dX8_reads_41 (vl_X8_100 _ rfl) sh47 (by decide) (c_X8_byteAt ρ2 σ p hM2 (by omega)) rfl rfl (Nat.le_of_ble_eq_true rfl) ?_
              refine w_cSf dX8_reads_44 (sl_X8_104 _ rfl) (by decide) (c_X8_thingOf ρ2 (bA σ p)) rfl rfl (Nat.le_of_ble_eq_true rfl) ?_
              refine w_iastN dX8_reads_47 sh49 (by omega) ?_
              refine w_al dX8_reads_48 rfl ?_
              refine w_gr dX8_reads_49 fl_X8_13 sh47 rfl ?_
              refine w_il dX8_reads_52 rfl ?_
              refine w_ialdV (v := (tOf (bA σ p))) dX8_reads_53 sh49 (by omega) (rI_eq) ?_
              refine w_k dX8_reads_54 ?_
              refine w_icne dX8_reads_55 (fun h55 => ?_) (fun h55 => ?_)
              · --t
                refine w_iincN (ls2 := [some (.ref 47), some (.int (nI (p + 1))), none, none]) dX8_reads_60 rfl rfl ?_
                refine w_goto dX8_reads_63 ?_
                exact ih28 (p + 1) (wI ρ2 49 p (tOf (bA σ p))) (by omega) ((MInv.wk hM2 (by decide))) ((EqC.w hE2 (by decide))) ((rI_c (by decide) hb2)) (keepA (f := fun _ => nI 0) (by decide) hc2) (ext1 (f := fun q => tOf (bA σ q)) ht2 rfl) (fsg_s (by omega) hF2 h55) (by omega)
              · --f
                refine w_il dX8_reads_58 rfl ?_
                refine w_iret dX8_reads_59 rfl ?_
                rw [← hQ]
                have e := fsg_t (by omega) hF2 h55
                exact ⟨_, rfl, by rw [e], (MInv.wk hM2 (by decide)), (EqC.w hE2 (by decide)), fun h => absurd (by rw [e] at h; exact h) (nIneg (by omega))⟩
        exact L28 _ 0 ρ1 (by omega) (hM1) (hE1) (hb1) (fun q hq => hc1 q (by omega)) (fun q hq => absurd hq (Nat.not_lt_zero _)) (rfl) (Nat.lt_succ_self _)
      · --f
        refine w_al dX8_reads_13 rfl ?_
        refine w_gr dX8_reads_14 fl_X8_16 sh47 rfl ?_
        refine w_il dX8_reads_17 rfl ?_
        refine w_k dX8_reads_18 ?_
        refine w_iastN dX8_reads_19 sh50 (by omega) ?_
        refine w_iincN (ls2 := [some (.ref 47), some (.int (nI (p + 1))), none, none]) dX8_reads_20 rfl rfl ?_
        refine w_goto dX8_reads_23 ?_
        exact ih7 (p + 1) (wI ρ1 50 p (nI 0)) (by omega) ((MInv.wk hM1 (by decide))) ((EqC.w hE1 (by decide))) ((rI_c (by decide) hb1)) (ext1 (f := fun _ => nI 0) hc1 rfl) (by omega)
  exact L7 _ 0 (wI ρ 47 4 (nI 0)) (by omega) ((MInv.w hM (by decide))) ((EqC.w EqC.rf (by decide))) (rI_eq) (fun q hq => absurd hq (Nat.not_lt_zero _)) (Nat.lt_succ_self _)

set_option maxHeartbeats 4000000 in
theorem c_X8_faultNow (ρ : Rho) (σ : Sg) (hM : MInv σ ρ) : CallOK 3 mX8_faultNow [.ref 47] ρ (fun r ρ2 => ∃ v, r = some v ∧ (v = .int (Flt σ) ∧ MInv σ ρ2 ∧ EqC ρ ρ2 ∧ LL σ ρ2)) := by
  refine callOK_of 2 (by decide +kernel) rfl (fun _ => Nat.le_of_ble_eq_true rfl) (ls := [some (.ref 47), none, none]) rfl ?_
  generalize hQ : (fun r ρ2 => ∃ v, r = some v ∧ (v = .int (Flt σ) ∧ MInv σ ρ2 ∧ EqC ρ ρ2 ∧ LL σ ρ2) : Option Value → Rho → Prop) = Q
  refine w_al dX8_faultNow_0 rfl ?_
  refine w_cVr dX8_faultNow_1 (vl_X8_111 _ rfl) sh47 (by decide) (c_X8_reads ρ σ hM) rfl rfl (Nat.le_of_ble_eq_true rfl) (fun vr1 ρr1 hr1 => ?_)
  obtain ⟨rfl, hMr1, hEr1, hLr1⟩ := hr1
  refine w_is (ls2 := [some (.ref 47), some (.int ((LPr σ).1)), none]) dX8_faultNow_4 rfl ?_
  refine w_il dX8_faultNow_5 rfl ?_
  refine w_k dX8_faultNow_6 ?_
  refine w_iceq dX8_faultNow_7 (fun h7 => ?_) (fun h7 => ?_)
  · --t
    refine w_il dX8_faultNow_43 rfl ?_
    refine w_iret dX8_faultNow_44 rfl ?_
    rw [← hQ]
    exact ⟨_, rfl, rfl, hMr1, (EqC.tr EqC.rf hEr1), LL_ok h7 (hLr1 h7)⟩
  · --f
    refine w_al dX8_faultNow_10 rfl ?_
    refine w_k dX8_faultNow_11 ?_
    refine w_pi dX8_faultNow_12 fp_X8_97 sh47 rfl rfl rfl ?_
    refine w_k dX8_faultNow_15 ?_
    refine w_is (ls2 := [some (.ref 47), some (.int ((LPr σ).1)), some (.int (nI 0))]) dX8_faultNow_16 rfl ?_
    have L17 : ∀ (n17 : Nat) (p : Nat) (ρ2 : Rho), (p ≤ 8) → (MInv σ ρ2) → (EqC ρ ρ2) → (ρ2.1 47 4 = nI 0) → (∀ q, q < p → ρ2.1 49 q = nI 0 ∧ ρ2.1 50 q = nI 0) → (8 - p) < n17 → MW mX8_faultNow 3 17 [some (.ref 47), some (.int ((LPr σ).1)), some (.int (nI p))] [] ρ2 Q := by
      intro n17
      induction n17 with
      | zero =>
        intro p ρ2 hp2 hM2 hE2 hb2 hz2 hm17
        exact absurd hm17 (Nat.not_lt_zero _)
      | succ n17 ih17 =>
        intro p ρ2 hp2 hM2 hE2 hb2 hz2 hm17
        refine w_il dX8_faultNow_17 rfl ?_
        refine w_k dX8_faultNow_18 ?_
        refine w_icgeN dX8_faultNow_20 (by omega) (by omega) (fun h20 => ?_) (fun h20 => ?_)
        · --t
          refine w_il dX8_faultNow_43 rfl ?_
          refine w_iret dX8_faultNow_44 rfl ?_
          rw [← hQ]
          exact ⟨_, rfl, rfl, hM2, hE2, LL_bad h7 (fun q hq => (hz2 q (by omega)).1) (fun q hq => (hz2 q (by omega)).2) hb2⟩
        · --f
          refine w_al dX8_faultNow_23 rfl ?_
          refine w_gr dX8_faultNow_24 fl_X8_13 sh47 rfl ?_
          refine w_il dX8_faultNow_27 rfl ?_
          refine w_k dX8_faultNow_28 ?_
          refine w_iastN dX8_faultNow_29 sh49 (by omega) ?_
          refine w_al dX8_faultNow_30 rfl ?_
          refine w_gr dX8_faultNow_31 fl_X8_16 sh47 rfl ?_
          refine w_il dX8_faultNow_34 rfl ?_
          refine w_k dX8_faultNow_35 ?_
          refine w_iastN dX8_faultNow_36 sh50 (by omega) ?_
          refine w_iincN (ls2 := [some (.ref 47), some (.int ((LPr σ).1)), some (.int (nI (p + 1)))]) dX8_faultNow_37 rfl rfl ?_
          refine w_goto dX8_faultNow_40 ?_
          exact ih17 (p + 1) (wI (wI ρ2 49 p (nI 0)) 50 p (nI 0)) (by omega) ((MInv.wk (MInv.wk hM2 (by decide)) (by decide))) ((EqC.w (EqC.w hE2 (by decide)) (by decide))) ((rI_c (by decide) (rI_c (by decide) hb2))) (fun q hq => ⟨keepA (f := fun _ => nI 0) (by decide) (ext1 (f := fun _ => nI 0) (fun q hq => (hz2 q hq).1) rfl) q hq, ext1 (f := fun _ => nI 0) (fun q hq => rI_c (by decide) (hz2 q hq).2) rfl q hq⟩) (by omega)
    exact L17 _ 0 (wI ρr1 47 4 (nI 0)) (by omega) ((MInv.w hMr1 (by decide))) ((EqC.w (EqC.tr EqC.rf hEr1) (by decide))) (rI_eq) (fun q hq => absurd hq (Nat.not_lt_zero _)) (Nat.lt_succ_self _)

set_option maxHeartbeats 4000000 in
theorem c_X8_doesCount (ρ : Rho) (σ : Sg) (k : Nat) (hM : MInv σ ρ) (hk : k < 60) : CallOK 0 mX8_doesCount [.ref 47, .int (nI k)] ρ (fun r ρ2 => r = some (.int (b2i (cntG σ k))) ∧ ρ2 = ρ) := by
  refine callOK_of 0 (by decide +kernel) rfl (fun _ => Nat.le_of_ble_eq_true rfl) (ls := [some (.ref 47), some (.int (nI k))]) rfl ?_
  generalize hQ : (fun r ρ2 => r = some (.int (b2i (cntG σ k))) ∧ ρ2 = ρ : Option Value → Rho → Prop) = Q
  have w1 := hM.1.told k
  have w2 := hM.1.asof
  refine w_al dX8_doesCount_0 rfl ?_
  refine w_gr dX8_doesCount_1 fl_X8_31 sh47 rfl ?_
  refine w_il dX8_doesCount_4 rfl ?_
  refine w_ialdV (v := (nI (σ.1 55 k))) dX8_doesCount_5 sh55 (by omega) (hM.2.1 55 (by decide) _) ?_
  refine w_al dX8_doesCount_6 rfl ?_
  refine w_gr dX8_doesCount_7 fl_X8_37 sh47 rfl ?_
  refine w_k dX8_doesCount_10 ?_
  refine w_ialdV (v := (nI (σ.1 57 0))) dX8_doesCount_11 sh57 (by omega) (hM.2.1 57 (by decide) _) ?_
  refine w_icgtN dX8_doesCount_12 (by omega) (by omega) (fun h12 => ?_) (fun h12 => ?_)
  · --t
    refine w_k dX8_doesCount_44 ?_
    refine w_zret dX8_doesCount_45 rfl rfl ?_
    rw [← hQ]
    exact ⟨congrArg (fun z => some (Value.int z)) (b2i_f (fun q => absurd q.1 (by omega))).symm, rfl⟩
  · --f
    refine w_al dX8_doesCount_15 rfl ?_
    refine w_gr dX8_doesCount_16 fl_X8_34 sh47 rfl ?_
    refine w_il dX8_doesCount_19 rfl ?_
    refine w_ialdV (v := (σ.2 56 k)) dX8_doesCount_20 sh56 (by omega) (hM.2.2.1 56 (by decide) _) ?_
    refine w_k dX8_doesCount_21 ?_
    refine w_iceq dX8_doesCount_22 (fun h22 => ?_) (fun h22 => ?_)
    · --t
      refine w_k dX8_doesCount_40 ?_
      refine w_goto dX8_doesCount_41 ?_
      refine w_zret dX8_doesCount_45 rfl rfl ?_
      rw [← hQ]
      exact ⟨congrArg (fun z => some (Value.int z)) (b2i_t ⟨h12, Or.inl h22⟩).symm, rfl⟩
    · --f
      refine w_al dX8_doesCount_25 rfl ?_
      refine w_gr dX8_doesCount_26 fl_X8_34 sh47 rfl ?_
      refine w_il dX8_doesCount_29 rfl ?_
      refine w_ialdV (v := (σ.2 56 k)) dX8_doesCount_30 sh56 (by omega) (hM.2.2.1 56 (by decide) _) ?_
      refine w_al dX8_doesCount_31 rfl ?_
      refine w_gr dX8_doesCount_32 fl_X8_37 sh47 rfl ?_
      refine w_k dX8_doesCount_35 ?_
      refine w_ialdV (v := (nI (σ.1 57 0))) dX8_doesCount_36 sh57 (by omega) (hM.2.1 57 (by decide) _) ?_
      refine w_icle dX8_doesCount_37 (fun h37 => ?_) (fun h37 => ?_)
      · --t
        refine w_k dX8_doesCount_44 ?_
        refine w_zret dX8_doesCount_45 rfl rfl ?_
        rw [← hQ]
        exact ⟨congrArg (fun z => some (Value.int z)) (b2i_f (fun q => q.2.elim h22 (fun z => absurd h37 (Int32.not_le.mpr z)))).symm, rfl⟩
      · --f
        refine w_k dX8_doesCount_40 ?_
        refine w_goto dX8_doesCount_41 ?_
        refine w_zret dX8_doesCount_45 rfl rfl ?_
        rw [← hQ]
        exact ⟨congrArg (fun z => some (Value.int z)) (b2i_t ⟨h12, Or.inr (Int32.not_le.mp h37)⟩).symm, rfl⟩

set_option maxHeartbeats 4000000 in
theorem c_X8_lays (ρ : Rho) (σ : Sg) (hM : MInv σ ρ) : CallOK 4 mX8_lays [.ref 47] ρ (fun r ρ2 => r = none ∧ (MInv σ ρ2 ∧ EqC ρ ρ2 ∧ Laid σ ρ2)) := by
  refine callOK_of 3 (by decide +kernel) rfl (fun _ => Nat.le_of_ble_eq_true rfl) (ls := [some (.ref 47), none, none, none]) rfl ?_
  generalize hQ : (fun r ρ2 => r = none ∧ (MInv σ ρ2 ∧ EqC ρ ρ2 ∧ Laid σ ρ2) : Option Value → Rho → Prop) = Q
  have w1 := hM.1.gales
  have w2 := hM.1.begin
  have w3 := hM.1.wing
  refine w_al dX8_lays_0 rfl ?_
  refine w_cVr dX8_lays_1 (vl_X8_115 _ rfl) sh47 (by decide) (c_X8_faultNow ρ σ hM) rfl rfl (Nat.le_of_ble_eq_true rfl) (fun vf1 ρf1 hf1 => ?_)
  obtain ⟨rfl, hMf1, hEf1, hLf1⟩ := hf1
  refine w_is (ls2 := [some (.ref 47), some (.int (Flt σ)), none, none]) dX8_lays_4 rfl ?_
  refine w_k dX8_lays_5 ?_
  refine w_is (ls2 := [some (.ref 47), some (.int (Flt σ)), some (.int (nI 0)), none]) dX8_lays_6 rfl ?_
  have L7 : ∀ (n7 : Nat) (p : Nat) (ρ1 : Rho), (p ≤ 100) → (MInv σ ρ1) → (EqC ρ ρ1) → (LL σ ρ1) → (∀ q, q < p → ρ1.1 58 q = nI (σ.1 57 2)) → (100 - p) < n7 → MW mX8_lays 4 7 [some (.ref 47), none, some (.int (nI p)), none] [] ρ1 Q := by
    intro n7
    induction n7 with
    | zero =>
      intro p ρ1 hp1 hM1 hE1 hL1 ht1 hm7
      exact absurd hm7 (Nat.not_lt_zero _)
    | succ n7 ih7 =>
      intro p ρ1 hp1 hM1 hE1 hL1 ht1 hm7
      refine w_il dX8_lays_7 rfl ?_
      refine w_k dX8_lays_8 ?_
      refine w_icgeN dX8_lays_10 (by omega) (by omega) (fun h10 => ?_) (fun h10 => ?_)
      · --t
        refine w_k dX8_lays_31 ?_
        refine w_is (ls2 := [some (.ref 47), none, some (.int (nI 0)), none]) dX8_lays_32 rfl ?_
        have L33 : ∀ (n33 : Nat) (k : Nat) (ρ2 : Rho), (k ≤ σ.1 47 7) → (MInv σ ρ2) → (EqC ρ ρ2) → (LL σ ρ2) → (∀ q, q < 100 → ρ2.1 58 q = nI ((σ.1 57 2 + sumT σ q k) % 8)) → (σ.1 47 7 - k) < n33 → MW mX8_lays 4 33 [some (.ref 47), none, some (.int (nI k)), none] [] ρ2 Q := by
          intro n33
          induction n33 with
          | zero =>
            intro k ρ2 hk2 hM2 hE2 hL2 ht2 hm33
            exact absurd hm33 (Nat.not_lt_zero _)
          | succ n33 ih33 =>
            intro k ρ2 hk2 hM2 hE2 hL2 ht2 hm33
            have wd := hM.1.day k
            have wf := hM.1.frm k
            refine w_il dX8_lays_33 rfl ?_
            refine w_al dX8_lays_34 rfl ?_
            refine w_giV (v := (nI (σ.1 47 7))) dX8_lays_35 fl_X8_129 sh47 rfl (hM2.2.2.2 7 (by decide)) ?_
            refine w_icgeN dX8_lays_38 (by omega) (by omega) (fun h38 => ?_) (fun h38 => ?_)
            · --t
              refine w_ret dX8_lays_109 rfl ?_
              rw [← hQ]
              exact ⟨rfl, hM2, hE2, hL2, fun q hq => by rw [ht2 q hq, show k = σ.1 47 7 by omega]; rfl⟩
            · --f
              refine w_al dX8_lays_41 rfl ?_
              refine w_gr dX8_lays_42 fl_X8_25 sh47 rfl ?_
              refine w_il dX8_lays_45 rfl ?_
              refine w_ialdV (v := (nI (σ.1 53 k))) dX8_lays_46 sh53 (by omega) (hM2.2.1 53 (by decide) _) ?_
              refine w_is (ls2 := [some (.ref 47), none, some (.int (nI k)), some (.int (nI (σ.1 53 k)))]) dX8_lays_47 rfl ?_
              have L48 : ∀ (n48 : Nat) (d : Nat) (ρ3 : Rho), (d ≤ 100) → (σ.1 53 k ≤ d) → (MInv σ ρ3) → (EqC ρ ρ3) → (LL σ ρ3) → (∀ q, q < 100 → ρ3.1 58 q = nI ((σ.1 57 2 + sumT σ q (if q < d then k + 1 else k)) % 8)) → (100 - d) < n48 → MW mX8_lays 4 48 [some (.ref 47), none, some (.int (nI k)), some (.int (nI d))] [] ρ3 Q := by
                intro n48
                induction n48 with
                | zero =>
                  intro d ρ3 hd3 hdd hM3 hE3 hL3 ht3 hm48
                  exact absurd hm48 (Nat.not_lt_zero _)
                | succ n48 ih48 =>
                  intro d ρ3 hd3 hdd hM3 hE3 hL3 ht3 hm48
                  refine w_il dX8_lays_48 rfl ?_
                  refine w_k dX8_lays_49 ?_
                  refine w_icgeN dX8_lays_51 (by omega) (by omega) (fun h51 => ?_) (fun h51 => ?_)
                  · --t
                    refine w_iincN (ls2 := [some (.ref 47), none, some (.int (nI (k + 1))), some (.int (nI d))]) dX8_lays_103 rfl rfl ?_
                    refine w_goto dX8_lays_106 ?_
                    refine w_weak (ls2 := [some (.ref 47), none, some (.int (nI (k + 1))), none]) ⟨rfl, ⟨rfl, trivial⟩⟩ ?_
                    exact ih33 (k + 1) ρ3 (by omega) (hM3) (hE3) (hL3) (fun q hq => by rw [ht3 q hq, if_pos (by omega)]) (by omega)
                  · --f
                    refine w_al dX8_lays_54 rfl ?_
                    refine w_il dX8_lays_55 rfl ?_
                    refine w_cVf dX8_lays_56 (vl_X8_142 _ rfl) sh47 (by decide) (c_X8_doesCount ρ3 σ k hM3 (by omega)) rfl rfl (Nat.le_of_ble_eq_true rfl) ?_
                    refine w_ifeqB dX8_lays_59 (fun h59 => ?_) (fun h59 => ?_)
                    · --t
                      refine w_iincN (ls2 := [some (.ref 47), none, some (.int (nI (k + 1))), some (.int (nI d))]) dX8_lays_103 rfl rfl ?_
                      refine w_goto dX8_lays_106 ?_
                      refine w_weak (ls2 := [some (.ref 47), none, some (.int (nI (k + 1))), none]) ⟨rfl, ⟨rfl, trivial⟩⟩ ?_
                      exact ih33 (k + 1) ρ3 (by omega) (hM3) (hE3) (hL3) (fun q hq => by rw [ht3 q hq]; split <;> first | rfl | rw [sumT_n (fun z => h59 z.1)]) (by omega)
                    · --f
                      refine w_al dX8_lays_62 rfl ?_
                      refine w_gr dX8_lays_63 fl_X8_40 sh47 rfl ?_
                      refine w_il dX8_lays_66 rfl ?_
                      refine w_al dX8_lays_67 rfl ?_
                      refine w_gr dX8_lays_68 fl_X8_40 sh47 rfl ?_
                      refine w_il dX8_lays_71 rfl ?_
                      refine w_ialdV (v := (nI ((σ.1 57 2 + sumT σ d k) % 8))) dX8_lays_72 sh58 (by omega) (by rw [ht3 d (by omega), if_neg (by omega)]) ?_
                      refine w_al dX8_lays_73 rfl ?_
                      refine w_gr dX8_lays_74 fl_X8_28 sh47 rfl ?_
                      refine w_il dX8_lays_77 rfl ?_
                      refine w_ialdV (v := (nI (σ.1 54 k))) dX8_lays_78 sh54 (by omega) (hM3.2.1 54 (by decide) _) ?_
                      refine w_ifneN dX8_lays_79 (by omega) (fun h79 => ?_) (fun h79 => ?_)
                      · --t
                        refine w_al dX8_lays_86 rfl ?_
                        refine w_gr dX8_lays_87 fl_X8_37 sh47 rfl ?_
                        refine w_k dX8_lays_90 ?_
                        refine w_ialdV (v := (nI (σ.1 57 1))) dX8_lays_91 sh57 (by omega) (hM3.2.1 57 (by decide) _) ?_
                        refine w_iaddN dX8_lays_92 ?_
                        refine w_k dX8_lays_93 ?_
                        refine w_iremN dX8_lays_95 (by omega) (by omega) (by omega) ?_
                        refine w_iastN dX8_lays_96 sh58 (by omega) ?_
                        refine w_iincN (ls2 := [some (.ref 47), none, some (.int (nI k)), some (.int (nI (d + 1)))]) dX8_lays_97 rfl rfl ?_
                        refine w_goto dX8_lays_100 ?_
                        exact ih48 (d + 1) (wI ρ3 58 d (nI (((σ.1 57 2 + sumT σ d k) % 8 + (σ.1 57 1)) % 8))) (by omega) (by omega) ((MInv.wk hM3 (by decide))) ((EqC.w hE3 (by decide))) ((LL.w hL3 (by decide))) (upd1 (f := fun q => nI ((σ.1 57 2 + sumT σ q (if q < d then k + 1 else k)) % 8)) (g := fun q => nI ((σ.1 57 2 + sumT σ q (if q < d + 1 then k + 1 else k)) % 8)) ht3 (by rw [if_pos (by omega), sumT_y ⟨h59, hdd⟩, incG, if_neg h79]; congr 1; omega) (fun q hq => by simp only [show (q < d + 1) = (q < d) by simp; omega])) (by omega)
                      · --f
                        refine w_k dX8_lays_82 ?_
                        refine w_goto dX8_lays_83 ?_
                        refine w_iaddN dX8_lays_92 ?_
                        refine w_k dX8_lays_93 ?_
                        refine w_iremN dX8_lays_95 (by omega) (by omega) (by omega) ?_
                        refine w_iastN dX8_lays_96 sh58 (by omega) ?_
                        refine w_iincN (ls2 := [some (.ref 47), none, some (.int (nI k)), some (.int (nI (d + 1)))]) dX8_lays_97 rfl rfl ?_
                        refine w_goto dX8_lays_100 ?_
                        exact ih48 (d + 1) (wI ρ3 58 d (nI (((σ.1 57 2 + sumT σ d k) % 8 + 1) % 8))) (by omega) (by omega) ((MInv.wk hM3 (by decide))) ((EqC.w hE3 (by decide))) ((LL.w hL3 (by decide))) (upd1 (f := fun q => nI ((σ.1 57 2 + sumT σ q (if q < d then k + 1 else k)) % 8)) (g := fun q => nI ((σ.1 57 2 + sumT σ q (if q < d + 1 then k + 1 else k)) % 8)) ht3 (by rw [if_pos (by omega), sumT_y ⟨h59, hdd⟩, incG, if_pos h79]; congr 1; omega) (fun q hq => by simp only [show (q < d + 1) = (q < d) by simp; omega])) (by omega)
              exact L48 _ (σ.1 53 k) ρ2 (by omega) (Nat.le_refl _) (hM2) (hE2) (hL2) (fun q hq => by rw [ht2 q hq]; split <;> first | rfl | rw [sumT_n (fun z => absurd z.2 (by omega))]) (Nat.lt_succ_self _)
        exact L33 _ 0 ρ1 (by omega) (hM1) (hE1) (hL1) (fun q hq => by rw [ht1 q (by omega)]; congr 1; show _ = (σ.1 57 2 + 0) % 8; omega) (Nat.lt_succ_self _)
      · --f
        refine w_al dX8_lays_13 rfl ?_
        refine w_gr dX8_lays_14 fl_X8_40 sh47 rfl ?_
        refine w_il dX8_lays_17 rfl ?_
        refine w_al dX8_lays_18 rfl ?_
        refine w_gr dX8_lays_19 fl_X8_37 sh47 rfl ?_
        refine w_k dX8_lays_22 ?_
        refine w_ialdV (v := (nI (σ.1 57 2))) dX8_lays_23 sh57 (by omega) (hM1.2.1 57 (by decide) _) ?_
        refine w_iastN dX8_lays_24 sh58 (by omega) ?_
        refine w_iincN (ls2 := [some (.ref 47), none, some (.int (nI (p + 1))), none]) dX8_lays_25 rfl rfl ?_
        refine w_goto dX8_lays_28 ?_
        exact ih7 (p + 1) (wI ρ1 58 p (nI (σ.1 57 2))) (by omega) ((MInv.wk hM1 (by decide))) ((EqC.w hE1 (by decide))) ((LL.w hL1 (by decide))) (ext1 (f := fun _ => nI (σ.1 57 2)) ht1 rfl) (by omega)
  refine w_weak (ls2 := [some (.ref 47), none, some (.int (nI 0)), none]) ⟨rfl, ⟨rfl, trivial⟩⟩ ?_
  exact L7 _ 0 ρf1 (by omega) (hMf1) ((EqC.tr EqC.rf hEf1)) (hLf1) (fun q hq => absurd hq (Nat.not_lt_zero _)) (Nat.lt_succ_self _)
