def bcE (x : Int32) : Int32 := ((((((((x - (((x.toUInt32 >>> ((nI 1).toUInt32 &&& Int32.toUInt32 31)).toInt32) &&& (nI 1431655765))) &&& (nI 858993459)) + ((((x - (((x.toUInt32 >>> ((nI 1).toUInt32 &&& Int32.toUInt32 31)).toInt32) &&& (nI 1431655765))).toUInt32 >>> ((nI 2).toUInt32 &&& Int32.toUInt32 31)).toInt32) &&& (nI 858993459))) + (((((x - (((x.toUInt32 >>> ((nI 1).toUInt32 &&& Int32.toUInt32 31)).toInt32) &&& (nI 1431655765))) &&& (nI 858993459)) + ((((x - (((x.toUInt32 >>> ((nI 1).toUInt32 &&& Int32.toUInt32 31)).toInt32) &&& (nI 1431655765))).toUInt32 >>> ((nI 2).toUInt32 &&& Int32.toUInt32 31)).toInt32) &&& (nI 858993459))).toUInt32 >>> ((nI 4).toUInt32 &&& Int32.toUInt32 31)).toInt32)) &&& (nI 252645135)) + (((((((x - (((x.toUInt32 >>> ((nI 1).toUInt32 &&& Int32.toUInt32 31)).toInt32) &&& (nI 1431655765))) &&& (nI 858993459)) + ((((x - (((x.toUInt32 >>> ((nI 1).toUInt32 &&& Int32.toUInt32 31)).toInt32) &&& (nI 1431655765))).toUInt32 >>> ((nI 2).toUInt32 &&& Int32.toUInt32 31)).toInt32) &&& (nI 858993459))) + (((((x - (((x.toUInt32 >>> ((nI 1).toUInt32 &&& Int32.toUInt32 31)).toInt32) &&& (nI 1431655765))) &&& (nI 858993459)) + ((((x - (((x.toUInt32 >>> ((nI 1).toUInt32 &&& Int32.toUInt32 31)).toInt32) &&& (nI 1431655765))).toUInt32 >>> ((nI 2).toUInt32 &&& Int32.toUInt32 31)).toInt32) &&& (nI 858993459))).toUInt32 >>> ((nI 4).toUInt32 &&& Int32.toUInt32 31)).toInt32)) &&& (nI 252645135)).toUInt32 >>> ((nI 8).toUInt32 &&& Int32.toUInt32 31)).toInt32)) + ((((((((x - (((x.toUInt32 >>> ((nI 1).toUInt32 &&& Int32.toUInt32 31)).toInt32) &&& (nI 1431655765))) &&& (nI 858993459)) + ((((x - (((x.toUInt32 >>> ((nI 1).toUInt32 &&& Int32.toUInt32 31)).toInt32) &&& (nI 1431655765))).toUInt32 >>> ((nI 2).toUInt32 &&& Int32.toUInt32 31)).toInt32) &&& (nI 858993459))) + (((((x - (((x.toUInt32 >>> ((nI 1).toUInt32 &&& Int32.toUInt32 31)).toInt32) &&& (nI 1431655765))) &&& (nI 858993459)) + ((((x - (((x.toUInt32 >>> ((nI 1).toUInt32 &&& Int32.toUInt32 31)).toInt32) &&& (nI 1431655765))).toUInt32 >>> ((nI 2).toUInt32 &&& Int32.toUInt32 31)).toInt32) &&& (nI 858993459))).toUInt32 >>> ((nI 4).toUInt32 &&& Int32.toUInt32 31)).toInt32)) &&& (nI 252645135)) + (((((((x - (((x.toUInt32 >>> ((nI 1).toUInt32 &&& Int32.toUInt32 31)).toInt32) &&& (nI 1431655765))) &&& (nI 858993459)) + ((((x - (((x.toUInt32 >>> ((nI 1).toUInt32 &&& Int32.toUInt32 31)).toInt32) &&& (nI 1431655765))).toUInt32 >>> ((nI 2).toUInt32 &&& Int32.toUInt32 31)).toInt32) &&& (nI 858993459))) + (((((x - (((x.toUInt32 >>> ((nI 1).toUInt32 &&& Int32.toUInt32 31)).toInt32) &&& (nI 1431655765))) &&& (nI 858993459)) + ((((x - (((x.toUInt32 >>> ((nI 1).toUInt32 &&& Int32.toUInt32 31)).toInt32) &&& (nI 1431655765))).toUInt32 >>> ((nI 2).toUInt32 &&& Int32.toUInt32 31)).toInt32) &&& (nI 858993459))).toUInt32 >>> ((nI 4).toUInt32 &&& Int32.toUInt32 31)).toInt32)) &&& (nI 252645135)).toUInt32 >>> ((nI 8).toUInt32 &&& Int32.toUInt32 31)).toInt32)).toUInt32 >>> ((nI 16).toUInt32 &&& Int32.toUInt32 31)).toInt32)) &&& (nI 63))
theorem bcE_t : ∀ t, t < 12 → bcE (nI (2 ^ (t + 1) - 1)) = nI (t + 1) := by decide +kernel
theorem bcE_0 : bcE (nI 0 ^^^ (nI 0 - nI 1)) = nI 32 := by decide +kernel
theorem bcE_c {c : Nat} (h : c < 4096) : bcE (nI c ^^^ (nI c - nI 1)) = nI (ub c) := by
  by_cases h0 : c = 0
  · subst h0; exact bcE_0
  · rw [xd_v c h (by omega), ub, if_neg h0]; exact bcE_t _ (tz_ok c h (by omega)).1
set_option maxHeartbeats 4000000 in
theorem c_bcx (ρ : Rho) (x : Int32) (v : Nat) (hx : bcE x = nI v) : CallOK 0 mJ6_bitCount_0f7a4 [.int x] ρ (fun r ρ2 => r = some (.int (nI v)) ∧ ρ2 = ρ) := by
  refine callOK_of 0 (by decide +kernel) rfl (fun _ => Nat.le_of_ble_eq_true rfl) (ls := [some (.int x)]) rfl ?_
  generalize hQ : (fun r ρ2 => r = some (.int (nI v)) ∧ ρ2 = ρ : Option Value → Rho → Prop) = Q
  refine w_il dJ6_bitCount_0f7a4_0 rfl ?_
  refine w_il dJ6_bitCount_0f7a4_1 rfl ?_
  refine w_k dJ6_bitCount_0f7a4_2 ?_
  refine w_iushr dJ6_bitCount_0f7a4_3 ?_
  refine w_k dJ6_bitCount_0f7a4_4 ?_
  refine w_iand dJ6_bitCount_0f7a4_7 ?_
  refine w_isub dJ6_bitCount_0f7a4_8 ?_
  refine w_is (ls2 := [some (.int (x - (((x.toUInt32 >>> ((nI 1).toUInt32 &&& Int32.toUInt32 31)).toInt32) &&& (nI 1431655765))))]) dJ6_bitCount_0f7a4_9 rfl ?_
  refine w_il dJ6_bitCount_0f7a4_10 rfl ?_
  refine w_k dJ6_bitCount_0f7a4_11 ?_
  refine w_iand dJ6_bitCount_0f7a4_14 ?_
  refine w_il dJ6_bitCount_0f7a4_15 rfl ?_
  refine w_k dJ6_bitCount_0f7a4_16 ?_
  refine w_iushr dJ6_bitCount_0f7a4_17 ?_
  refine w_k dJ6_bitCount_0f7a4_18 ?_
  refine w_iand dJ6_bitCount_0f7a4_21 ?_
  refine w_iadd dJ6_bitCount_0f7a4_22 ?_
  refine w_is (ls2 := [some (.int (((x - (((x.toUInt32 >>> ((nI 1).toUInt32 &&& Int32.toUInt32 31)).toInt32) &&& (nI 1431655765))) &&& (nI 858993459)) + ((((x - (((x.toUInt32 >>> ((nI 1).toUInt32 &&& Int32.toUInt32 31)).toInt32) &&& (nI 1431655765))).toUInt32 >>> ((nI 2).toUInt32 &&& Int32.toUInt32 31)).toInt32) &&& (nI 858993459))))]) dJ6_bitCount_0f7a4_23 rfl ?_
  refine w_il dJ6_bitCount_0f7a4_24 rfl ?_
  refine w_il dJ6_bitCount_0f7a4_25 rfl ?_
  refine w_k dJ6_bitCount_0f7a4_26 ?_
  refine w_iushr dJ6_bitCount_0f7a4_27 ?_
  refine w_iadd dJ6_bitCount_0f7a4_28 ?_
  refine w_k dJ6_bitCount_0f7a4_29 ?_
  refine w_iand dJ6_bitCount_0f7a4_32 ?_
  refine w_is (ls2 := [some (.int (((((x - (((x.toUInt32 >>> ((nI 1).toUInt32 &&& Int32.toUInt32 31)).toInt32) &&& (nI 1431655765))) &&& (nI 858993459)) + ((((x - (((x.toUInt32 >>> ((nI 1).toUInt32 &&& Int32.toUInt32 31)).toInt32) &&& (nI 1431655765))).toUInt32 >>> ((nI 2).toUInt32 &&& Int32.toUInt32 31)).toInt32) &&& (nI 858993459))) + (((((x - (((x.toUInt32 >>> ((nI 1).toUInt32 &&& Int32.toUInt32 31)).toInt32) &&& (nI 1431655765))) &&& (nI 858993459)) + ((((x - (((x.toUInt32 >>> ((nI 1).toUInt32 &&& Int32.toUInt32 31)).toInt32) &&& (nI 1431655765))).toUInt32 >>> ((nI 2).toUInt32 &&& Int32.toUInt32 31)).toInt32) &&& (nI 858993459))).toUInt32 >>> ((nI 4).toUInt32 &&& Int32.toUInt32 31)).toInt32)) &&& (nI 252645135)))]) dJ6_bitCount_0f7a4_33 rfl ?_
  refine w_il dJ6_bitCount_0f7a4_34 rfl ?_
  refine w_il dJ6_bitCount_0f7a4_35 rfl ?_
  refine w_k dJ6_bitCount_0f7a4_36 ?_
  refine w_iushr dJ6_bitCount_0f7a4_38 ?_
  refine w_iadd dJ6_bitCount_0f7a4_39 ?_
  refine w_is (ls2 := [some (.int ((((((x - (((x.toUInt32 >>> ((nI 1).toUInt32 &&& Int32.toUInt32 31)).toInt32) &&& (nI 1431655765))) &&& (nI 858993459)) + ((((x - (((x.toUInt32 >>> ((nI 1).toUInt32 &&& Int32.toUInt32 31)).toInt32) &&& (nI 1431655765))).toUInt32 >>> ((nI 2).toUInt32 &&& Int32.toUInt32 31)).toInt32) &&& (nI 858993459))) + (((((x - (((x.toUInt32 >>> ((nI 1).toUInt32 &&& Int32.toUInt32 31)).toInt32) &&& (nI 1431655765))) &&& (nI 858993459)) + ((((x - (((x.toUInt32 >>> ((nI 1).toUInt32 &&& Int32.toUInt32 31)).toInt32) &&& (nI 1431655765))).toUInt32 >>> ((nI 2).toUInt32 &&& Int32.toUInt32 31)).toInt32) &&& (nI 858993459))).toUInt32 >>> ((nI 4).toUInt32 &&& Int32.toUInt32 31)).toInt32)) &&& (nI 252645135)) + (((((((x - (((x.toUInt32 >>> ((nI 1).toUInt32 &&& Int32.toUInt32 31)).toInt32) &&& (nI 1431655765))) &&& (nI 858993459)) + ((((x - (((x.toUInt32 >>> ((nI 1).toUInt32 &&& Int32.toUInt32 31)).toInt32) &&& (nI 1431655765))).toUInt32 >>> ((nI 2).toUInt32 &&& Int32.toUInt32 31)).toInt32) &&& (nI 858993459))) + (((((x - (((x.toUInt32 >>> ((nI 1).toUInt32 &&& Int32.toUInt32 31)).toInt32) &&& (nI 1431655765))) &&& (nI 858993459)) + ((((x - (((x.toUInt32 >>> ((nI 1).toUInt32 &&& Int32.toUInt32 31)).toInt32) &&& (nI 1431655765))).toUInt32 >>> ((nI 2).toUInt32 &&& Int32.toUInt32 31)).toInt32) &&& (nI 858993459))).toUInt32 >>> ((nI 4).toUInt32 &&& Int32.toUInt32 31)).toInt32)) &&& (nI 252645135)).toUInt32 >>> ((nI 8).toUInt32 &&& Int32.toUInt32 31)).toInt32)))]) dJ6_bitCount_0f7a4_40 rfl ?_
  refine w_il dJ6_bitCount_0f7a4_41 rfl ?_
  refine w_il dJ6_bitCount_0f7a4_42 rfl ?_
  refine w_k dJ6_bitCount_0f7a4_43 ?_
  refine w_iushr dJ6_bitCount_0f7a4_45 ?_
  refine w_iadd dJ6_bitCount_0f7a4_46 ?_
  refine w_is (ls2 := [some (.int (((((((x - (((x.toUInt32 >>> ((nI 1).toUInt32 &&& Int32.toUInt32 31)).toInt32) &&& (nI 1431655765))) &&& (nI 858993459)) + ((((x - (((x.toUInt32 >>> ((nI 1).toUInt32 &&& Int32.toUInt32 31)).toInt32) &&& (nI 1431655765))).toUInt32 >>> ((nI 2).toUInt32 &&& Int32.toUInt32 31)).toInt32) &&& (nI 858993459))) + (((((x - (((x.toUInt32 >>> ((nI 1).toUInt32 &&& Int32.toUInt32 31)).toInt32) &&& (nI 1431655765))) &&& (nI 858993459)) + ((((x - (((x.toUInt32 >>> ((nI 1).toUInt32 &&& Int32.toUInt32 31)).toInt32) &&& (nI 1431655765))).toUInt32 >>> ((nI 2).toUInt32 &&& Int32.toUInt32 31)).toInt32) &&& (nI 858993459))).toUInt32 >>> ((nI 4).toUInt32 &&& Int32.toUInt32 31)).toInt32)) &&& (nI 252645135)) + (((((((x - (((x.toUInt32 >>> ((nI 1).toUInt32 &&& Int32.toUInt32 31)).toInt32) &&& (nI 1431655765))) &&& (nI 858993459)) + ((((x - (((x.toUInt32 >>> ((nI 1).toUInt32 &&& Int32.toUInt32 31)).toInt32) &&& (nI 1431655765))).toUInt32 >>> ((nI 2).toUInt32 &&& Int32.toUInt32 31)).toInt32) &&& (nI 858993459))) + (((((x - (((x.toUInt32 >>> ((nI 1).toUInt32 &&& Int32.toUInt32 31)).toInt32) &&& (nI 1431655765))) &&& (nI 858993459)) + ((((x - (((x.toUInt32 >>> ((nI 1).toUInt32 &&& Int32.toUInt32 31)).toInt32) &&& (nI 1431655765))).toUInt32 >>> ((nI 2).toUInt32 &&& Int32.toUInt32 31)).toInt32) &&& (nI 858993459))).toUInt32 >>> ((nI 4).toUInt32 &&& Int32.toUInt32 31)).toInt32)) &&& (nI 252645135)).toUInt32 >>> ((nI 8).toUInt32 &&& Int32.toUInt32 31)).toInt32)) + ((((((((x - (((x.toUInt32 >>> ((nI 1).toUInt32 &&& Int32.toUInt32 31)).toInt32) &&& (nI 1431655765))) &&& (nI 858993459)) + ((((x - (((x.toUInt32 >>> ((nI 1).toUInt32 &&& Int32.toUInt32 31)).toInt32) &&& (nI 1431655765))).toUInt32 >>> ((nI 2).toUInt32 &&& Int32.toUInt32 31)).toInt32) &&& (nI 858993459))) + (((((x - (((x.toUInt32 >>> ((nI 1).toUInt32 &&& Int32.toUInt32 31)).toInt32) &&& (nI 1431655765))) &&& (nI 858993459)) + ((((x - (((x.toUInt32 >>> ((nI 1).toUInt32 &&& Int32.toUInt32 31)).toInt32) &&& (nI 1431655765))).toUInt32 >>> ((nI 2).toUInt32 &&& Int32.toUInt32 31)).toInt32) &&& (nI 858993459))).toUInt32 >>> ((nI 4).toUInt32 &&& Int32.toUInt32 31)).toInt32)) &&& (nI 252645135)) + (((((((x - (((x.toUInt32 >>> ((nI 1).toUInt32 &&& Int32.toUInt32 31)).toInt32) &&& (nI 1431655765))) &&& (nI 858993459)) + ((((x - (((x.toUInt32 >>> ((nI 1).toUInt32 &&& Int32.toUInt32 31)).toInt32) &&& (nI 1431655765))).toUInt32 >>> ((nI 2).toUInt32 &&& Int32.toUInt32 31)).toInt32) &&& (nI 858993459))) + (((((x - (((x.toUInt32 >>> ((nI 1).toUInt32 &&& Int32.toUInt32 31)).toInt32) &&& (nI 1431655765))) &&& (nI 858993459)) + ((((x - (((x.toUInt32 >>> ((nI 1).toUInt32 &&& Int32.toUInt32 31)).toInt32) &&& (nI 1431655765))).toUInt32 >>> ((nI 2).toUInt32 &&& Int32.toUInt32 31)).toInt32) &&& (nI 858993459))).toUInt32 >>> ((nI 4).toUInt32 &&& Int32.toUInt32 31)).toInt32)) &&& (nI 252645135)).toUInt32 >>> ((nI 8).toUInt32 &&& Int32.toUInt32 31)).toInt32)).toUInt32 >>> ((nI 16).toUInt32 &&& Int32.toUInt32 31)).toInt32)))]) dJ6_bitCount_0f7a4_47 rfl ?_
  refine w_il dJ6_bitCount_0f7a4_48 rfl ?_
  refine w_k dJ6_bitCount_0f7a4_49 ?_
  refine w_iand dJ6_bitCount_0f7a4_51 ?_
  refine w_iret dJ6_bitCount_0f7a4_52 rfl ?_
  rw [← hQ]
  exact ⟨congrArg (fun z => some (Value.int z)) hx, rfl⟩

theorem ct_skip {σ : Sg} {t k : Nat} {x : Int64} (e : cT σ t (k + 1) = cT σ t k) (q : Nat) (h : x = lN (if q < t then cT σ q (k + 1) else cT σ q k)) : x = lN (if q < t + 1 then cT σ q (k + 1) else cT σ q k) := by
  rw [h]
  by_cases c : q = t
  · subst c; rw [if_neg (by omega), if_pos (by omega), e]
  · simp only [show (q < t + 1) = (q < t) by simp; omega]
set_option maxHeartbeats 4000000 in
theorem c_X2_reckonCrops (ρ : Rho) (σ : Sg) (hC : CP σ ρ) (hL : CLd σ ρ) : CallOK 1 mX2_reckonCrops [.ref 32, .ref 1] ρ (fun r ρ2 => ∃ v, r = some v ∧ (v = .long (lN (wV σ 8)) ∧ Fr [34] ρ ρ2 ∧ ∀ t, t < 8 → ρ2.2 34 t = lN (cT σ t 8))) := by
  refine callOK_of 4 (by decide +kernel) rfl (fun _ => Nat.le_of_ble_eq_true rfl) (ls := [some (.ref 32), some (.ref 1), none, none, none, none]) rfl ?_
  generalize hQ : (fun r ρ2 => ∃ v, r = some v ∧ (v = .long (lN (wV σ 8)) ∧ Fr [34] ρ ρ2 ∧ ∀ t, t < 8 → ρ2.2 34 t = lN (cT σ t 8)) : Option Value → Rho → Prop) = Q
  refine w_al dX2_reckonCrops_0 rfl ?_
  refine w_gr dX2_reckonCrops_1 fl_X2_15 sh32 rfl ?_
  refine w_kl dX2_reckonCrops_4 ?_
  refine w_cSv dX2_reckonCrops_5 (sl_X2_64 _ rfl) (by decide) (c_fillL ρ 34 8 (lN 0) sh34) rfl rfl (Nat.le_of_ble_eq_true rfl) ?_
  refine w_kl dX2_reckonCrops_8 ?_
  refine w_ls (ls2 := [some (.ref 32), some (.ref 1), some (.long (lN 0)), none, none, none]) dX2_reckonCrops_9 rfl ?_
  refine w_k dX2_reckonCrops_10 ?_
  refine w_is (ls2 := [some (.ref 32), some (.ref 1), some (.long (lN 0)), none, some (.int (nI 0)), none]) dX2_reckonCrops_11 rfl ?_
  have L13 : ∀ (n13 : Nat) (k : Nat) (ρ1 : Rho), (k ≤ 8) → (Fr [34] ρ ρ1) → (∀ t, t < 8 → ρ1.2 34 t = lN (cT σ t k)) → (8 - k) < n13 → MW mX2_reckonCrops 1 13 [some (.ref 32), some (.ref 1), some (.long (lN (wV σ k))), none, some (.int (nI k)), none] [] ρ1 Q := by
    intro n13
    induction n13 with
    | zero =>
      intro k ρ1 hk hF1 h1 hm13
      exact absurd hm13 (Nat.not_lt_zero _)
    | succ n13 ih13 =>
      intro k ρ1 hk hF1 h1 hm13
      refine w_il dX2_reckonCrops_13 rfl ?_
      refine w_k dX2_reckonCrops_15 ?_
      refine w_icgeN dX2_reckonCrops_17 (by omega) (by omega) (fun h17 => ?_) (fun h17 => ?_)
      · --t
        refine w_ll dX2_reckonCrops_102 rfl ?_
        refine w_lret dX2_reckonCrops_103 rfl ?_
        rw [← hQ]
        exact ⟨_, rfl, by rw [show k = 8 by omega], hF1, by rw [show k = 8 by omega] at h1; exact h1⟩
      · --f
        refine w_al dX2_reckonCrops_20 rfl ?_
        refine w_gr dX2_reckonCrops_21 fl_X2_9 sh32 rfl ?_
        refine w_il dX2_reckonCrops_24 rfl ?_
        refine w_ialdV (v := (σ.2 66 k)) dX2_reckonCrops_26 sh33 (by omega) ((CP.fr hC hF1 (by decide)).2.2.1 (33, 66) (by decide) _) ?_
        refine w_k dX2_reckonCrops_27 ?_
        refine w_iceq dX2_reckonCrops_28 (fun h28 => ?_) (fun h28 => ?_)
        · --t
          refine w_iincN (ls2 := [some (.ref 32), some (.ref 1), some (.long (lN (wV σ k))), none, some (.int (nI (k + 1))), none]) dX2_reckonCrops_96 rfl rfl ?_
          refine w_goto dX2_reckonCrops_99 ?_
          rw [show lN (wV σ k) = lN (wV σ (k + 1)) from by rw [show wV σ (k + 1) = wV σ k from nb4_n (wv_0 h28)]]
          exact ih13 (k + 1) ρ1 (by omega) (hF1) (fun t ht => by rw [h1 t ht, show cT σ t (k + 1) = cT σ t k from nb4_n (f := fun r => ck σ r t) (ck_0 h28)]) (by omega)
        · --f
          obtain ⟨z, hz, ez⟩ := (hC.1.reap k).resolve_left h28
          refine w_ll dX2_reckonCrops_31 rfl ?_
          refine w_al dX2_reckonCrops_32 rfl ?_
          refine w_gr dX2_reckonCrops_33 fl_X2_9 sh32 rfl ?_
          refine w_il dX2_reckonCrops_36 rfl ?_
          refine w_ialdV (v := (nI z)) dX2_reckonCrops_38 sh33 (by omega) (((CP.fr hC hF1 (by decide)).2.2.1 (33, 66) (by decide) _).trans ez) ?_
          refine w_i2lN dX2_reckonCrops_39 (by omega) ?_
          refine w_k dX2_reckonCrops_40 ?_
          refine w_il dX2_reckonCrops_41 rfl ?_
          refine w_imulN dX2_reckonCrops_43 ?_
          refine w_lshl dX2_reckonCrops_44 ?_
          refine w_lor dX2_reckonCrops_45 ?_
          rw [show lN (wV σ k) ||| (lN z <<< ((nI (4 * k)).toInt64 &&& 63)) = lN (wV σ (k + 1)) from lor_nb (wv_lt hC.1) (by omega) (wv_z hz ez)]
          refine w_ls (ls2 := [some (.ref 32), some (.ref 1), some (.long (lN (wV σ (k + 1)))), none, some (.int (nI k)), none]) dX2_reckonCrops_46 rfl ?_
          refine w_k dX2_reckonCrops_47 ?_
          refine w_is (ls2 := [some (.ref 32), some (.ref 1), some (.long (lN (wV σ (k + 1)))), none, some (.int (nI k)), some (.int (nI 0))]) dX2_reckonCrops_48 rfl ?_
          have L50 : ∀ (n50 : Nat) (t : Nat) (ρ2 : Rho), (t ≤ 8) → (Fr [34] ρ ρ2) → (∀ q, q < 8 → ρ2.2 34 q = lN (if q < t then cT σ q (k + 1) else cT σ q k)) → (8 - t) < n50 → MW mX2_reckonCrops 1 50 [some (.ref 32), some (.ref 1), some (.long (lN (wV σ (k + 1)))), none, some (.int (nI k)), some (.int (nI t))] [] ρ2 Q := by
            intro n50
            induction n50 with
            | zero =>
              intro t ρ2 ht hF2 h2 hm50
              exact absurd hm50 (Nat.not_lt_zero _)
            | succ n50 ih50 =>
              intro t ρ2 ht hF2 h2 hm50
              have wt := Th_le σ ((k + t) % 8)
              refine w_il dX2_reckonCrops_50 rfl ?_
              refine w_k dX2_reckonCrops_52 ?_
              refine w_icgeN dX2_reckonCrops_54 (by omega) (by omega) (fun h54 => ?_) (fun h54 => ?_)
              · --t
                refine w_iincN (ls2 := [some (.ref 32), some (.ref 1), some (.long (lN (wV σ (k + 1)))), none, some (.int (nI (k + 1))), some (.int (nI t))]) dX2_reckonCrops_96 rfl rfl ?_
                refine w_goto dX2_reckonCrops_99 ?_
                refine w_weak (ls2 := [some (.ref 32), some (.ref 1), some (.long (lN (wV σ (k + 1)))), none, some (.int (nI (k + 1))), none]) ⟨rfl, ⟨rfl, ⟨rfl, ⟨rfl, trivial⟩⟩⟩⟩ ?_
                skip
                exact ih13 (k + 1) ρ2 (by omega) (hF2) (fun q hq => by rw [h2 q hq, if_pos (by omega)]) (by omega)
              · --f
                refine w_al dX2_reckonCrops_57 rfl ?_
                refine w_gr dX2_reckonCrops_58 fl_X2_70 sh1 rfl ?_
                refine w_il dX2_reckonCrops_61 rfl ?_
                refine w_il dX2_reckonCrops_63 rfl ?_
                refine w_iaddN dX2_reckonCrops_65 ?_
                refine w_k dX2_reckonCrops_66 ?_
                refine w_iand7 dX2_reckonCrops_68 (by omega) ?_
                refine w_ialdV (v := (nI (Th σ ((k + t) % 8)))) dX2_reckonCrops_69 sh3 (by omega) ((CLd.fr hL hF2 (by decide)).1 _ (by omega)) ?_
                refine w_k dX2_reckonCrops_70 ?_
                refine w_icneN dX2_reckonCrops_71 (by omega) (by omega) (fun h71 => ?_) (fun h71 => ?_)
                · --t
                  refine w_iincN (ls2 := [some (.ref 32), some (.ref 1), some (.long (lN (wV σ (k + 1)))), none, some (.int (nI k)), some (.int (nI (t + 1)))]) dX2_reckonCrops_90 rfl rfl ?_
                  refine w_goto dX2_reckonCrops_93 ?_
                  exact ih50 (t + 1) ρ2 (by omega) (hF2) (fun q hq => ct_skip (nb4_n (f := fun r => ck σ r t) (by rw [ck_k h28, isF_n h71])) q (h2 q hq)) (by omega)
                · --f
                  refine w_al dX2_reckonCrops_74 rfl ?_
                  refine w_gr dX2_reckonCrops_75 fl_X2_15 sh32 rfl ?_
                  refine w_il dX2_reckonCrops_78 rfl ?_
                  refine w_dup2 dX2_reckonCrops_80 rfl rfl ?_
                  refine w_laldV (v := (lN (cT σ t k))) dX2_reckonCrops_81 sh34 (by omega) (by rw [h2 t (by omega), if_neg (by omega)]) ?_
                  refine w_kl dX2_reckonCrops_82 ?_
                  refine w_k dX2_reckonCrops_83 ?_
                  refine w_il dX2_reckonCrops_84 rfl ?_
                  refine w_imulN dX2_reckonCrops_86 ?_
                  refine w_lshl dX2_reckonCrops_87 ?_
                  refine w_lor dX2_reckonCrops_88 ?_
                  rw [show lN (cT σ t k) ||| (lN 1 <<< ((nI (4 * k)).toInt64 &&& 63)) = lN (cT σ t (k + 1)) from lor_nb (ck_lt σ t) (by omega) (by rw [ck_k h28, isF_y h71])]
                  refine w_lastN dX2_reckonCrops_89 sh34 (by omega) ?_
                  refine w_iincN (ls2 := [some (.ref 32), some (.ref 1), some (.long (lN (wV σ (k + 1)))), none, some (.int (nI k)), some (.int (nI (t + 1)))]) dX2_reckonCrops_90 rfl rfl ?_
                  refine w_goto dX2_reckonCrops_93 ?_
                  exact ih50 (t + 1) (wL ρ2 34 t (lN (cT σ t (k + 1)))) (by omega) (Fr.only hF2 only_wL (by decide)) (updL (f := fun q => lN (if q < t then cT σ q (k + 1) else cT σ q k)) (g := fun q => lN (if q < t + 1 then cT σ q (k + 1) else cT σ q k)) h2 (by rw [if_pos (by omega)]) (fun q hq => by simp only [show (q < t + 1) = (q < t) by simp; omega])) (by omega)
          exact L50 _ 0 ρ1 (by omega) (hF1) (fun q hq => by rw [h1 q hq, if_neg (by omega)]) (Nat.lt_succ_self _)
  exact L13 _ 0 (fillL ρ 34 8 (lN 0)) (by omega) ((Fr.only Fr.rf only_fillL (by decide))) (fun t ht => fillL_at ht) (Nat.lt_succ_self _)

set_option maxHeartbeats 4000000 in
theorem c_X2_extend (ρ : Rho) (d g T1 b e z : Nat) (h36 : ρ.1 36 d = nI T1) (h35 : ρ.1 35 d = nI b) (h37 : ρ.2 37 d = lN e) (h34 : ρ.2 34 ((T1 + g) % 8) = lN z) (hd : d < 12) (hg : g ≤ 1) (hT : T1 < 8) : CallOK 0 mX2_extend [.ref 32, .int (nI d), .int (nI g)] ρ (fun r ρ2 => r = none ∧ ρ2 = wL (wI (wI ρ 35 (d + 1) (nI (b ||| (g * 2 ^ d)))) 36 (d + 1) (nI ((T1 + g) % 8))) 37 (d + 1) (lN (e + z))) := by
  refine callOK_of 1 (by decide +kernel) rfl (fun _ => Nat.le_of_ble_eq_true rfl) (ls := [some (.ref 32), some (.int (nI d)), some (.int (nI g)), none]) rfl ?_
  generalize hQ : (fun r ρ2 => r = none ∧ ρ2 = wL (wI (wI ρ 35 (d + 1) (nI (b ||| (g * 2 ^ d)))) 36 (d + 1) (nI ((T1 + g) % 8))) 37 (d + 1) (lN (e + z)) : Option Value → Rho → Prop) = Q
  have wg : g * 2 ^ d ≤ 1 * 2 ^ 12 := Nat.mul_le_mul hg (Nat.pow_le_pow_right (by decide) (by omega))
  refine w_al dX2_extend_0 rfl ?_
  refine w_gr dX2_extend_1 fl_X2_22 sh32 rfl ?_
  refine w_il dX2_extend_4 rfl ?_
  refine w_ialdV (v := (nI T1)) dX2_extend_5 sh36 (by omega) (h36) ?_
  refine w_il dX2_extend_6 rfl ?_
  refine w_iaddN dX2_extend_7 ?_
  refine w_k dX2_extend_8 ?_
  refine w_iand7 dX2_extend_10 (by omega) ?_
  refine w_is (ls2 := [some (.ref 32), some (.int (nI d)), some (.int (nI g)), some (.int (nI ((T1 + g) % 8)))]) dX2_extend_11 rfl ?_
  refine w_al dX2_extend_12 rfl ?_
  refine w_gr dX2_extend_13 fl_X2_19 sh32 rfl ?_
  refine w_il dX2_extend_16 rfl ?_
  refine w_k dX2_extend_17 ?_
  refine w_iaddN dX2_extend_18 ?_
  refine w_al dX2_extend_19 rfl ?_
  refine w_gr dX2_extend_20 fl_X2_19 sh32 rfl ?_
  refine w_il dX2_extend_23 rfl ?_
  refine w_ialdV (v := (nI b)) dX2_extend_24 sh35 (by omega) (h35) ?_
  refine w_il dX2_extend_25 rfl ?_
  refine w_il dX2_extend_26 rfl ?_
  refine w_ishlN dX2_extend_27 (by omega) (Nat.lt_of_le_of_lt wg (by decide)) ?_
  refine w_iorN dX2_extend_28 ?_
  refine w_iastN dX2_extend_29 sh35 (by omega) ?_
  refine w_al dX2_extend_30 rfl ?_
  refine w_gr dX2_extend_31 fl_X2_22 sh32 rfl ?_
  refine w_il dX2_extend_34 rfl ?_
  refine w_k dX2_extend_35 ?_
  refine w_iaddN dX2_extend_36 ?_
  refine w_il dX2_extend_37 rfl ?_
  refine w_iastN dX2_extend_38 sh36 (by omega) ?_
  refine w_al dX2_extend_39 rfl ?_
  refine w_gr dX2_extend_40 fl_X2_25 sh32 rfl ?_
  refine w_il dX2_extend_43 rfl ?_
  refine w_k dX2_extend_44 ?_
  refine w_iaddN dX2_extend_45 ?_
  refine w_al dX2_extend_46 rfl ?_
  refine w_gr dX2_extend_47 fl_X2_25 sh32 rfl ?_
  refine w_il dX2_extend_50 rfl ?_
  refine w_laldV (v := (lN e)) dX2_extend_51 sh37 (by omega) (h37) ?_
  refine w_al dX2_extend_52 rfl ?_
  refine w_gr dX2_extend_53 fl_X2_15 sh32 rfl ?_
  refine w_il dX2_extend_56 rfl ?_
  refine w_laldV (v := (lN z)) dX2_extend_57 sh34 (by omega) (h34) ?_
  refine w_laddL dX2_extend_58 ?_
  refine w_lastN dX2_extend_59 sh37 (by omega) ?_
  refine w_ret dX2_extend_60 rfl ?_
  rw [← hQ]
  exact ⟨rfl, rfl⟩

set_option maxHeartbeats 4000000 in
theorem c_X2_note (ρ : Rho) (h al N1 x : Nat) (W1 O1 : Int32) (h5 : ρ.1 32 5 = nI N1) (h6 : ρ.1 32 6 = fst x) (h7 : ρ.1 32 7 = W1) (h8 : ρ.1 32 8 = O1) (hx : x ≤ 5000) (hh : h < 5000) : CallOK 1 mX2_note [.ref 32, .int (nI h), .int (nI al)] ρ (fun r ρ2 => r = none ∧ (Fr [32] ρ ρ2 ∧ ρ2.1 32 5 = nI (N1 + 1) ∧ ρ2.1 32 6 = fst (mn x (h + 1)) ∧ ρ2.1 32 7 = W1 &&& nI h ∧ ρ2.1 32 8 = O1 &&& (nI al ^^^ nI h))) := by
  refine callOK_of 0 (by decide +kernel) rfl (fun _ => Nat.le_of_ble_eq_true rfl) (ls := [some (.ref 32), some (.int (nI h)), some (.int (nI al))]) rfl ?_
  generalize hQ : (fun r ρ2 => r = none ∧ (Fr [32] ρ ρ2 ∧ ρ2.1 32 5 = nI (N1 + 1) ∧ ρ2.1 32 6 = fst (mn x (h + 1)) ∧ ρ2.1 32 7 = W1 &&& nI h ∧ ρ2.1 32 8 = O1 &&& (nI al ^^^ nI h)) : Option Value → Rho → Prop) = Q
  refine w_al dX2_note_0 rfl ?_
  refine w_dup dX2_note_1 rfl ?_
  refine w_giV (v := (nI N1)) dX2_note_2 fl_X2_28 sh32 rfl (h5) ?_
  refine w_k dX2_note_5 ?_
  refine w_iaddN dX2_note_6 ?_
  refine w_pi dX2_note_7 fp_X2_28 sh32 rfl rfl rfl ?_
  refine w_al dX2_note_10 rfl ?_
  refine w_al dX2_note_11 rfl ?_
  refine w_giV (v := (fst x)) dX2_note_12 fl_X2_32 sh32 rfl ((rI_ne (by decide)).trans (h6)) ?_
  refine w_k dX2_note_15 ?_
  refine w_icne dX2_note_16 (fun h16 => ?_) (fun h16 => ?_)
  · --t
    refine w_al dX2_note_23 rfl ?_
    refine w_giV (v := (nI (x - 1))) dX2_note_24 fl_X2_32 sh32 rfl (((rI_ne (by decide)).trans (h6)).trans (if_neg (fun q => h16 ((fst_0 (by omega)).mpr q)))) ?_
    refine w_il dX2_note_27 rfl ?_
    refine w_mminN dX2_note_28 (sl_X2_51 _ rfl) (by decide) (Nat.le_of_ble_eq_true rfl) (by omega) (by omega) ?_
    refine w_pi dX2_note_31 fp_X2_32 sh32 rfl rfl rfl ?_
    refine w_al dX2_note_34 rfl ?_
    refine w_dup dX2_note_35 rfl ?_
    refine w_giV (v := W1) dX2_note_36 fl_X2_35 sh32 rfl ((rI_ne (by decide)).trans ((rI_ne (by decide)).trans (h7))) ?_
    refine w_il dX2_note_39 rfl ?_
    refine w_iand dX2_note_40 ?_
    refine w_pi dX2_note_41 fp_X2_35 sh32 rfl rfl rfl ?_
    refine w_al dX2_note_44 rfl ?_
    refine w_dup dX2_note_45 rfl ?_
    refine w_giV (v := O1) dX2_note_46 fl_X2_38 sh32 rfl ((rI_ne (by decide)).trans ((rI_ne (by decide)).trans ((rI_ne (by decide)).trans (h8)))) ?_
    refine w_il dX2_note_49 rfl ?_
    refine w_il dX2_note_50 rfl ?_
    refine w_ixor dX2_note_51 ?_
    refine w_iand dX2_note_52 ?_
    refine w_pi dX2_note_53 fp_X2_38 sh32 rfl rfl rfl ?_
    refine w_ret dX2_note_56 rfl ?_
    rw [← hQ]
    exact ⟨rfl, (Fr.only (Fr.only (Fr.only (Fr.only Fr.rf only_wI (by decide)) only_wI (by decide)) only_wI (by decide)) only_wI (by decide)), (rI_ne (by decide)).trans ((rI_ne (by decide)).trans ((rI_ne (by decide)).trans (rI_eq))), ((rI_ne (by decide)).trans ((rI_ne (by decide)).trans (rI_eq))).trans (fst_m (fun q => h16 ((fst_0 (by omega)).mpr q))), (rI_ne (by decide)).trans (rI_eq), rI_eq⟩
  · --f
    refine w_il dX2_note_19 rfl ?_
    refine w_goto dX2_note_20 ?_
    refine w_pi dX2_note_31 fp_X2_32 sh32 rfl rfl rfl ?_
    refine w_al dX2_note_34 rfl ?_
    refine w_dup dX2_note_35 rfl ?_
    refine w_giV (v := W1) dX2_note_36 fl_X2_35 sh32 rfl ((rI_ne (by decide)).trans ((rI_ne (by decide)).trans (h7))) ?_
    refine w_il dX2_note_39 rfl ?_
    refine w_iand dX2_note_40 ?_
    refine w_pi dX2_note_41 fp_X2_35 sh32 rfl rfl rfl ?_
    refine w_al dX2_note_44 rfl ?_
    refine w_dup dX2_note_45 rfl ?_
    refine w_giV (v := O1) dX2_note_46 fl_X2_38 sh32 rfl ((rI_ne (by decide)).trans ((rI_ne (by decide)).trans ((rI_ne (by decide)).trans (h8)))) ?_
    refine w_il dX2_note_49 rfl ?_
    refine w_il dX2_note_50 rfl ?_
    refine w_ixor dX2_note_51 ?_
    refine w_iand dX2_note_52 ?_
    refine w_pi dX2_note_53 fp_X2_38 sh32 rfl rfl rfl ?_
    refine w_ret dX2_note_56 rfl ?_
    rw [← hQ]
    exact ⟨rfl, (Fr.only (Fr.only (Fr.only (Fr.only Fr.rf only_wI (by decide)) only_wI (by decide)) only_wI (by decide)) only_wI (by decide)), (rI_ne (by decide)).trans ((rI_ne (by decide)).trans ((rI_ne (by decide)).trans (rI_eq))), ((rI_ne (by decide)).trans ((rI_ne (by decide)).trans (rI_eq))).trans (fst_e ((fst_0 (by omega)).mp h16)), (rI_ne (by decide)).trans (rI_eq), rI_eq⟩

theorem Ar.fr {σ : Sg} {T : Nat} {β : Nat → Nat} {ρ ρ2 : Rho} {m : Nat} {S : List Nat} (h : Ar σ T β ρ m) (f : Fr S ρ ρ2) (hS : 35 ∉ S ∧ 36 ∉ S ∧ 37 ∉ S) : Ar σ T β ρ2 m := fun d hd => by
  rw [(f 35 hS.1).1, (f 36 hS.2.1).1, (f 37 hS.2.2).2]; exact h d hd
set_option maxHeartbeats 4000000 in
theorem c_X2_search (ρ : Rho) (σ : Sg) (T n : Nat) (hC : CP σ ρ) (hL : CLd σ ρ) (hn : n ≤ 12) (hT8 : T < 8) : CallOK 2 mX2_search [.ref 32, .ref 1, .int (nI T), .int (nI n)] ρ (fun r ρ2 => r = none ∧ (Fr [32, 34, 35, 36, 37] ρ ρ2 ∧ HV ρ2 ∧ ρ2.1 32 5 = nI (aN σ T n (fun c => c) (2 ^ n)) ∧ ρ2.1 32 6 = fst (aX σ T n (fun c => c) (2 ^ n)) ∧ ρ2.1 32 7 = aW σ T n (fun c => c) (2 ^ n) ∧ ρ2.1 32 8 = aO σ T n (fun c => c) (2 ^ n))) := by
  refine callOK_of 5 (by decide +kernel) rfl (fun _ => Nat.le_of_ble_eq_true rfl) (ls := [some (.ref 32), some (.ref 1), some (.int (nI T)), some (.int (nI n)), none, none, none, none, none]) rfl ?_
  generalize hQ : (fun r ρ2 => r = none ∧ (Fr [32, 34, 35, 36, 37] ρ ρ2 ∧ HV ρ2 ∧ ρ2.1 32 5 = nI (aN σ T n (fun c => c) (2 ^ n)) ∧ ρ2.1 32 6 = fst (aX σ T n (fun c => c) (2 ^ n)) ∧ ρ2.1 32 7 = aW σ T n (fun c => c) (2 ^ n) ∧ ρ2.1 32 8 = aO σ T n (fun c => c) (2 ^ n)) : Option Value → Rho → Prop) = Q
  have wn := p12 n hn
  refine w_al dX2_search_0 rfl ?_
  refine w_al dX2_search_1 rfl ?_
  refine w_cVr dX2_search_2 (vl_X2_41 _ rfl) sh32 (by decide) (c_X2_reckonCrops ρ σ hC hL) rfl rfl (Nat.le_of_ble_eq_true rfl) (fun vk ρk hk9 => ?_)
  obtain ⟨rfl, hFk, hCk⟩ := hk9
  have hVk : ρk.1 35 0 = nI 0 ∧ ρk.2 37 0 = lN 0 := by rw [(hFk 35 (by decide)).1, (hFk 37 (by decide)).2]; exact hC.2.2.2.2.2
  refine w_ls (ls2 := [some (.ref 32), some (.ref 1), some (.int (nI T)), some (.int (nI n)), some (.long (lN (wV σ 8))), none, none, none, none]) dX2_search_5 rfl ?_
  refine w_al dX2_search_7 rfl ?_
  refine w_k dX2_search_8 ?_
  refine w_pi dX2_search_9 fp_X2_28 sh32 rfl rfl rfl ?_
  refine w_al dX2_search_12 rfl ?_
  refine w_k dX2_search_13 ?_
  refine w_pi dX2_search_14 fp_X2_32 sh32 rfl rfl rfl ?_
  refine w_al dX2_search_17 rfl ?_
  refine w_k dX2_search_18 ?_
  refine w_il dX2_search_19 rfl ?_
  refine w_ishl1 dX2_search_20 (by omega) ?_
  refine w_k dX2_search_21 ?_
  refine w_isubN dX2_search_22 (by omega) ?_
  refine w_pi dX2_search_23 fp_X2_35 sh32 rfl rfl rfl ?_
  refine w_al dX2_search_26 rfl ?_
  refine w_al dX2_search_27 rfl ?_
  refine w_giV (v := (nI (2 ^ n - 1))) dX2_search_28 fl_X2_35 sh32 rfl (rI_eq) ?_
  refine w_pi dX2_search_31 fp_X2_38 sh32 rfl rfl rfl ?_
  refine w_al dX2_search_34 rfl ?_
  refine w_gr dX2_search_35 fl_X2_22 sh32 rfl ?_
  refine w_k dX2_search_38 ?_
  refine w_il dX2_search_39 rfl ?_
  refine w_iastN dX2_search_40 sh36 (by omega) ?_
  refine w_k dX2_search_41 ?_
  refine w_is (ls2 := [some (.ref 32), some (.ref 1), some (.int (nI T)), some (.int (nI n)), some (.long (lN (wV σ 8))), none, some (.int (nI 0)), none, none]) dX2_search_42 rfl ?_
  have L44 : ∀ (n44 : Nat) (c : Nat) (ρ1 : Rho), (c ≤ 2 ^ n) → (Fr [32, 34, 35, 36, 37] ρ ρ1) → (Sc σ T n ρ1 c) → (Ar σ T (bc n (c - 1)) ρ1 (if c = 0 then 0 else n)) → (∀ t, t < 8 → ρ1.2 34 t = lN (cT σ t 8)) → (2 ^ n - c) < n44 → MW mX2_search 2 44 [some (.ref 32), some (.ref 1), some (.int (nI T)), some (.int (nI n)), some (.long (lN (wV σ 8))), none, some (.int (nI c)), none, none] [] ρ1 Q := by
    intro n44
    induction n44 with
    | zero =>
      intro c ρ1 hc hF1 hS1 hA1 h34 hm44
      exact absurd hm44 (Nat.not_lt_zero _)
    | succ n44 ih44 =>
      intro c ρ1 hc hF1 hS1 hA1 h34 hm44
      refine w_il dX2_search_44 rfl ?_
      refine w_k dX2_search_46 ?_
      refine w_il dX2_search_47 rfl ?_
      refine w_ishl1 dX2_search_48 (by omega) ?_
      refine w_icgeN dX2_search_49 (by omega) (by omega) (fun h49 => ?_) (fun h49 => ?_)
      · --t
        refine w_ret dX2_search_136 rfl ?_
        rw [← hQ]
        have ec : c = 2 ^ n := by omega
        rw [ec] at hS1 hA1
        obtain ⟨s5, s6, s7, s8⟩ := hS1
        rw [aN_rh] at s5
        rw [aX_rh] at s6
        rw [aW_rh] at s7
        rw [aO_rh] at s8
        exact ⟨rfl, hF1, ⟨(hA1 0 (Nat.zero_le _)).1, (hA1 0 (Nat.zero_le _)).2.2.trans (by rw [cpV_0])⟩, s5, s6, s7, s8⟩
      · --f
        have hc2 : c < 2 ^ n := by omega
        have wu := un_le (n := n) (c := c) hn hc2
        have wub := ub_le (c := c) (by omega)
        refine w_il dX2_search_52 rfl ?_
        refine w_il dX2_search_53 rfl ?_
        refine w_il dX2_search_55 rfl ?_
        refine w_k dX2_search_57 ?_
        refine w_isub dX2_search_58 ?_
        refine w_ixor dX2_search_59 ?_
        refine w_cSf dX2_search_60 (sl_X2_45 _ rfl) (by decide) (c_bcx ρ1 ((nI c) ^^^ ((nI c) - (nI 1))) (ub c) (bcE_c (by omega))) rfl rfl (Nat.le_of_ble_eq_true rfl) ?_
        refine w_mminN dX2_search_63 (sl_X2_51 _ rfl) (by decide) (Nat.le_of_ble_eq_true rfl) (by omega) (by omega) ?_
        rw [show min n (ub c) = un n c from un_min hn hc2]
        refine w_is (ls2 := [some (.ref 32), some (.ref 1), some (.int (nI T)), some (.int (nI n)), some (.long (lN (wV σ 8))), none, some (.int (nI c)), some (.int (nI (un n c))), none]) dX2_search_66 rfl ?_
        refine w_il dX2_search_68 rfl ?_
        refine w_il dX2_search_69 rfl ?_
        refine w_isubN dX2_search_71 (by omega) ?_
        refine w_is (ls2 := [some (.ref 32), some (.ref 1), some (.int (nI T)), some (.int (nI n)), some (.long (lN (wV σ 8))), none, some (.int (nI c)), some (.int (nI (un n c))), some (.int (nI (n - (un n c))))]) dX2_search_72 rfl ?_
        have L74 : ∀ (n74 : Nat) (d : Nat) (ρ2 : Rho), (d ≤ n) → (Fr [35, 36, 37] ρ1 ρ2) → (Ar σ T (bc n c) ρ2 d) → (n - d) < n74 → MW mX2_search 2 74 [some (.ref 32), some (.ref 1), some (.int (nI T)), some (.int (nI n)), some (.long (lN (wV σ 8))), none, some (.int (nI c)), none, some (.int (nI d))] [] ρ2 Q := by
          intro n74
          induction n74 with
          | zero =>
            intro d ρ2 hd hF2 hA2 hm74
            exact absurd hm74 (Nat.not_lt_zero _)
          | succ n74 ih74 =>
            intro d ρ2 hd hF2 hA2 hm74
            refine w_il dX2_search_74 rfl ?_
            refine w_il dX2_search_76 rfl ?_
            refine w_icgeN dX2_search_77 (by omega) (by omega) (fun h77 => ?_) (fun h77 => ?_)
            · --t
              have edn : d = n := by omega
              rw [edn] at hA2
              have hS2 := hS1.fr hF2 (by decide)
              refine w_al dX2_search_103 rfl ?_
              refine w_gr dX2_search_104 fl_X2_25 sh32 rfl ?_
              refine w_il dX2_search_107 rfl ?_
              refine w_laldV (v := (lN (cpV σ T (bc n c) n))) dX2_search_108 sh37 (by omega) ((hA2 n (Nat.le_refl _)).2.2) ?_
              refine w_ll dX2_search_109 rfl ?_
              refine w_lcmp dX2_search_111 ?_
              refine w_ifne dX2_search_112 (fun h112 => ?_) (fun h112 => ?_)
              · --t
                have hnf : ¬ ft σ T n (rh n c) = true := fun q => h112 ((lgc0 (cpV_b hn) (wV_b hC.1)).mpr ((fit_iff hC.1 hn).mpr (by rw [← ft_rh]; exact q)))
                refine w_iincN (ls2 := [some (.ref 32), some (.ref 1), some (.int (nI T)), some (.int (nI n)), some (.long (lN (wV σ 8))), none, some (.int (nI (c + 1))), none, some (.int (nI d))]) dX2_search_130 rfl rfl ?_
                refine w_goto dX2_search_133 ?_
                refine w_weak (ls2 := [some (.ref 32), some (.ref 1), some (.int (nI T)), some (.int (nI n)), some (.long (lN (wV σ 8))), none, some (.int (nI (c + 1))), none, none]) ⟨rfl, ⟨rfl, ⟨rfl, ⟨rfl, ⟨rfl, ⟨rfl, trivial⟩⟩⟩⟩⟩⟩ ?_
                exact ih44 (c + 1) ρ2 (by omega) ((Fr.tr hF1 (Fr.sub hF2 (by decide)))) (⟨hS2.1.trans (by rw [aN_n hnf]), hS2.2.1.trans (by rw [aX_n hnf]), hS2.2.2.1.trans (by rw [aW_n hnf]), hS2.2.2.2.trans (by rw [aO_n hnf])⟩) (by rw [if_neg (Nat.succ_ne_zero c), Nat.add_sub_cancel]; exact hA2) (fun t ht => by rw [(hF2 34 (by decide)).2]; exact h34 t ht) (by omega)
              · --f
                have hyf : ft σ T n (rh n c) = true := by rw [ft_rh]; exact (fit_iff hC.1 hn).mp ((lgc0 (cpV_b hn) (wV_b hC.1)).mp h112)
                have wr := rh_lt n c
                have wx := aX_le (σ := σ) (T := T) (n := n) (u := rh n) (rh_lt n) c
                refine w_al dX2_search_115 rfl ?_
                refine w_al dX2_search_116 rfl ?_
                refine w_gr dX2_search_117 fl_X2_19 sh32 rfl ?_
                refine w_il dX2_search_120 rfl ?_
                refine w_ialdV (v := (nI (rh n c))) dX2_search_121 sh35 (by omega) ((hA2 n (Nat.le_refl _)).1) ?_
                refine w_k dX2_search_122 ?_
                refine w_il dX2_search_123 rfl ?_
                refine w_ishl1 dX2_search_124 (by omega) ?_
                refine w_k dX2_search_125 ?_
                refine w_isubN dX2_search_126 (by omega) ?_
                refine w_cVu dX2_search_127 (vl_X2_61 _ rfl) sh32 (by decide) (c_X2_note ρ2 (rh n c) (2 ^ n - 1) _ _ _ _ hS2.1 hS2.2.1 hS2.2.2.1 hS2.2.2.2 (by omega) (by omega)) rfl rfl (Nat.le_of_ble_eq_true rfl) (fun ρn hn9 => ?_)
                obtain ⟨hFn, hn5, hn6, hn7, hn8⟩ := hn9
                refine w_iincN (ls2 := [some (.ref 32), some (.ref 1), some (.int (nI T)), some (.int (nI n)), some (.long (lN (wV σ 8))), none, some (.int (nI (c + 1))), none, some (.int (nI d))]) dX2_search_130 rfl rfl ?_
                refine w_goto dX2_search_133 ?_
                refine w_weak (ls2 := [some (.ref 32), some (.ref 1), some (.int (nI T)), some (.int (nI n)), some (.long (lN (wV σ 8))), none, some (.int (nI (c + 1))), none, none]) ⟨rfl, ⟨rfl, ⟨rfl, ⟨rfl, ⟨rfl, ⟨rfl, trivial⟩⟩⟩⟩⟩⟩ ?_
                exact ih44 (c + 1) ρn (by omega) ((Fr.tr (Fr.tr hF1 (Fr.sub hF2 (by decide))) (Fr.sub hFn (by decide)))) (⟨hn5.trans (by rw [aN_y hyf]), hn6.trans (by rw [aX_y hyf]), hn7.trans (by rw [aW_y hyf]), hn8.trans (by rw [aO_y hyf])⟩) (by rw [if_neg (Nat.succ_ne_zero c), Nat.add_sub_cancel]; exact hA2.fr hFn (by decide)) (fun t ht => by rw [(hFn 34 (by decide)).2, (hF2 34 (by decide)).2]; exact h34 t ht) (by omega)
            · --f
              refine w_al dX2_search_80 rfl ?_
              refine w_il dX2_search_81 rfl ?_
              refine w_il dX2_search_83 rfl ?_
              refine w_il dX2_search_85 rfl ?_
              refine w_k dX2_search_86 ?_
              refine w_isubN dX2_search_87 (by omega) ?_
              refine w_il dX2_search_88 rfl ?_
              refine w_isubN dX2_search_90 (by omega) ?_
              refine w_ishrN dX2_search_91 (by omega) (by omega) ?_
              refine w_k dX2_search_92 ?_
              refine w_iand1 dX2_search_93 ?_
              refine w_cVv dX2_search_94 (vl_X2_57 _ rfl) sh32 (by decide) (c_X2_extend ρ2 d (c / 2 ^ (n - 1 - d) % 2) (hT T (bc n c) d % 8) (hB (bc n c) d) (cpV σ T (bc n c) d) (cT σ (((hT T (bc n c) d % 8) + (c / 2 ^ (n - 1 - d) % 2)) % 8) 8) (hA2 d (Nat.le_refl _)).2.1 (hA2 d (Nat.le_refl _)).1 (hA2 d (Nat.le_refl _)).2.2 (by rw [(hF2 34 (by decide)).2]; exact h34 _ (Nat.mod_lt _ (by decide))) (by omega) (bc_le n c d) (Nat.mod_lt _ (by decide))) rfl rfl (Nat.le_of_ble_eq_true rfl) ?_
              refine w_iincN (ls2 := [some (.ref 32), some (.ref 1), some (.int (nI T)), some (.int (nI n)), some (.long (lN (wV σ 8))), none, some (.int (nI c)), none, some (.int (nI (d + 1)))]) dX2_search_97 rfl rfl ?_
              refine w_goto dX2_search_100 ?_
              exact ih74 (d + 1) (wL (wI (wI ρ2 35 (d + 1) (nI ((hB (bc n c) d) ||| ((c / 2 ^ (n - 1 - d) % 2) * 2 ^ d)))) 36 (d + 1) (nI (((hT T (bc n c) d % 8) + (c / 2 ^ (n - 1 - d) % 2)) % 8))) 37 (d + 1) (lN ((cpV σ T (bc n c) d) + (cT σ (((hT T (bc n c) d % 8) + (c / 2 ^ (n - 1 - d) % 2)) % 8) 8)))) (by omega) (Fr.only (Fr.only (Fr.only hF2 only_wI (by decide)) only_wI (by decide)) only_wL (by decide)) (Ar.ext hA2 (bc_le n c) rfl rfl rfl rfl) (by omega)
        refine w_weak (ls2 := [some (.ref 32), some (.ref 1), some (.int (nI T)), some (.int (nI n)), some (.long (lN (wV σ 8))), none, some (.int (nI c)), none, some (.int (nI (n - (un n c))))]) ⟨rfl, ⟨rfl, ⟨rfl, ⟨rfl, ⟨rfl, ⟨rfl, ⟨rfl, trivial⟩⟩⟩⟩⟩⟩⟩ ?_
        exact L74 _ (n - un n c) ρ1 (by omega) (Fr.rf) (Ar.init hn hc2 hA1) (Nat.lt_succ_self _)
  exact L44 _ 0 (wI (wI (wI (wI (wI ρk 32 5 (nI 0)) 32 6 (-1)) 32 7 (nI (2 ^ n - 1))) 32 8 (nI (2 ^ n - 1))) 36 0 (nI T)) (by omega) ((Fr.only (Fr.only (Fr.only (Fr.only (Fr.only (Fr.sub hFk (by decide)) only_wI (by decide)) only_wI (by decide)) only_wI (by decide)) only_wI (by decide)) only_wI (by decide))) (⟨(rI_ne (by decide)).trans ((rI_ne (by decide)).trans ((rI_ne (by decide)).trans ((rI_ne (by decide)).trans (rI_eq)))), (rI_ne (by decide)).trans ((rI_ne (by decide)).trans ((rI_ne (by decide)).trans (rI_eq))), ((rI_ne (by decide)).trans ((rI_ne (by decide)).trans (rI_eq))).trans (show nI (2 ^ n - 1) = nI (2 ^ n - 1) &&& (-1) from Int32.and_neg_one.symm), ((rI_ne (by decide)).trans (rI_eq)).trans (show nI (2 ^ n - 1) = nI (2 ^ n - 1) &&& (-1) from Int32.and_neg_one.symm)⟩) (fun d hd => by
      have hd0 : d = 0 := Nat.le_zero.mp hd
      subst hd0
      exact ⟨(rI_ne (by decide)).trans ((rI_ne (by decide)).trans ((rI_ne (by decide)).trans ((rI_ne (by decide)).trans ((rI_ne (by decide)).trans (hVk.1))))), (rI_eq).trans (by show nI T = nI (T % 8); rw [Nat.mod_eq_of_lt hT8]), hVk.2.trans (by rw [cpV_0])⟩) (hCk) (Nat.lt_succ_self _)

set_option maxHeartbeats 4000000 in
theorem c_X7_history (ρ : Rho) (σ : Sg) (d : Int32) (c : Int32) (w : Int32) (hC : CInv σ ρ) : CallOK 3 mX7_history [.ref 0, .int d, .int c, .int w] ρ (fun r ρ2 => ∃ v, r = some v ∧ (v = .int (r_history σ d c w) ∧ CInv (σ) ρ2 ∧ EqM ρ ρ2)) := by
  refine callOK_of 0 (by decide +kernel) rfl (fun _ => Nat.le_of_ble_eq_true rfl) (ls := [some (.ref 0), some (.int d), some (.int c), some (.int w)]) rfl ?_
  generalize hQ : (fun r ρ2 => ∃ v, r = some v ∧ (v = .int (r_history σ d c w) ∧ CInv (σ) ρ2 ∧ EqM ρ ρ2) : Option Value → Rho → Prop) = Q
  refine w_il dX7_history_0 rfl ?_
  refine w_cSf dX7_history_1 (sl_X7_87 _ rfl) (by decide) (c_X7_isDay ρ d) rfl rfl (Nat.le_of_ble_eq_true rfl) ?_
  refine w_ifeqB dX7_history_4 (fun h4 => ?_) (fun h4 => ?_)
  · --t
    refine w_k dX7_history_32 ?_
    refine w_iret dX7_history_34 rfl ?_
    rw [← hQ]
    exact ⟨_, rfl, by rw [r_history, if_neg (fun z => h4 z.1)], ⟨hC.1, hC.2.1, hC.2.2⟩, EqM.rf⟩
  · --f
    obtain ⟨a, ha, rfl⟩ := inR_nI h4 (by decide)
    refine w_il dX7_history_7 rfl ?_
    refine w_k dX7_history_8 ?_
    refine w_cSf dX7_history_10 (sl_X7_61 _ rfl) (by decide) (c_X7_within ρ c (nI 12)) rfl rfl (Nat.le_of_ble_eq_true rfl) ?_
    refine w_ifeqB dX7_history_13 (fun h13 => ?_) (fun h13 => ?_)
    · --t
      refine w_k dX7_history_32 ?_
      refine w_iret dX7_history_34 rfl ?_
      rw [← hQ]
      exact ⟨_, rfl, by rw [r_history, if_neg (fun z => h13 z.2.1)], ⟨hC.1, hC.2.1, hC.2.2⟩, EqM.rf⟩
    · --f
      obtain ⟨n, hn, rfl⟩ := inR_nI h13 (by decide)
      refine w_il dX7_history_16 rfl ?_
      refine w_il dX7_history_17 rfl ?_
      refine w_iaddN dX7_history_18 ?_
      refine w_k dX7_history_19 ?_
      refine w_icgtN dX7_history_21 (by omega) (by omega) (fun h21 => ?_) (fun h21 => ?_)
      · --t
        refine w_k dX7_history_32 ?_
        refine w_iret dX7_history_34 rfl ?_
        rw [← hQ]
        exact ⟨_, rfl, by rw [r_history, if_neg (fun z => absurd (show a + n ≤ 100 by have q := z.2.2.1; rwa [nv_nI (a := a) (by omega), nv_nI (a := n) (by omega)] at q) (by omega))], ⟨hC.1, hC.2.1, hC.2.2⟩, EqM.rf⟩
      · --f
        refine w_il dX7_history_24 rfl ?_
        refine w_k dX7_history_25 ?_
        refine w_cSf dX7_history_26 (sl_X7_61 _ rfl) (by decide) (c_X7_within ρ w (nI 3)) rfl rfl (Nat.le_of_ble_eq_true rfl) ?_
        refine w_ifneB dX7_history_29 (fun h29 => ?_) (fun h29 => ?_)
        · --t
          obtain ⟨v, hv, rfl⟩ := inR_nI h29 (by decide)
          refine w_al dX7_history_35 rfl ?_
          refine w_gr dX7_history_36 fl_X7_50 sh0 rfl ?_
          refine w_al dX7_history_39 rfl ?_
          refine w_gr dX7_history_40 fl_X7_10 sh0 rfl ?_
          refine w_il dX7_history_43 rfl ?_
          refine w_ifneN dX7_history_44 (by omega) (fun h44 => ?_) (fun h44 => ?_)
          · --t
            refine w_al dX7_history_57 rfl ?_
            refine w_gr dX7_history_58 fl_X7_19 sh0 rfl ?_
            refine w_gr dX7_history_61 fl_X7_98 sh10 rfl ?_
            refine w_il dX7_history_64 rfl ?_
            refine w_k dX7_history_65 ?_
            refine w_isubN dX7_history_66 (by omega) ?_
            refine w_ialdV (v := (nI (Tn σ (a - 1)))) dX7_history_67 sh15 (by omega) (hC.2.2 _ (by omega)) ?_
            rw [show Tn σ (a - 1) = t0 σ a from (if_neg h44).symm]
            refine w_il dX7_history_68 rfl ?_
            refine w_cVu dX7_history_69 (vl_X7_248 _ rfl) sh32 (by decide) (c_X2_search ρ σ (t0 σ a) n hC.1 hC.2.1 (by omega) (t0_lt hC.1.1 a)) rfl rfl (Nat.le_of_ble_eq_true rfl) (fun ρs hs9 => ?_)
            obtain ⟨hFs, hVs, hs5, hs6, hs7, hs8⟩ := hs9
            have w5 := aN_le (σ := σ) (T := t0 σ a) (n := n) (u := fun c => c) (2 ^ n)
            have w6 := p12 n (by omega)
            refine w_il dX7_history_72 rfl ?_
            refine w_ifneN dX7_history_73 (by omega) (fun h73 => ?_) (fun h73 => ?_)
            · --t
              refine w_il dX7_history_84 rfl ?_
              refine w_k dX7_history_85 ?_
              refine w_icneN dX7_history_86 (by omega) (by omega) (fun h86 => ?_) (fun h86 => ?_)
              · --t
                refine w_al dX7_history_97 rfl ?_
                refine w_gr dX7_history_98 fl_X7_50 sh0 rfl ?_
                refine w_giV (v := (nI (aN σ (t0 σ a) n (fun c => c) (2 ^ n)))) dX7_history_101 fl_X7_252 sh32 rfl (hs5) ?_
                refine w_ifneN dX7_history_104 (by omega) (fun h104 => ?_) (fun h104 => ?_)
                · --t
                  refine w_il dX7_history_110 rfl ?_
                  refine w_k dX7_history_111 ?_
                  refine w_icneN dX7_history_112 (by omega) (by omega) (fun h112 => ?_) (fun h112 => ?_)
                  · --t
                    refine w_al dX7_history_125 rfl ?_
                    refine w_gr dX7_history_126 fl_X7_50 sh0 rfl ?_
                    refine w_giV (v := (aO σ (t0 σ a) n (fun c => c) (2 ^ n))) dX7_history_129 fl_X7_261 sh32 rfl (hs8) ?_
                    refine w_iret dX7_history_132 rfl ?_
                    rw [← hQ]
                    exact ⟨_, rfl, by rw [r_history, if_pos ⟨h4, h13, by rw [nv_nI (a := a) (by omega), nv_nI (a := n) (by omega)]; omega, h29⟩, nv_nI (a := a) (by omega), nv_nI (a := n) (by omega), nv_nI (a := v) (by omega), v_hist, if_neg h73, if_neg h86, if_neg h104, if_neg h112], ⟨(CP.hv hC.1 hFs (by decide) hVs), (CLd.fr hC.2.1 hFs (by decide)), (CTn.fr hC.2.2 hFs (by decide))⟩, (Fr.eqM hFs (by decide))⟩
                  · --f
                    refine w_al dX7_history_115 rfl ?_
                    refine w_gr dX7_history_116 fl_X7_50 sh0 rfl ?_
                    refine w_giV (v := (aW σ (t0 σ a) n (fun c => c) (2 ^ n))) dX7_history_119 fl_X7_258 sh32 rfl (hs7) ?_
                    refine w_goto dX7_history_122 ?_
                    refine w_iret dX7_history_132 rfl ?_
                    rw [← hQ]
                    exact ⟨_, rfl, by rw [r_history, if_pos ⟨h4, h13, by rw [nv_nI (a := a) (by omega), nv_nI (a := n) (by omega)]; omega, h29⟩, nv_nI (a := a) (by omega), nv_nI (a := n) (by omega), nv_nI (a := v) (by omega), v_hist, if_neg h73, if_neg h86, if_neg h104, if_pos h112], ⟨(CP.hv hC.1 hFs (by decide) hVs), (CLd.fr hC.2.1 hFs (by decide)), (CTn.fr hC.2.2 hFs (by decide))⟩, (Fr.eqM hFs (by decide))⟩
                · --f
                  refine w_k dX7_history_107 ?_
                  refine w_iret dX7_history_109 rfl ?_
                  rw [← hQ]
                  exact ⟨_, rfl, by rw [r_history, if_pos ⟨h4, h13, by rw [nv_nI (a := a) (by omega), nv_nI (a := n) (by omega)]; omega, h29⟩, nv_nI (a := a) (by omega), nv_nI (a := n) (by omega), nv_nI (a := v) (by omega), v_hist, if_neg h73, if_neg h86, if_pos h104], ⟨(CP.hv hC.1 hFs (by decide) hVs), (CLd.fr hC.2.1 hFs (by decide)), (CTn.fr hC.2.2 hFs (by decide))⟩, (Fr.eqM hFs (by decide))⟩
              · --f
                refine w_al dX7_history_89 rfl ?_
                refine w_gr dX7_history_90 fl_X7_50 sh0 rfl ?_
                refine w_giV (v := (fst (aX σ (t0 σ a) n (fun c => c) (2 ^ n)))) dX7_history_93 fl_X7_255 sh32 rfl (hs6) ?_
                refine w_iret dX7_history_96 rfl ?_
                rw [← hQ]
                exact ⟨_, rfl, by rw [r_history, if_pos ⟨h4, h13, by rw [nv_nI (a := a) (by omega), nv_nI (a := n) (by omega)]; omega, h29⟩, nv_nI (a := a) (by omega), nv_nI (a := n) (by omega), nv_nI (a := v) (by omega), v_hist, if_neg h73, if_pos h86], ⟨(CP.hv hC.1 hFs (by decide) hVs), (CLd.fr hC.2.1 hFs (by decide)), (CTn.fr hC.2.2 hFs (by decide))⟩, (Fr.eqM hFs (by decide))⟩
            · --f
              refine w_al dX7_history_76 rfl ?_
              refine w_gr dX7_history_77 fl_X7_50 sh0 rfl ?_
              refine w_giV (v := (nI (aN σ (t0 σ a) n (fun c => c) (2 ^ n)))) dX7_history_80 fl_X7_252 sh32 rfl (hs5) ?_
              refine w_iret dX7_history_83 rfl ?_
              rw [← hQ]
              exact ⟨_, rfl, by rw [r_history, if_pos ⟨h4, h13, by rw [nv_nI (a := a) (by omega), nv_nI (a := n) (by omega)]; omega, h29⟩, nv_nI (a := a) (by omega), nv_nI (a := n) (by omega), nv_nI (a := v) (by omega), v_hist, if_pos h73], ⟨(CP.hv hC.1 hFs (by decide) hVs), (CLd.fr hC.2.1 hFs (by decide)), (CTn.fr hC.2.2 hFs (by decide))⟩, (Fr.eqM hFs (by decide))⟩
          · --f
            refine w_al dX7_history_47 rfl ?_
            refine w_gr dX7_history_48 fl_X7_19 sh0 rfl ?_
            refine w_giV (v := (nI (σ.1 57 2))) dX7_history_51 fl_X7_246 sh10 rfl (hC.1.2.2.2.1 (10, 8, 57, 2) (by decide)) ?_
            refine w_goto dX7_history_54 ?_
            rw [show σ.1 57 2 = t0 σ a from (if_pos h44).symm]
            refine w_il dX7_history_68 rfl ?_
            refine w_cVu dX7_history_69 (vl_X7_248 _ rfl) sh32 (by decide) (c_X2_search ρ σ (t0 σ a) n hC.1 hC.2.1 (by omega) (t0_lt hC.1.1 a)) rfl rfl (Nat.le_of_ble_eq_true rfl) (fun ρs hs9 => ?_)
            obtain ⟨hFs, hVs, hs5, hs6, hs7, hs8⟩ := hs9
            have w5 := aN_le (σ := σ) (T := t0 σ a) (n := n) (u := fun c => c) (2 ^ n)
            have w6 := p12 n (by omega)
            refine w_il dX7_history_72 rfl ?_
            refine w_ifneN dX7_history_73 (by omega) (fun h73 => ?_) (fun h73 => ?_)
            · --t
              refine w_il dX7_history_84 rfl ?_
              refine w_k dX7_history_85 ?_
              refine w_icneN dX7_history_86 (by omega) (by omega) (fun h86 => ?_) (fun h86 => ?_)
              · --t
                refine w_al dX7_history_97 rfl ?_
                refine w_gr dX7_history_98 fl_X7_50 sh0 rfl ?_
                refine w_giV (v := (nI (aN σ (t0 σ a) n (fun c => c) (2 ^ n)))) dX7_history_101 fl_X7_252 sh32 rfl (hs5) ?_
                refine w_ifneN dX7_history_104 (by omega) (fun h104 => ?_) (fun h104 => ?_)
                · --t
                  refine w_il dX7_history_110 rfl ?_
                  refine w_k dX7_history_111 ?_
                  refine w_icneN dX7_history_112 (by omega) (by omega) (fun h112 => ?_) (fun h112 => ?_)
                  · --t
                    refine w_al dX7_history_125 rfl ?_
                    refine w_gr dX7_history_126 fl_X7_50 sh0 rfl ?_
                    refine w_giV (v := (aO σ (t0 σ a) n (fun c => c) (2 ^ n))) dX7_history_129 fl_X7_261 sh32 rfl (hs8) ?_
                    refine w_iret dX7_history_132 rfl ?_
                    rw [← hQ]
                    exact ⟨_, rfl, by rw [r_history, if_pos ⟨h4, h13, by rw [nv_nI (a := a) (by omega), nv_nI (a := n) (by omega)]; omega, h29⟩, nv_nI (a := a) (by omega), nv_nI (a := n) (by omega), nv_nI (a := v) (by omega), v_hist, if_neg h73, if_neg h86, if_neg h104, if_neg h112], ⟨(CP.hv hC.1 hFs (by decide) hVs), (CLd.fr hC.2.1 hFs (by decide)), (CTn.fr hC.2.2 hFs (by decide))⟩, (Fr.eqM hFs (by decide))⟩
                  · --f
                    refine w_al dX7_history_115 rfl ?_
                    refine w_gr dX7_history_116 fl_X7_50 sh0 rfl ?_
                    refine w_giV (v := (aW σ (t0 σ a) n (fun c => c) (2 ^ n))) dX7_history_119 fl_X7_258 sh32 rfl (hs7) ?_
                    refine w_goto dX7_history_122 ?_
                    refine w_iret dX7_history_132 rfl ?_
                    rw [← hQ]
                    exact ⟨_, rfl, by rw [r_history, if_pos ⟨h4, h13, by rw [nv_nI (a := a) (by omega), nv_nI (a := n) (by omega)]; omega, h29⟩, nv_nI (a := a) (by omega), nv_nI (a := n) (by omega), nv_nI (a := v) (by omega), v_hist, if_neg h73, if_neg h86, if_neg h104, if_pos h112], ⟨(CP.hv hC.1 hFs (by decide) hVs), (CLd.fr hC.2.1 hFs (by decide)), (CTn.fr hC.2.2 hFs (by decide))⟩, (Fr.eqM hFs (by decide))⟩
                · --f
                  refine w_k dX7_history_107 ?_
                  refine w_iret dX7_history_109 rfl ?_
                  rw [← hQ]
                  exact ⟨_, rfl, by rw [r_history, if_pos ⟨h4, h13, by rw [nv_nI (a := a) (by omega), nv_nI (a := n) (by omega)]; omega, h29⟩, nv_nI (a := a) (by omega), nv_nI (a := n) (by omega), nv_nI (a := v) (by omega), v_hist, if_neg h73, if_neg h86, if_pos h104], ⟨(CP.hv hC.1 hFs (by decide) hVs), (CLd.fr hC.2.1 hFs (by decide)), (CTn.fr hC.2.2 hFs (by decide))⟩, (Fr.eqM hFs (by decide))⟩
              · --f
                refine w_al dX7_history_89 rfl ?_
                refine w_gr dX7_history_90 fl_X7_50 sh0 rfl ?_
                refine w_giV (v := (fst (aX σ (t0 σ a) n (fun c => c) (2 ^ n)))) dX7_history_93 fl_X7_255 sh32 rfl (hs6) ?_
                refine w_iret dX7_history_96 rfl ?_
                rw [← hQ]
                exact ⟨_, rfl, by rw [r_history, if_pos ⟨h4, h13, by rw [nv_nI (a := a) (by omega), nv_nI (a := n) (by omega)]; omega, h29⟩, nv_nI (a := a) (by omega), nv_nI (a := n) (by omega), nv_nI (a := v) (by omega), v_hist, if_neg h73, if_pos h86], ⟨(CP.hv hC.1 hFs (by decide) hVs), (CLd.fr hC.2.1 hFs (by decide)), (CTn.fr hC.2.2 hFs (by decide))⟩, (Fr.eqM hFs (by decide))⟩
            · --f
              refine w_al dX7_history_76 rfl ?_
              refine w_gr dX7_history_77 fl_X7_50 sh0 rfl ?_
              refine w_giV (v := (nI (aN σ (t0 σ a) n (fun c => c) (2 ^ n)))) dX7_history_80 fl_X7_252 sh32 rfl (hs5) ?_
              refine w_iret dX7_history_83 rfl ?_
              rw [← hQ]
              exact ⟨_, rfl, by rw [r_history, if_pos ⟨h4, h13, by rw [nv_nI (a := a) (by omega), nv_nI (a := n) (by omega)]; omega, h29⟩, nv_nI (a := a) (by omega), nv_nI (a := n) (by omega), nv_nI (a := v) (by omega), v_hist, if_pos h73], ⟨(CP.hv hC.1 hFs (by decide) hVs), (CLd.fr hC.2.1 hFs (by decide)), (CTn.fr hC.2.2 hFs (by decide))⟩, (Fr.eqM hFs (by decide))⟩
        · --f
          refine w_k dX7_history_32 ?_
          refine w_iret dX7_history_34 rfl ?_
          rw [← hQ]
          exact ⟨_, rfl, by rw [r_history, if_neg (fun z => h29 z.2.2.2)], ⟨hC.1, hC.2.1, hC.2.2⟩, EqM.rf⟩
