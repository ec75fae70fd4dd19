def ownN (σ : Sg) (n : Nat) : Nat := sumN (fun t => if σ.1 63 t = t then 1 else 0) n
theorem own_y {σ : Sg} {k : Nat} (h : σ.1 63 k = k) : ownN σ (k + 1) = ownN σ k + 1 := by
  show _ + (if _ then _ else _) = _
  rw [if_pos h]; rfl
theorem own_n {σ : Sg} {k : Nat} (h : σ.1 63 k ≠ k) : ownN σ (k + 1) = ownN σ k := by
  show _ + (if _ then _ else _) = _
  rw [if_neg h]; rfl
theorem own_le (σ : Sg) (n : Nat) : ownN σ n ≤ n * 1 := sumN_le n (fun i _ => by split <;> omega)
theorem clN_le (σ : Sg) (n : Nat) : sumN (Cl σ) n ≤ n * 1 := sumN_le n (fun i _ => Cl_le σ i)
def cV (σ : Sg) (k : Nat) : Int32 := match k with
  | 0 => nI (σ.1 47 7)
  | 1 => nI (numC σ (σ.1 47 7))
  | 2 => nI (σ.1 47 0)
  | 3 => nI (NB σ)
  | 4 => nI (sumN (Cl σ) 8)
  | 5 => nI (σ.1 57 0)
  | 6 => nI (σ.1 57 1)
  | 7 => nI (ownN σ 8)
  | _ => nI (σ.1 47 29)
def r_count (σ : Sg) (w : Int32) : Int32 := if inR w (nI 0) (nI 8) then cV σ (nv w) else -2
theorem out8 {w : Int32} (h : ¬ inR w (nI 0) (nI 8)) : w.toInt < 0 ∨ 8 < w.toInt := by
  by_cases h1 : w.toInt < 0
  · exact Or.inl h1
  · refine Or.inr ?_
    by_cases q : 8 < w.toInt
    · exact q
    · exfalso
      refine h ⟨?_, ?_⟩
      · rw [Int32.le_iff_toInt_le, nI_toInt (by decide)]; omega
      · rw [Int32.le_iff_toInt_le, nI_toInt (by decide)]; omega
theorem numC_0 {σ : Sg} {k : Nat} (h : ¬ cntG σ k) : nI (numC σ k + 0) = nI (numC σ (k + 1)) := by rw [numC_n h]; rfl
theorem own_n0 {σ : Sg} {k : Nat} (h : σ.1 63 k ≠ k) : nI (ownN σ k + 0) = nI (ownN σ (k + 1)) := by rw [own_n h]; rfl
set_option maxHeartbeats 4000000 in
theorem c_X5_inOwnRow (ρ : Rho) (σ : Sg)  (hP : CP σ ρ) : CallOK 0 mX5_inOwnRow [.ref 26] ρ (fun r ρ2 => r = some (.int (nI (ownN σ 8))) ∧ ρ2 = ρ) := by
  refine callOK_of 2 (by decide +kernel) rfl (fun _ => Nat.le_of_ble_eq_true rfl) (ls := [some (.ref 26), none, none]) rfl ?_
  generalize hQ : (fun r ρ2 => r = some (.int (nI (ownN σ 8))) ∧ ρ2 = ρ : Option Value → Rho → Prop) = Q
  refine w_k dX5_inOwnRow_0 ?_
  refine w_is (ls2 := [some (.ref 26), some (.int (nI 0)), none]) dX5_inOwnRow_1 rfl ?_
  refine w_k dX5_inOwnRow_2 ?_
  refine w_is (ls2 := [some (.ref 26), some (.int (nI 0)), some (.int (nI 0))]) dX5_inOwnRow_3 rfl ?_
  have L4 : ∀ (n4 : Nat) (k : Nat), (k ≤ 8) → (8 - k) < n4 → MW mX5_inOwnRow 0 4 [some (.ref 26), some (.int (nI (ownN σ k))), some (.int (nI k))] [] ρ Q := by
    intro n4
    induction n4 with
    | zero =>
      intro k hk hm4
      exact absurd hm4 (Nat.not_lt_zero _)
    | succ n4 ih4 =>
      intro k hk hm4
      have wl := hP.1.lives k
      refine w_il dX5_inOwnRow_4 rfl ?_
      refine w_k dX5_inOwnRow_5 ?_
      refine w_icgeN dX5_inOwnRow_7 (by omega) (by omega) (fun h7 => ?_) (fun h7 => ?_)
      · --t
        refine w_il dX5_inOwnRow_29 rfl ?_
        refine w_iret dX5_inOwnRow_30 rfl ?_
        rw [← hQ]
        exact ⟨by rw [show k = 8 by omega], rfl⟩
      · --f
        refine w_al dX5_inOwnRow_10 rfl ?_
        refine w_gr dX5_inOwnRow_11 fl_X5_9 sh26 rfl ?_
        refine w_il dX5_inOwnRow_14 rfl ?_
        refine w_ialdV (v := (nI (σ.1 63 k))) dX5_inOwnRow_15 sh27 (by omega) (hP.2.1 (27, 63) (by decide) _) ?_
        refine w_il dX5_inOwnRow_16 rfl ?_
        refine w_icneN dX5_inOwnRow_17 (by omega) (by omega) (fun h17 => ?_) (fun h17 => ?_)
        · --t
          refine w_iincN (ls2 := [some (.ref 26), some (.int (nI (ownN σ k))), some (.int (nI (k + 1)))]) dX5_inOwnRow_23 rfl rfl ?_
          refine w_goto dX5_inOwnRow_26 ?_
          rw [← own_n h17]
          exact ih4 (k + 1) (by omega) (by omega)
        · --f
          refine w_iincN (ls2 := [some (.ref 26), some (.int (nI (ownN σ k + 1))), some (.int (nI k))]) dX5_inOwnRow_20 rfl rfl ?_
          refine w_iincN (ls2 := [some (.ref 26), some (.int (nI (ownN σ k + 1))), some (.int (nI (k + 1)))]) dX5_inOwnRow_23 rfl rfl ?_
          refine w_goto dX5_inOwnRow_26 ?_
          rw [← own_y h17]
          exact ih4 (k + 1) (by omega) (by omega)
  exact L4 _ 0 (by omega) (Nat.lt_succ_self _)

set_option maxHeartbeats 4000000 in
theorem c_X3_closedPaths (ρ : Rho) (σ : Sg)  (hL : CLd σ ρ) : CallOK 0 mX3_closedPaths [.ref 1] ρ (fun r ρ2 => r = some (.int (nI (sumN (Cl σ) 8))) ∧ ρ2 = ρ) := by
  refine callOK_of 2 (by decide +kernel) rfl (fun _ => Nat.le_of_ble_eq_true rfl) (ls := [some (.ref 1), none, none]) rfl ?_
  generalize hQ : (fun r ρ2 => r = some (.int (nI (sumN (Cl σ) 8))) ∧ ρ2 = ρ : Option Value → Rho → Prop) = Q
  refine w_k dX3_closedPaths_0 ?_
  refine w_is (ls2 := [some (.ref 1), some (.int (nI 0)), none]) dX3_closedPaths_1 rfl ?_
  refine w_k dX3_closedPaths_2 ?_
  refine w_is (ls2 := [some (.ref 1), some (.int (nI 0)), some (.int (nI 0))]) dX3_closedPaths_3 rfl ?_
  have L4 : ∀ (n4 : Nat) (k : Nat), (k ≤ 8) → (8 - k) < n4 → MW mX3_closedPaths 0 4 [some (.ref 1), some (.int (nI (sumN (Cl σ) k))), some (.int (nI k))] [] ρ Q := by
    intro n4
    induction n4 with
    | zero =>
      intro k hk hm4
      exact absurd hm4 (Nat.not_lt_zero _)
    | succ n4 ih4 =>
      intro k hk hm4
      refine w_il dX3_closedPaths_4 rfl ?_
      refine w_k dX3_closedPaths_5 ?_
      refine w_icgeN dX3_closedPaths_7 (by omega) (by omega) (fun h7 => ?_) (fun h7 => ?_)
      · --t
        refine w_il dX3_closedPaths_25 rfl ?_
        refine w_iret dX3_closedPaths_26 rfl ?_
        rw [← hQ]
        exact ⟨by rw [show k = 8 by omega], rfl⟩
      · --f
        refine w_il dX3_closedPaths_10 rfl ?_
        refine w_al dX3_closedPaths_11 rfl ?_
        refine w_gr dX3_closedPaths_12 fl_X3_25 sh1 rfl ?_
        refine w_il dX3_closedPaths_15 rfl ?_
        refine w_ialdV (v := (nI (Cl σ k))) dX3_closedPaths_16 sh4 (by omega) (hL.2.1 _ (by omega)) ?_
        refine w_iaddN dX3_closedPaths_17 ?_
        refine w_is (ls2 := [some (.ref 1), some (.int (nI (sumN (Cl σ) k + (Cl σ k)))), some (.int (nI k))]) dX3_closedPaths_18 rfl ?_
        refine w_iincN (ls2 := [some (.ref 1), some (.int (nI (sumN (Cl σ) k + (Cl σ k)))), some (.int (nI (k + 1)))]) dX3_closedPaths_19 rfl rfl ?_
        refine w_goto dX3_closedPaths_22 ?_
        exact ih4 (k + 1) (by omega) (by omega)
  exact L4 _ 0 (by omega) (Nat.lt_succ_self _)

set_option maxHeartbeats 4000000 in
theorem c_X7_count (ρ : Rho) (σ : Sg) (p : Int32) (hC : CInv σ ρ) : CallOK 2 mX7_count [.ref 0, .int p] ρ (fun r ρ2 => ∃ v, r = some v ∧ (v = .int (r_count σ p) ∧ CInv (σ) ρ2 ∧ EqM ρ ρ2)) := by
  refine callOK_of 0 (by decide +kernel) rfl (fun _ => Nat.le_of_ble_eq_true rfl) (ls := [some (.ref 0), some (.int p)]) rfl ?_
  generalize hQ : (fun r ρ2 => ∃ v, r = some v ∧ (v = .int (r_count σ p) ∧ CInv (σ) ρ2 ∧ EqM ρ ρ2) : Option Value → Rho → Prop) = Q
  refine w_il dX7_count_0 rfl ?_
  by_cases hr : inR p (nI 0) (nI 8)
  · --
    obtain ⟨k, hk, rfl⟩ := inR_nI hr (by decide)
    rcases (show k = 0 ∨ k = 1 ∨ k = 2 ∨ k = 3 ∨ k = 4 ∨ k = 5 ∨ k = 6 ∨ k = 7 ∨ k = 8 by omega) with rfl | rfl | rfl | rfl | rfl | rfl | rfl | rfl | rfl
    · --0
      refine w_tin (off := 51) (tgt := 52) dX7_count_1 (by decide) (by decide) (by decide) (by decide) ?_
      refine w_al dX7_count_52 rfl ?_
      refine w_gr dX7_count_53 fl_X7_19 sh0 rfl ?_
      refine w_giV (v := (nI (σ.1 47 7))) dX7_count_56 fl_X7_113 sh10 rfl (hC.1.2.2.2.1 (10, 0, 47, 7) (by decide)) ?_
      refine w_iret dX7_count_59 rfl ?_
      rw [← hQ]
      exact ⟨_, rfl, by rw [r_count, if_pos hr, nv_nI (by decide)]; first | done | rfl, ⟨hC.1, hC.2.1, hC.2.2⟩, EqM.rf⟩
    · --1
      refine w_tin (off := 59) (tgt := 60) dX7_count_1 (by decide) (by decide) (by decide) (by decide) ?_
      refine w_al dX7_count_60 rfl ?_
      refine w_gr dX7_count_61 fl_X7_19 sh0 rfl ?_
      refine w_cVf dX7_count_64 (vl_X7_295 _ rfl) sh10 (by decide) (c_X1_counting ρ σ hC.1) rfl rfl (Nat.le_of_ble_eq_true rfl) ?_
      refine w_iret dX7_count_67 rfl ?_
      rw [← hQ]
      exact ⟨_, rfl, by rw [r_count, if_pos hr, nv_nI (by decide)]; first | done | rfl, ⟨hC.1, hC.2.1, hC.2.2⟩, EqM.rf⟩
    · --2
      refine w_tin (off := 67) (tgt := 68) dX7_count_1 (by decide) (by decide) (by decide) (by decide) ?_
      refine w_al dX7_count_68 rfl ?_
      refine w_gr dX7_count_69 fl_X7_10 sh0 rfl ?_
      refine w_giV (v := (nI (σ.1 47 0))) dX7_count_72 fl_X7_298 sh1 rfl (hC.1.2.2.2.1 (1, 1, 47, 0) (by decide)) ?_
      refine w_iret dX7_count_75 rfl ?_
      rw [← hQ]
      exact ⟨_, rfl, by rw [r_count, if_pos hr, nv_nI (by decide)]; first | done | rfl, ⟨hC.1, hC.2.1, hC.2.2⟩, EqM.rf⟩
    · --3
      refine w_tin (off := 75) (tgt := 76) dX7_count_1 (by decide) (by decide) (by decide) (by decide) ?_
      refine w_al dX7_count_76 rfl ?_
      refine w_gr dX7_count_77 fl_X7_10 sh0 rfl ?_
      refine w_giV (v := (nI (NB σ))) dX7_count_80 fl_X7_91 sh1 rfl (hC.2.1.2.2.1) ?_
      refine w_iret dX7_count_83 rfl ?_
      rw [← hQ]
      exact ⟨_, rfl, by rw [r_count, if_pos hr, nv_nI (by decide)]; first | done | rfl, ⟨hC.1, hC.2.1, hC.2.2⟩, EqM.rf⟩
    · --4
      refine w_tin (off := 83) (tgt := 84) dX7_count_1 (by decide) (by decide) (by decide) (by decide) ?_
      refine w_al dX7_count_84 rfl ?_
      refine w_gr dX7_count_85 fl_X7_10 sh0 rfl ?_
      refine w_cVf dX7_count_88 (vl_X7_301 _ rfl) sh1 (by decide) (c_X3_closedPaths ρ σ hC.2.1) rfl rfl (Nat.le_of_ble_eq_true rfl) ?_
      refine w_iret dX7_count_91 rfl ?_
      rw [← hQ]
      exact ⟨_, rfl, by rw [r_count, if_pos hr, nv_nI (by decide)]; first | done | rfl, ⟨hC.1, hC.2.1, hC.2.2⟩, EqM.rf⟩
    · --5
      refine w_tin (off := 91) (tgt := 92) dX7_count_1 (by decide) (by decide) (by decide) (by decide) ?_
      refine w_al dX7_count_92 rfl ?_
      refine w_gr dX7_count_93 fl_X7_19 sh0 rfl ?_
      refine w_giV (v := (nI (σ.1 57 0))) dX7_count_96 fl_X7_304 sh10 rfl (hC.1.2.2.2.1 (10, 6, 57, 0) (by decide)) ?_
      refine w_iret dX7_count_99 rfl ?_
      rw [← hQ]
      exact ⟨_, rfl, by rw [r_count, if_pos hr, nv_nI (by decide)]; first | done | rfl, ⟨hC.1, hC.2.1, hC.2.2⟩, EqM.rf⟩
    · --6
      refine w_tin (off := 99) (tgt := 100) dX7_count_1 (by decide) (by decide) (by decide) (by decide) ?_
      refine w_al dX7_count_100 rfl ?_
      refine w_gr dX7_count_101 fl_X7_19 sh0 rfl ?_
      refine w_giV (v := (nI (σ.1 57 1))) dX7_count_104 fl_X7_307 sh10 rfl (hC.1.2.2.2.1 (10, 7, 57, 1) (by decide)) ?_
      refine w_iret dX7_count_107 rfl ?_
      rw [← hQ]
      exact ⟨_, rfl, by rw [r_count, if_pos hr, nv_nI (by decide)]; first | done | rfl, ⟨hC.1, hC.2.1, hC.2.2⟩, EqM.rf⟩
    · --7
      refine w_tin (off := 107) (tgt := 108) dX7_count_1 (by decide) (by decide) (by decide) (by decide) ?_
      refine w_al dX7_count_108 rfl ?_
      refine w_gr dX7_count_109 fl_X7_43 sh0 rfl ?_
      refine w_cVf dX7_count_112 (vl_X7_310 _ rfl) sh26 (by decide) (c_X5_inOwnRow ρ σ hC.1) rfl rfl (Nat.le_of_ble_eq_true rfl) ?_
      refine w_iret dX7_count_115 rfl ?_
      rw [← hQ]
      exact ⟨_, rfl, by rw [r_count, if_pos hr, nv_nI (by decide)]; first | done | rfl, ⟨hC.1, hC.2.1, hC.2.2⟩, EqM.rf⟩
    · --8
      refine w_tin (off := 115) (tgt := 116) dX7_count_1 (by decide) (by decide) (by decide) (by decide) ?_
      refine w_al dX7_count_116 rfl ?_
      refine w_giV (v := (nI (σ.1 47 29))) dX7_count_117 fl_X7_280 sh0 rfl (hC.1.2.2.2.1 (0, 8, 47, 29) (by decide)) ?_
      refine w_iret dX7_count_120 rfl ?_
      rw [← hQ]
      exact ⟨_, rfl, by rw [r_count, if_pos hr, nv_nI (by decide)]; first | done | rfl, ⟨hC.1, hC.2.1, hC.2.2⟩, EqM.rf⟩
  · --
    refine w_tout (tgt := 121) dX7_count_1 (out8 hr) (by decide) ?_
    refine w_k dX7_count_121 ?_
    refine w_iret dX7_count_123 rfl ?_
    rw [← hQ]
    exact ⟨_, rfl, by rw [r_count, if_neg hr], ⟨hC.1, hC.2.1, hC.2.2⟩, EqM.rf⟩

set_option maxHeartbeats 4000000 in
theorem c_X8_sumOf1 (ρ : Rho) (σ : Sg) (hM : MInv σ ρ) : CallOK 4 mX8_sumOf [.ref 47, .int (nI 1)] ρ (fun r ρ2 => ∃ v, r = some v ∧ (v = .int (nI (numC σ (σ.1 47 7))) ∧ MInv σ ρ2 ∧ EqC ρ ρ2)) := by
  refine callOK_of 3 (by decide +kernel) rfl (fun _ => Nat.le_of_ble_eq_true rfl) (ls := [some (.ref 47), some (.int (nI 1)), none, none, none]) rfl ?_
  generalize hQ : (fun r ρ2 => ∃ v, r = some v ∧ (v = .int (nI (numC σ (σ.1 47 7))) ∧ MInv σ ρ2 ∧ EqC ρ ρ2) : Option Value → Rho → Prop) = Q
  have w1 := hM.1.gales
  refine w_al dX8_sumOf_0 rfl ?_
  refine w_cVr dX8_sumOf_1 (vl_X8_115 _ rfl) sh47 (by decide) (c_X8_faultNow ρ σ hM) rfl rfl (Nat.le_of_ble_eq_true rfl) (fun vf1 ρf1 hf1 => ?_)
  obtain ⟨rfl, hMf1, hEf1, hLf1⟩ := hf1
  refine w_is (ls2 := [some (.ref 47), some (.int (nI 1)), some (.int (Flt σ)), none, none]) dX8_sumOf_4 rfl ?_
  refine w_k dX8_sumOf_5 ?_
  refine w_is (ls2 := [some (.ref 47), some (.int (nI 1)), some (.int (Flt σ)), some (.int (nI 0)), none]) dX8_sumOf_6 rfl ?_
  refine w_k dX8_sumOf_7 ?_
  refine w_is (ls2 := [some (.ref 47), some (.int (nI 1)), some (.int (Flt σ)), some (.int (nI 0)), some (.int (nI 0))]) dX8_sumOf_8 rfl ?_
  have L10 : ∀ (n10 : Nat) (k : Nat), (k ≤ σ.1 47 7) → (60 - k) < n10 → MW mX8_sumOf 4 10 [some (.ref 47), some (.int (nI 1)), none, some (.int (nI (numC σ k))), some (.int (nI k))] [] ρf1 Q := by
    intro n10
    induction n10 with
    | zero =>
      intro k hk hm10
      exact absurd hm10 (Nat.not_lt_zero _)
    | succ n10 ih10 =>
      intro k hk hm10
      have wn := numC_le σ k
      refine w_il dX8_sumOf_10 rfl ?_
      refine w_al dX8_sumOf_12 rfl ?_
      refine w_giV (v := (nI (σ.1 47 7))) dX8_sumOf_13 fl_X8_129 sh47 rfl (hMf1.2.2.2 7 (by decide)) ?_
      refine w_icgeN dX8_sumOf_16 (by omega) (by omega) (fun h16 => ?_) (fun h16 => ?_)
      · --t
        refine w_k dX8_sumOf_47 ?_
        refine w_is (ls2 := [some (.ref 47), some (.int (nI 1)), none, some (.int (nI (numC σ k))), some (.int (nI 0))]) dX8_sumOf_48 rfl ?_
        have L50 : ∀ (n50 : Nat) (k : Nat), (k ≤ 8) → (8 - k) < n50 → MW mX8_sumOf 4 50 [some (.ref 47), some (.int (nI 1)), none, some (.int (nI (numC σ (σ.1 47 7)))), some (.int (nI k))] [] ρf1 Q := by
          intro n50
          induction n50 with
          | zero =>
            intro k hk hm50
            exact absurd hm50 (Nat.not_lt_zero _)
          | succ n50 ih50 =>
            intro k hk hm50
            have wl := hM.1.lives k
            have wo := own_le σ k
            have wq := clN_le σ k
            refine w_il dX8_sumOf_50 rfl ?_
            refine w_k dX8_sumOf_52 ?_
            refine w_icgeN dX8_sumOf_54 (by omega) (by omega) (fun h54 => ?_) (fun h54 => ?_)
            · --t
              refine w_il dX8_sumOf_104 rfl ?_
              refine w_k dX8_sumOf_105 ?_
              refine w_icneN dX8_sumOf_106 (by omega) (by omega) (fun h106 => ?_) (fun h106 => ?_)
              · --t
                refine w_il dX8_sumOf_116 rfl ?_
                refine w_iret dX8_sumOf_117 rfl ?_
                rw [← hQ]
                exact ⟨_, rfl, rfl, hMf1, (EqC.tr EqC.rf hEf1)⟩
              · --f
                exact absurd h106 (by decide)
            · --f
              refine w_il dX8_sumOf_57 rfl ?_
              refine w_il dX8_sumOf_58 rfl ?_
              refine w_k dX8_sumOf_59 ?_
              refine w_icneN dX8_sumOf_60 (by omega) (by omega) (fun h60 => ?_) (fun h60 => ?_)
              · --t
                refine w_il dX8_sumOf_73 rfl ?_
                refine w_k dX8_sumOf_74 ?_
                refine w_icneN dX8_sumOf_76 (by omega) (by omega) (fun h76 => ?_) (fun h76 => ?_)
                · --t
                  refine w_k dX8_sumOf_95 ?_
                  refine w_iaddN dX8_sumOf_96 ?_
                  refine w_is (ls2 := [some (.ref 47), some (.int (nI 1)), none, some (.int (nI (numC σ (σ.1 47 7)))), some (.int (nI k))]) dX8_sumOf_97 rfl ?_
                  refine w_iincN (ls2 := [some (.ref 47), some (.int (nI 1)), none, some (.int (nI (numC σ (σ.1 47 7)))), some (.int (nI (k + 1)))]) dX8_sumOf_98 rfl rfl ?_
                  refine w_goto dX8_sumOf_101 ?_
                  exact ih50 (k + 1) (by omega) (by omega)
                · --f
                  exact absurd h76 (by decide)
              · --f
                exact absurd h60 (by decide)
        rw [show k = σ.1 47 7 by omega]
        exact L50 _ 0 (by omega) (Nat.lt_succ_self _)
      · --f
        refine w_il dX8_sumOf_19 rfl ?_
        refine w_k dX8_sumOf_20 ?_
        refine w_icneN dX8_sumOf_21 (by omega) (by omega) (fun h21 => ?_) (fun h21 => ?_)
        · --t
          exact absurd rfl h21
        · --f
          refine w_il dX8_sumOf_24 rfl ?_
          refine w_al dX8_sumOf_25 rfl ?_
          refine w_il dX8_sumOf_26 rfl ?_
          refine w_cVf dX8_sumOf_28 (vl_X8_142 _ rfl) sh47 (by decide) (c_X8_doesCount ρf1 σ k hMf1 (by omega)) rfl rfl (Nat.le_of_ble_eq_true rfl) ?_
          refine w_ifeqB dX8_sumOf_31 (fun h31 => ?_) (fun h31 => ?_)
          · --t
            refine w_k dX8_sumOf_38 ?_
            refine w_iaddN dX8_sumOf_39 ?_
            refine w_is (ls2 := [some (.ref 47), some (.int (nI 1)), none, some (.int (nI (numC σ k))), some (.int (nI k))]) dX8_sumOf_40 rfl ?_
            refine w_iincN (ls2 := [some (.ref 47), some (.int (nI 1)), none, some (.int (nI (numC σ k))), some (.int (nI (k + 1)))]) dX8_sumOf_41 rfl rfl ?_
            refine w_goto dX8_sumOf_44 ?_
            rw [← numC_n h31]
            exact ih10 (k + 1) (by omega) (by omega)
          · --f
            refine w_k dX8_sumOf_34 ?_
            refine w_goto dX8_sumOf_35 ?_
            refine w_iaddN dX8_sumOf_39 ?_
            refine w_is (ls2 := [some (.ref 47), some (.int (nI 1)), none, some (.int (nI (numC σ k + 1))), some (.int (nI k))]) dX8_sumOf_40 rfl ?_
            refine w_iincN (ls2 := [some (.ref 47), some (.int (nI 1)), none, some (.int (nI (numC σ k + 1))), some (.int (nI (k + 1)))]) dX8_sumOf_41 rfl rfl ?_
            refine w_goto dX8_sumOf_44 ?_
            rw [← numC_y h31]
            exact ih10 (k + 1) (by omega) (by omega)
  refine w_weak (ls2 := [some (.ref 47), some (.int (nI 1)), none, some (.int (nI 0)), some (.int (nI 0))]) ⟨rfl, ⟨rfl, ⟨rfl, ⟨rfl, trivial⟩⟩⟩⟩ ?_
  exact L10 _ 0 (by omega) (Nat.lt_succ_self _)

set_option maxHeartbeats 4000000 in
theorem c_X8_sumOf3 (ρ : Rho) (σ : Sg) (hM : MInv σ ρ) : CallOK 4 mX8_sumOf [.ref 47, .int (nI 3)] ρ (fun r ρ2 => ∃ v, r = some v ∧ (v = .int (nI (NB σ)) ∧ MInv σ ρ2 ∧ EqC ρ ρ2)) := by
  refine callOK_of 3 (by decide +kernel) rfl (fun _ => Nat.le_of_ble_eq_true rfl) (ls := [some (.ref 47), some (.int (nI 3)), none, none, none]) rfl ?_
  generalize hQ : (fun r ρ2 => ∃ v, r = some v ∧ (v = .int (nI (NB σ)) ∧ MInv σ ρ2 ∧ EqC ρ ρ2) : Option Value → Rho → Prop) = Q
  have w1 := hM.1.gales
  refine w_al dX8_sumOf_0 rfl ?_
  refine w_cVr dX8_sumOf_1 (vl_X8_115 _ rfl) sh47 (by decide) (c_X8_faultNow ρ σ hM) rfl rfl (Nat.le_of_ble_eq_true rfl) (fun vf1 ρf1 hf1 => ?_)
  obtain ⟨rfl, hMf1, hEf1, hLf1⟩ := hf1
  refine w_is (ls2 := [some (.ref 47), some (.int (nI 3)), some (.int (Flt σ)), none, none]) dX8_sumOf_4 rfl ?_
  refine w_k dX8_sumOf_5 ?_
  refine w_is (ls2 := [some (.ref 47), some (.int (nI 3)), some (.int (Flt σ)), some (.int (nI 0)), none]) dX8_sumOf_6 rfl ?_
  refine w_k dX8_sumOf_7 ?_
  refine w_is (ls2 := [some (.ref 47), some (.int (nI 3)), some (.int (Flt σ)), some (.int (nI 0)), some (.int (nI 0))]) dX8_sumOf_8 rfl ?_
  have L10 : ∀ (n10 : Nat) (k : Nat), (k ≤ σ.1 47 7) → (60 - k) < n10 → MW mX8_sumOf 4 10 [some (.ref 47), some (.int (nI 3)), none, some (.int (nI 0)), some (.int (nI k))] [] ρf1 Q := by
    intro n10
    induction n10 with
    | zero =>
      intro k hk hm10
      exact absurd hm10 (Nat.not_lt_zero _)
    | succ n10 ih10 =>
      intro k hk hm10
      have wn := numC_le σ k
      refine w_il dX8_sumOf_10 rfl ?_
      refine w_al dX8_sumOf_12 rfl ?_
      refine w_giV (v := (nI (σ.1 47 7))) dX8_sumOf_13 fl_X8_129 sh47 rfl (hMf1.2.2.2 7 (by decide)) ?_
      refine w_icgeN dX8_sumOf_16 (by omega) (by omega) (fun h16 => ?_) (fun h16 => ?_)
      · --t
        refine w_k dX8_sumOf_47 ?_
        refine w_is (ls2 := [some (.ref 47), some (.int (nI 3)), none, some (.int (nI 0)), some (.int (nI 0))]) dX8_sumOf_48 rfl ?_
        have L50 : ∀ (n50 : Nat) (k : Nat), (k ≤ 8) → (8 - k) < n50 → MW mX8_sumOf 4 50 [some (.ref 47), some (.int (nI 3)), none, some (.int (nI 0)), some (.int (nI k))] [] ρf1 Q := by
          intro n50
          induction n50 with
          | zero =>
            intro k hk hm50
            exact absurd hm50 (Nat.not_lt_zero _)
          | succ n50 ih50 =>
            intro k hk hm50
            have wl := hM.1.lives k
            have wo := own_le σ k
            have wq := clN_le σ k
            refine w_il dX8_sumOf_50 rfl ?_
            refine w_k dX8_sumOf_52 ?_
            refine w_icgeN dX8_sumOf_54 (by omega) (by omega) (fun h54 => ?_) (fun h54 => ?_)
            · --t
              refine w_il dX8_sumOf_104 rfl ?_
              refine w_k dX8_sumOf_105 ?_
              refine w_icneN dX8_sumOf_106 (by omega) (by omega) (fun h106 => ?_) (fun h106 => ?_)
              · --t
                exact absurd rfl h106
              · --f
                refine w_al dX8_sumOf_109 rfl ?_
                refine w_giV (v := (nI (NB σ))) dX8_sumOf_110 fl_X8_97 sh47 rfl (hLf1.2.2.1) ?_
                refine w_goto dX8_sumOf_113 ?_
                refine w_iret dX8_sumOf_117 rfl ?_
                rw [← hQ]
                exact ⟨_, rfl, rfl, hMf1, (EqC.tr EqC.rf hEf1)⟩
            · --f
              refine w_il dX8_sumOf_57 rfl ?_
              refine w_il dX8_sumOf_58 rfl ?_
              refine w_k dX8_sumOf_59 ?_
              refine w_icneN dX8_sumOf_60 (by omega) (by omega) (fun h60 => ?_) (fun h60 => ?_)
              · --t
                refine w_il dX8_sumOf_73 rfl ?_
                refine w_k dX8_sumOf_74 ?_
                refine w_icneN dX8_sumOf_76 (by omega) (by omega) (fun h76 => ?_) (fun h76 => ?_)
                · --t
                  refine w_k dX8_sumOf_95 ?_
                  refine w_iaddN dX8_sumOf_96 ?_
                  refine w_is (ls2 := [some (.ref 47), some (.int (nI 3)), none, some (.int (nI 0)), some (.int (nI k))]) dX8_sumOf_97 rfl ?_
                  refine w_iincN (ls2 := [some (.ref 47), some (.int (nI 3)), none, some (.int (nI 0)), some (.int (nI (k + 1)))]) dX8_sumOf_98 rfl rfl ?_
                  refine w_goto dX8_sumOf_101 ?_
                  exact ih50 (k + 1) (by omega) (by omega)
                · --f
                  exact absurd h76 (by decide)
              · --f
                exact absurd h60 (by decide)
        exact L50 _ 0 (by omega) (Nat.lt_succ_self _)
      · --f
        refine w_il dX8_sumOf_19 rfl ?_
        refine w_k dX8_sumOf_20 ?_
        refine w_icneN dX8_sumOf_21 (by omega) (by omega) (fun h21 => ?_) (fun h21 => ?_)
        · --t
          refine w_k dX8_sumOf_47 ?_
          refine w_is (ls2 := [some (.ref 47), some (.int (nI 3)), none, some (.int (nI 0)), some (.int (nI 0))]) dX8_sumOf_48 rfl ?_
          have L50 : ∀ (n50 : Nat) (k : Nat), (k ≤ 8) → (8 - k) < n50 → MW mX8_sumOf 4 50 [some (.ref 47), some (.int (nI 3)), none, some (.int (nI 0)), some (.int (nI k))] [] ρf1 Q := by
            intro n50
            induction n50 with
            | zero =>
              intro k hk hm50
              exact absurd hm50 (Nat.not_lt_zero _)
            | succ n50 ih50 =>
              intro k hk hm50
              have wl := hM.1.lives k
              have wo := own_le σ k
              have wq := clN_le σ k
              refine w_il dX8_sumOf_50 rfl ?_
              refine w_k dX8_sumOf_52 ?_
              refine w_icgeN dX8_sumOf_54 (by omega) (by omega) (fun h54 => ?_) (fun h54 => ?_)
              · --t
                refine w_il dX8_sumOf_104 rfl ?_
                refine w_k dX8_sumOf_105 ?_
                refine w_icneN dX8_sumOf_106 (by omega) (by omega) (fun h106 => ?_) (fun h106 => ?_)
                · --t
                  exact absurd rfl h106
                · --f
                  refine w_al dX8_sumOf_109 rfl ?_
                  refine w_giV (v := (nI (NB σ))) dX8_sumOf_110 fl_X8_97 sh47 rfl (hLf1.2.2.1) ?_
                  refine w_goto dX8_sumOf_113 ?_
                  refine w_iret dX8_sumOf_117 rfl ?_
                  rw [← hQ]
                  exact ⟨_, rfl, rfl, hMf1, (EqC.tr EqC.rf hEf1)⟩
              · --f
                refine w_il dX8_sumOf_57 rfl ?_
                refine w_il dX8_sumOf_58 rfl ?_
                refine w_k dX8_sumOf_59 ?_
                refine w_icneN dX8_sumOf_60 (by omega) (by omega) (fun h60 => ?_) (fun h60 => ?_)
                · --t
                  refine w_il dX8_sumOf_73 rfl ?_
                  refine w_k dX8_sumOf_74 ?_
                  refine w_icneN dX8_sumOf_76 (by omega) (by omega) (fun h76 => ?_) (fun h76 => ?_)
                  · --t
                    refine w_k dX8_sumOf_95 ?_
                    refine w_iaddN dX8_sumOf_96 ?_
                    refine w_is (ls2 := [some (.ref 47), some (.int (nI 3)), none, some (.int (nI 0)), some (.int (nI k))]) dX8_sumOf_97 rfl ?_
                    refine w_iincN (ls2 := [some (.ref 47), some (.int (nI 3)), none, some (.int (nI 0)), some (.int (nI (k + 1)))]) dX8_sumOf_98 rfl rfl ?_
                    refine w_goto dX8_sumOf_101 ?_
                    exact ih50 (k + 1) (by omega) (by omega)
                  · --f
                    exact absurd h76 (by decide)
                · --f
                  exact absurd h60 (by decide)
          exact L50 _ 0 (by omega) (Nat.lt_succ_self _)
        · --f
          exact absurd h21 (by decide)
  refine w_weak (ls2 := [some (.ref 47), some (.int (nI 3)), none, some (.int (nI 0)), some (.int (nI 0))]) ⟨rfl, ⟨rfl, ⟨rfl, ⟨rfl, trivial⟩⟩⟩⟩ ?_
  exact L10 _ 0 (by omega) (Nat.lt_succ_self _)

set_option maxHeartbeats 4000000 in
theorem c_X8_sumOf4 (ρ : Rho) (σ : Sg) (hM : MInv σ ρ) : CallOK 4 mX8_sumOf [.ref 47, .int (nI 4)] ρ (fun r ρ2 => ∃ v, r = some v ∧ (v = .int (nI (sumN (Cl σ) 8)) ∧ MInv σ ρ2 ∧ EqC ρ ρ2)) := by
  refine callOK_of 3 (by decide +kernel) rfl (fun _ => Nat.le_of_ble_eq_true rfl) (ls := [some (.ref 47), some (.int (nI 4)), none, none, none]) rfl ?_
  generalize hQ : (fun r ρ2 => ∃ v, r = some v ∧ (v = .int (nI (sumN (Cl σ) 8)) ∧ MInv σ ρ2 ∧ EqC ρ ρ2) : Option Value → Rho → Prop) = Q
  have w1 := hM.1.gales
  refine w_al dX8_sumOf_0 rfl ?_
  refine w_cVr dX8_sumOf_1 (vl_X8_115 _ rfl) sh47 (by decide) (c_X8_faultNow ρ σ hM) rfl rfl (Nat.le_of_ble_eq_true rfl) (fun vf1 ρf1 hf1 => ?_)
  obtain ⟨rfl, hMf1, hEf1, hLf1⟩ := hf1
  refine w_is (ls2 := [some (.ref 47), some (.int (nI 4)), some (.int (Flt σ)), none, none]) dX8_sumOf_4 rfl ?_
  refine w_k dX8_sumOf_5 ?_
  refine w_is (ls2 := [some (.ref 47), some (.int (nI 4)), some (.int (Flt σ)), some (.int (nI 0)), none]) dX8_sumOf_6 rfl ?_
  refine w_k dX8_sumOf_7 ?_
  refine w_is (ls2 := [some (.ref 47), some (.int (nI 4)), some (.int (Flt σ)), some (.int (nI 0)), some (.int (nI 0))]) dX8_sumOf_8 rfl ?_
  have L10 : ∀ (n10 : Nat) (k : Nat), (k ≤ σ.1 47 7) → (60 - k) < n10 → MW mX8_sumOf 4 10 [some (.ref 47), some (.int (nI 4)), none, some (.int (nI 0)), some (.int (nI k))] [] ρf1 Q := by
    intro n10
    induction n10 with
    | zero =>
      intro k hk hm10
      exact absurd hm10 (Nat.not_lt_zero _)
    | succ n10 ih10 =>
      intro k hk hm10
      have wn := numC_le σ k
      refine w_il dX8_sumOf_10 rfl ?_
      refine w_al dX8_sumOf_12 rfl ?_
      refine w_giV (v := (nI (σ.1 47 7))) dX8_sumOf_13 fl_X8_129 sh47 rfl (hMf1.2.2.2 7 (by decide)) ?_
      refine w_icgeN dX8_sumOf_16 (by omega) (by omega) (fun h16 => ?_) (fun h16 => ?_)
      · --t
        refine w_k dX8_sumOf_47 ?_
        refine w_is (ls2 := [some (.ref 47), some (.int (nI 4)), none, some (.int (nI 0)), some (.int (nI 0))]) dX8_sumOf_48 rfl ?_
        have L50 : ∀ (n50 : Nat) (k : Nat), (k ≤ 8) → (8 - k) < n50 → MW mX8_sumOf 4 50 [some (.ref 47), some (.int (nI 4)), none, some (.int (nI (sumN (Cl σ) k))), some (.int (nI k))] [] ρf1 Q := by
          intro n50
          induction n50 with
          | zero =>
            intro k hk hm50
            exact absurd hm50 (Nat.not_lt_zero _)
          | succ n50 ih50 =>
            intro k hk hm50
            have wl := hM.1.lives k
            have wo := own_le σ k
            have wq := clN_le σ k
            refine w_il dX8_sumOf_50 rfl ?_
            refine w_k dX8_sumOf_52 ?_
            refine w_icgeN dX8_sumOf_54 (by omega) (by omega) (fun h54 => ?_) (fun h54 => ?_)
            · --t
              refine w_il dX8_sumOf_104 rfl ?_
              refine w_k dX8_sumOf_105 ?_
              refine w_icneN dX8_sumOf_106 (by omega) (by omega) (fun h106 => ?_) (fun h106 => ?_)
              · --t
                refine w_il dX8_sumOf_116 rfl ?_
                refine w_iret dX8_sumOf_117 rfl ?_
                rw [← hQ]
                exact ⟨_, rfl, by rw [show k = 8 by omega], hMf1, (EqC.tr EqC.rf hEf1)⟩
              · --f
                exact absurd h106 (by decide)
            · --f
              refine w_il dX8_sumOf_57 rfl ?_
              refine w_il dX8_sumOf_58 rfl ?_
              refine w_k dX8_sumOf_59 ?_
              refine w_icneN dX8_sumOf_60 (by omega) (by omega) (fun h60 => ?_) (fun h60 => ?_)
              · --t
                exact absurd rfl h60
              · --f
                refine w_al dX8_sumOf_63 rfl ?_
                refine w_gr dX8_sumOf_64 fl_X8_16 sh47 rfl ?_
                refine w_il dX8_sumOf_67 rfl ?_
                refine w_ialdV (v := (nI (Cl σ k))) dX8_sumOf_69 sh50 (by omega) (hLf1.2.1 _ (by omega)) ?_
                refine w_goto dX8_sumOf_70 ?_
                refine w_iaddN dX8_sumOf_96 ?_
                refine w_is (ls2 := [some (.ref 47), some (.int (nI 4)), none, some (.int (nI (sumN (Cl σ) k + (Cl σ k)))), some (.int (nI k))]) dX8_sumOf_97 rfl ?_
                refine w_iincN (ls2 := [some (.ref 47), some (.int (nI 4)), none, some (.int (nI (sumN (Cl σ) k + (Cl σ k)))), some (.int (nI (k + 1)))]) dX8_sumOf_98 rfl rfl ?_
                refine w_goto dX8_sumOf_101 ?_
                exact ih50 (k + 1) (by omega) (by omega)
        exact L50 _ 0 (by omega) (Nat.lt_succ_self _)
      · --f
        refine w_il dX8_sumOf_19 rfl ?_
        refine w_k dX8_sumOf_20 ?_
        refine w_icneN dX8_sumOf_21 (by omega) (by omega) (fun h21 => ?_) (fun h21 => ?_)
        · --t
          refine w_k dX8_sumOf_47 ?_
          refine w_is (ls2 := [some (.ref 47), some (.int (nI 4)), none, some (.int (nI 0)), some (.int (nI 0))]) dX8_sumOf_48 rfl ?_
          have L50 : ∀ (n50 : Nat) (k : Nat), (k ≤ 8) → (8 - k) < n50 → MW mX8_sumOf 4 50 [some (.ref 47), some (.int (nI 4)), none, some (.int (nI (sumN (Cl σ) k))), some (.int (nI k))] [] ρf1 Q := by
            intro n50
            induction n50 with
            | zero =>
              intro k hk hm50
              exact absurd hm50 (Nat.not_lt_zero _)
            | succ n50 ih50 =>
              intro k hk hm50
              have wl := hM.1.lives k
              have wo := own_le σ k
              have wq := clN_le σ k
              refine w_il dX8_sumOf_50 rfl ?_
              refine w_k dX8_sumOf_52 ?_
              refine w_icgeN dX8_sumOf_54 (by omega) (by omega) (fun h54 => ?_) (fun h54 => ?_)
              · --t
                refine w_il dX8_sumOf_104 rfl ?_
                refine w_k dX8_sumOf_105 ?_
                refine w_icneN dX8_sumOf_106 (by omega) (by omega) (fun h106 => ?_) (fun h106 => ?_)
                · --t
                  refine w_il dX8_sumOf_116 rfl ?_
                  refine w_iret dX8_sumOf_117 rfl ?_
                  rw [← hQ]
                  exact ⟨_, rfl, by rw [show k = 8 by omega], hMf1, (EqC.tr EqC.rf hEf1)⟩
                · --f
                  exact absurd h106 (by decide)
              · --f
                refine w_il dX8_sumOf_57 rfl ?_
                refine w_il dX8_sumOf_58 rfl ?_
                refine w_k dX8_sumOf_59 ?_
                refine w_icneN dX8_sumOf_60 (by omega) (by omega) (fun h60 => ?_) (fun h60 => ?_)
                · --t
                  exact absurd rfl h60
                · --f
                  refine w_al dX8_sumOf_63 rfl ?_
                  refine w_gr dX8_sumOf_64 fl_X8_16 sh47 rfl ?_
                  refine w_il dX8_sumOf_67 rfl ?_
                  refine w_ialdV (v := (nI (Cl σ k))) dX8_sumOf_69 sh50 (by omega) (hLf1.2.1 _ (by omega)) ?_
                  refine w_goto dX8_sumOf_70 ?_
                  refine w_iaddN dX8_sumOf_96 ?_
                  refine w_is (ls2 := [some (.ref 47), some (.int (nI 4)), none, some (.int (nI (sumN (Cl σ) k + (Cl σ k)))), some (.int (nI k))]) dX8_sumOf_97 rfl ?_
                  refine w_iincN (ls2 := [some (.ref 47), some (.int (nI 4)), none, some (.int (nI (sumN (Cl σ) k + (Cl σ k)))), some (.int (nI (k + 1)))]) dX8_sumOf_98 rfl rfl ?_
                  refine w_goto dX8_sumOf_101 ?_
                  exact ih50 (k + 1) (by omega) (by omega)
          exact L50 _ 0 (by omega) (Nat.lt_succ_self _)
        · --f
          exact absurd h21 (by decide)
  refine w_weak (ls2 := [some (.ref 47), some (.int (nI 4)), none, some (.int (nI 0)), some (.int (nI 0))]) ⟨rfl, ⟨rfl, ⟨rfl, ⟨rfl, trivial⟩⟩⟩⟩ ?_
  exact L10 _ 0 (by omega) (Nat.lt_succ_self _)

set_option maxHeartbeats 4000000 in
theorem c_X8_sumOf7 (ρ : Rho) (σ : Sg) (hM : MInv σ ρ) : CallOK 4 mX8_sumOf [.ref 47, .int (nI 7)] ρ (fun r ρ2 => ∃ v, r = some v ∧ (v = .int (nI (ownN σ 8)) ∧ MInv σ ρ2 ∧ EqC ρ ρ2)) := by
  refine callOK_of 3 (by decide +kernel) rfl (fun _ => Nat.le_of_ble_eq_true rfl) (ls := [some (.ref 47), some (.int (nI 7)), none, none, none]) rfl ?_
  generalize hQ : (fun r ρ2 => ∃ v, r = some v ∧ (v = .int (nI (ownN σ 8)) ∧ MInv σ ρ2 ∧ EqC ρ ρ2) : Option Value → Rho → Prop) = Q
  have w1 := hM.1.gales
  refine w_al dX8_sumOf_0 rfl ?_
  refine w_cVr dX8_sumOf_1 (vl_X8_115 _ rfl) sh47 (by decide) (c_X8_faultNow ρ σ hM) rfl rfl (Nat.le_of_ble_eq_true rfl) (fun vf1 ρf1 hf1 => ?_)
  obtain ⟨rfl, hMf1, hEf1, hLf1⟩ := hf1
  refine w_is (ls2 := [some (.ref 47), some (.int (nI 7)), some (.int (Flt σ)), none, none]) dX8_sumOf_4 rfl ?_
  refine w_k dX8_sumOf_5 ?_
  refine w_is (ls2 := [some (.ref 47), some (.int (nI 7)), some (.int (Flt σ)), some (.int (nI 0)), none]) dX8_sumOf_6 rfl ?_
  refine w_k dX8_sumOf_7 ?_
  refine w_is (ls2 := [some (.ref 47), some (.int (nI 7)), some (.int (Flt σ)), some (.int (nI 0)), some (.int (nI 0))]) dX8_sumOf_8 rfl ?_
  have L10 : ∀ (n10 : Nat) (k : Nat), (k ≤ σ.1 47 7) → (60 - k) < n10 → MW mX8_sumOf 4 10 [some (.ref 47), some (.int (nI 7)), none, some (.int (nI 0)), some (.int (nI k))] [] ρf1 Q := by
    intro n10
    induction n10 with
    | zero =>
      intro k hk hm10
      exact absurd hm10 (Nat.not_lt_zero _)
    | succ n10 ih10 =>
      intro k hk hm10
      have wn := numC_le σ k
      refine w_il dX8_sumOf_10 rfl ?_
      refine w_al dX8_sumOf_12 rfl ?_
      refine w_giV (v := (nI (σ.1 47 7))) dX8_sumOf_13 fl_X8_129 sh47 rfl (hMf1.2.2.2 7 (by decide)) ?_
      refine w_icgeN dX8_sumOf_16 (by omega) (by omega) (fun h16 => ?_) (fun h16 => ?_)
      · --t
        refine w_k dX8_sumOf_47 ?_
        refine w_is (ls2 := [some (.ref 47), some (.int (nI 7)), none, some (.int (nI 0)), some (.int (nI 0))]) dX8_sumOf_48 rfl ?_
        have L50 : ∀ (n50 : Nat) (k : Nat), (k ≤ 8) → (8 - k) < n50 → MW mX8_sumOf 4 50 [some (.ref 47), some (.int (nI 7)), none, some (.int (nI (ownN σ k))), some (.int (nI k))] [] ρf1 Q := by
          intro n50
          induction n50 with
          | zero =>
            intro k hk hm50
            exact absurd hm50 (Nat.not_lt_zero _)
          | succ n50 ih50 =>
            intro k hk hm50
            have wl := hM.1.lives k
            have wo := own_le σ k
            have wq := clN_le σ k
            refine w_il dX8_sumOf_50 rfl ?_
            refine w_k dX8_sumOf_52 ?_
            refine w_icgeN dX8_sumOf_54 (by omega) (by omega) (fun h54 => ?_) (fun h54 => ?_)
            · --t
              refine w_il dX8_sumOf_104 rfl ?_
              refine w_k dX8_sumOf_105 ?_
              refine w_icneN dX8_sumOf_106 (by omega) (by omega) (fun h106 => ?_) (fun h106 => ?_)
              · --t
                refine w_il dX8_sumOf_116 rfl ?_
                refine w_iret dX8_sumOf_117 rfl ?_
                rw [← hQ]
                exact ⟨_, rfl, by rw [show k = 8 by omega], hMf1, (EqC.tr EqC.rf hEf1)⟩
              · --f
                exact absurd h106 (by decide)
            · --f
              refine w_il dX8_sumOf_57 rfl ?_
              refine w_il dX8_sumOf_58 rfl ?_
              refine w_k dX8_sumOf_59 ?_
              refine w_icneN dX8_sumOf_60 (by omega) (by omega) (fun h60 => ?_) (fun h60 => ?_)
              · --t
                refine w_il dX8_sumOf_73 rfl ?_
                refine w_k dX8_sumOf_74 ?_
                refine w_icneN dX8_sumOf_76 (by omega) (by omega) (fun h76 => ?_) (fun h76 => ?_)
                · --t
                  exact absurd rfl h76
                · --f
                  refine w_al dX8_sumOf_79 rfl ?_
                  refine w_gr dX8_sumOf_80 fl_X8_56 sh47 rfl ?_
                  refine w_il dX8_sumOf_83 rfl ?_
                  refine w_ialdV (v := (nI (σ.1 63 k))) dX8_sumOf_85 sh63 (by omega) (hMf1.2.1 63 (by decide) _) ?_
                  refine w_il dX8_sumOf_86 rfl ?_
                  refine w_icneN dX8_sumOf_88 (by omega) (by omega) (fun h88 => ?_) (fun h88 => ?_)
                  · --t
                    refine w_k dX8_sumOf_95 ?_
                    refine w_iaddN dX8_sumOf_96 ?_
                    refine w_is (ls2 := [some (.ref 47), some (.int (nI 7)), none, some (.int (nI (ownN σ k))), some (.int (nI k))]) dX8_sumOf_97 rfl ?_
                    refine w_iincN (ls2 := [some (.ref 47), some (.int (nI 7)), none, some (.int (nI (ownN σ k))), some (.int (nI (k + 1)))]) dX8_sumOf_98 rfl rfl ?_
                    refine w_goto dX8_sumOf_101 ?_
                    rw [← own_n h88]
                    exact ih50 (k + 1) (by omega) (by omega)
                  · --f
                    refine w_k dX8_sumOf_91 ?_
                    refine w_goto dX8_sumOf_92 ?_
                    refine w_iaddN dX8_sumOf_96 ?_
                    refine w_is (ls2 := [some (.ref 47), some (.int (nI 7)), none, some (.int (nI (ownN σ k + 1))), some (.int (nI k))]) dX8_sumOf_97 rfl ?_
                    refine w_iincN (ls2 := [some (.ref 47), some (.int (nI 7)), none, some (.int (nI (ownN σ k + 1))), some (.int (nI (k + 1)))]) dX8_sumOf_98 rfl rfl ?_
                    refine w_goto dX8_sumOf_101 ?_
                    rw [← own_y h88]
                    exact ih50 (k + 1) (by omega) (by omega)
              · --f
                exact absurd h60 (by decide)
        exact L50 _ 0 (by omega) (Nat.lt_succ_self _)
      · --f
        refine w_il dX8_sumOf_19 rfl ?_
        refine w_k dX8_sumOf_20 ?_
        refine w_icneN dX8_sumOf_21 (by omega) (by omega) (fun h21 => ?_) (fun h21 => ?_)
        · --t
          refine w_k dX8_sumOf_47 ?_
          refine w_is (ls2 := [some (.ref 47), some (.int (nI 7)), none, some (.int (nI 0)), some (.int (nI 0))]) dX8_sumOf_48 rfl ?_
          have L50 : ∀ (n50 : Nat) (k : Nat), (k ≤ 8) → (8 - k) < n50 → MW mX8_sumOf 4 50 [some (.ref 47), some (.int (nI 7)), none, some (.int (nI (ownN σ k))), some (.int (nI k))] [] ρf1 Q := by
            intro n50
            induction n50 with
            | zero =>
              intro k hk hm50
              exact absurd hm50 (Nat.not_lt_zero _)
            | succ n50 ih50 =>
              intro k hk hm50
              have wl := hM.1.lives k
              have wo := own_le σ k
              have wq := clN_le σ k
              refine w_il dX8_sumOf_50 rfl ?_
              refine w_k dX8_sumOf_52 ?_
              refine w_icgeN dX8_sumOf_54 (by omega) (by omega) (fun h54 => ?_) (fun h54 => ?_)
              · --t
                refine w_il dX8_sumOf_104 rfl ?_
                refine w_k dX8_sumOf_105 ?_
                refine w_icneN dX8_sumOf_106 (by omega) (by omega) (fun h106 => ?_) (fun h106 => ?_)
                · --t
                  refine w_il dX8_sumOf_116 rfl ?_
                  refine w_iret dX8_sumOf_117 rfl ?_
                  rw [← hQ]
                  exact ⟨_, rfl, by rw [show k = 8 by omega], hMf1, (EqC.tr EqC.rf hEf1)⟩
                · --f
                  exact absurd h106 (by decide)
              · --f
                refine w_il dX8_sumOf_57 rfl ?_
                refine w_il dX8_sumOf_58 rfl ?_
                refine w_k dX8_sumOf_59 ?_
                refine w_icneN dX8_sumOf_60 (by omega) (by omega) (fun h60 => ?_) (fun h60 => ?_)
                · --t
                  refine w_il dX8_sumOf_73 rfl ?_
                  refine w_k dX8_sumOf_74 ?_
                  refine w_icneN dX8_sumOf_76 (by omega) (by omega) (fun h76 => ?_) (fun h76 => ?_)
                  · --t
                    exact absurd rfl h76
                  · --f
                    refine w_al dX8_sumOf_79 rfl ?_
                    refine w_gr dX8_sumOf_80 fl_X8_56 sh47 rfl ?_
                    refine w_il dX8_sumOf_83 rfl ?_
                    refine w_ialdV (v := (nI (σ.1 63 k))) dX8_sumOf_85 sh63 (by omega) (hMf1.2.1 63 (by decide) _) ?_
                    refine w_il dX8_sumOf_86 rfl ?_
                    refine w_icneN dX8_sumOf_88 (by omega) (by omega) (fun h88 => ?_) (fun h88 => ?_)
                    · --t
                      refine w_k dX8_sumOf_95 ?_
                      refine w_iaddN dX8_sumOf_96 ?_
                      refine w_is (ls2 := [some (.ref 47), some (.int (nI 7)), none, some (.int (nI (ownN σ k))), some (.int (nI k))]) dX8_sumOf_97 rfl ?_
                      refine w_iincN (ls2 := [some (.ref 47), some (.int (nI 7)), none, some (.int (nI (ownN σ k))), some (.int (nI (k + 1)))]) dX8_sumOf_98 rfl rfl ?_
                      refine w_goto dX8_sumOf_101 ?_
                      rw [← own_n h88]
                      exact ih50 (k + 1) (by omega) (by omega)
                    · --f
                      refine w_k dX8_sumOf_91 ?_
                      refine w_goto dX8_sumOf_92 ?_
                      refine w_iaddN dX8_sumOf_96 ?_
                      refine w_is (ls2 := [some (.ref 47), some (.int (nI 7)), none, some (.int (nI (ownN σ k + 1))), some (.int (nI k))]) dX8_sumOf_97 rfl ?_
                      refine w_iincN (ls2 := [some (.ref 47), some (.int (nI 7)), none, some (.int (nI (ownN σ k + 1))), some (.int (nI (k + 1)))]) dX8_sumOf_98 rfl rfl ?_
                      refine w_goto dX8_sumOf_101 ?_
                      rw [← own_y h88]
                      exact ih50 (k + 1) (by omega) (by omega)
                · --f
                  exact absurd h60 (by decide)
          exact L50 _ 0 (by omega) (Nat.lt_succ_self _)
        · --f
          exact absurd h21 (by decide)
  refine w_weak (ls2 := [some (.ref 47), some (.int (nI 7)), none, some (.int (nI 0)), some (.int (nI 0))]) ⟨rfl, ⟨rfl, ⟨rfl, ⟨rfl, trivial⟩⟩⟩⟩ ?_
  exact L10 _ 0 (by omega) (Nat.lt_succ_self _)

set_option maxHeartbeats 4000000 in
theorem c_X8_count (ρ : Rho) (σ : Sg) (p : Int32) (hM : MInv σ ρ) : CallOK 5 mX8_count [.ref 47, .int p] ρ (fun r ρ2 => ∃ v, r = some v ∧ (v = .int (r_count σ p) ∧ MInv (σ) ρ2 ∧ EqC ρ ρ2)) := by
  refine callOK_of 0 (by decide +kernel) rfl (fun _ => Nat.le_of_ble_eq_true rfl) (ls := [some (.ref 47), some (.int p)]) rfl ?_
  generalize hQ : (fun r ρ2 => ∃ v, r = some v ∧ (v = .int (r_count σ p) ∧ MInv (σ) ρ2 ∧ EqC ρ ρ2) : Option Value → Rho → Prop) = Q
  refine w_il dX8_count_0 rfl ?_
  by_cases hr : inR p (nI 0) (nI 8)
  · --
    obtain ⟨k, hk, rfl⟩ := inR_nI hr (by decide)
    rcases (show k = 0 ∨ k = 1 ∨ k = 2 ∨ k = 3 ∨ k = 4 ∨ k = 5 ∨ k = 6 ∨ k = 7 ∨ k = 8 by omega) with rfl | rfl | rfl | rfl | rfl | rfl | rfl | rfl | rfl
    · --0
      refine w_tin (off := 51) (tgt := 52) dX8_count_1 (by decide) (by decide) (by decide) (by decide) ?_
      refine w_al dX8_count_52 rfl ?_
      refine w_giV (v := (nI (σ.1 47 7))) dX8_count_53 fl_X8_129 sh47 rfl (hM.2.2.2 7 (by decide)) ?_
      refine w_iret dX8_count_56 rfl ?_
      rw [← hQ]
      exact ⟨_, rfl, by rw [r_count, if_pos hr, nv_nI (by decide)]; first | done | rfl, hM, EqC.rf⟩
    · --1
      refine w_tin (off := 56) (tgt := 57) dX8_count_1 (by decide) (by decide) (by decide) (by decide) ?_
      refine w_al dX8_count_57 rfl ?_
      refine w_il dX8_count_58 rfl ?_
      refine w_cVr dX8_count_59 (vl_X8_245 _ rfl) sh47 (by decide) (c_X8_sumOf1 ρ σ hM) rfl rfl (Nat.le_of_ble_eq_true rfl) (fun vs ρs hs9 => ?_)
      obtain ⟨rfl, hMs, hEs⟩ := hs9
      refine w_iret dX8_count_62 rfl ?_
      rw [← hQ]
      exact ⟨_, rfl, by rw [r_count, if_pos hr, nv_nI (by decide)]; first | done | rfl, hMs, (EqC.tr EqC.rf hEs)⟩
    · --2
      refine w_tin (off := 62) (tgt := 63) dX8_count_1 (by decide) (by decide) (by decide) (by decide) ?_
      refine w_al dX8_count_63 rfl ?_
      refine w_giV (v := (nI (σ.1 47 0))) dX8_count_64 fl_X8_93 sh47 rfl (hM.2.2.2 0 (by decide)) ?_
      refine w_iret dX8_count_67 rfl ?_
      rw [← hQ]
      exact ⟨_, rfl, by rw [r_count, if_pos hr, nv_nI (by decide)]; first | done | rfl, hM, EqC.rf⟩
    · --3
      refine w_tin (off := 56) (tgt := 57) dX8_count_1 (by decide) (by decide) (by decide) (by decide) ?_
      refine w_al dX8_count_57 rfl ?_
      refine w_il dX8_count_58 rfl ?_
      refine w_cVr dX8_count_59 (vl_X8_245 _ rfl) sh47 (by decide) (c_X8_sumOf3 ρ σ hM) rfl rfl (Nat.le_of_ble_eq_true rfl) (fun vs ρs hs9 => ?_)
      obtain ⟨rfl, hMs, hEs⟩ := hs9
      refine w_iret dX8_count_62 rfl ?_
      rw [← hQ]
      exact ⟨_, rfl, by rw [r_count, if_pos hr, nv_nI (by decide)]; first | done | rfl, hMs, (EqC.tr EqC.rf hEs)⟩
    · --4
      refine w_tin (off := 56) (tgt := 57) dX8_count_1 (by decide) (by decide) (by decide) (by decide) ?_
      refine w_al dX8_count_57 rfl ?_
      refine w_il dX8_count_58 rfl ?_
      refine w_cVr dX8_count_59 (vl_X8_245 _ rfl) sh47 (by decide) (c_X8_sumOf4 ρ σ hM) rfl rfl (Nat.le_of_ble_eq_true rfl) (fun vs ρs hs9 => ?_)
      obtain ⟨rfl, hMs, hEs⟩ := hs9
      refine w_iret dX8_count_62 rfl ?_
      rw [← hQ]
      exact ⟨_, rfl, by rw [r_count, if_pos hr, nv_nI (by decide)]; first | done | rfl, hMs, (EqC.tr EqC.rf hEs)⟩
    · --5
      refine w_tin (off := 67) (tgt := 68) dX8_count_1 (by decide) (by decide) (by decide) (by decide) ?_
      refine w_al dX8_count_68 rfl ?_
      refine w_gr dX8_count_69 fl_X8_37 sh47 rfl ?_
      refine w_il dX8_count_72 rfl ?_
      refine w_k dX8_count_73 ?_
      refine w_isubN dX8_count_74 (by omega) ?_
      refine w_ialdV (v := (nI (σ.1 57 (5 - 5)))) dX8_count_75 sh57 (by omega) (hM.2.1 57 (by decide) _) ?_
      refine w_iret dX8_count_76 rfl ?_
      rw [← hQ]
      exact ⟨_, rfl, by rw [r_count, if_pos hr, nv_nI (by decide)]; first | done | rfl, hM, EqC.rf⟩
    · --6
      refine w_tin (off := 67) (tgt := 68) dX8_count_1 (by decide) (by decide) (by decide) (by decide) ?_
      refine w_al dX8_count_68 rfl ?_
      refine w_gr dX8_count_69 fl_X8_37 sh47 rfl ?_
      refine w_il dX8_count_72 rfl ?_
      refine w_k dX8_count_73 ?_
      refine w_isubN dX8_count_74 (by omega) ?_
      refine w_ialdV (v := (nI (σ.1 57 (6 - 5)))) dX8_count_75 sh57 (by omega) (hM.2.1 57 (by decide) _) ?_
      refine w_iret dX8_count_76 rfl ?_
      rw [← hQ]
      exact ⟨_, rfl, by rw [r_count, if_pos hr, nv_nI (by decide)]; first | done | rfl, hM, EqC.rf⟩
    · --7
      refine w_tin (off := 56) (tgt := 57) dX8_count_1 (by decide) (by decide) (by decide) (by decide) ?_
      refine w_al dX8_count_57 rfl ?_
      refine w_il dX8_count_58 rfl ?_
      refine w_cVr dX8_count_59 (vl_X8_245 _ rfl) sh47 (by decide) (c_X8_sumOf7 ρ σ hM) rfl rfl (Nat.le_of_ble_eq_true rfl) (fun vs ρs hs9 => ?_)
      obtain ⟨rfl, hMs, hEs⟩ := hs9
      refine w_iret dX8_count_62 rfl ?_
      rw [← hQ]
      exact ⟨_, rfl, by rw [r_count, if_pos hr, nv_nI (by decide)]; first | done | rfl, hMs, (EqC.tr EqC.rf hEs)⟩
    · --8
      refine w_tin (off := 76) (tgt := 77) dX8_count_1 (by decide) (by decide) (by decide) (by decide) ?_
      refine w_al dX8_count_77 rfl ?_
      refine w_giV (v := (nI (σ.1 47 29))) dX8_count_78 fl_X8_234 sh47 rfl (hM.2.2.2 29 (by decide)) ?_
      refine w_iret dX8_count_81 rfl ?_
      rw [← hQ]
      exact ⟨_, rfl, by rw [r_count, if_pos hr, nv_nI (by decide)]; first | done | rfl, hM, EqC.rf⟩
  · --
    refine w_tout (tgt := 82) dX8_count_1 (out8 hr) (by decide) ?_
    refine w_k dX8_count_82 ?_
    refine w_iret dX8_count_84 rfl ?_
    rw [← hQ]
    exact ⟨_, rfl, by rw [r_count, if_neg hr], hM, EqC.rf⟩
