theorem cpyB {ρ : Rho} {q0 q1 s : Nat} (h : s < 16) : (cpyI ρ q0 q1 0 0 16).1 q1 s = ρ.1 q0 s := by
  show (if q1 = q1 then va_cpy (ρ.1 q0) (ρ.1 q1) 0 0 16 s else ρ.1 q1 s) = _
  rw [if_pos rfl, pk_cpy_in (by omega) (by omega), show 0 + (s - 0) = s by omega]
set_option maxHeartbeats 4000000 in
theorem c_X6_join_20 (ρ : Rho) (f G : Nat → Nat) (a b : Nat) (ha : a < 16) (hb : b < 16) (hab : a ≠ b) (hS : ∀ s, s < 16 → ρ.1 21 s = nI (G s)) (hB : ∀ s, s < 16 → ρ.1 22 s = nI (f s)) (hf : ∀ s, s < 16 → f s ≤ 1000) (hG : ∀ s, s < 16 → G s ≤ 1000) : CallOK 1 mX6_join [.ref 20, .int (nI a), .int (nI b)] ρ (fun r ρ2 => r = none ∧ (Fr [21] ρ ρ2 ∧ ∀ s, s < 16 → ρ2.1 21 s = nI (jnG f G a b s))) := by
  refine callOK_of 0 (by decide +kernel) rfl (fun _ => Nat.le_of_ble_eq_true rfl) (ls := [some (.ref 20), some (.int (nI a)), some (.int (nI b))]) rfl ?_
  generalize hQ : (fun r ρ2 => r = none ∧ (Fr [21] ρ ρ2 ∧ ∀ s, s < 16 → ρ2.1 21 s = nI (jnG f G a b s)) : Option Value → Rho → Prop) = Q
  have w1 := hf a ha
  have w2 := hf b hb
  have w3 := hG a ha
  have w4 := hG b hb
  refine w_al dX6_join_0 rfl ?_
  refine w_gr dX6_join_1 fl_X6_11 sh20 rfl ?_
  refine w_il dX6_join_4 rfl ?_
  refine w_al dX6_join_5 rfl ?_
  refine w_gr dX6_join_6 fl_X6_11 sh20 rfl ?_
  refine w_il dX6_join_9 rfl ?_
  refine w_ialdV (v := (nI (G a))) dX6_join_10 sh21 (by omega) (hS _ (by omega)) ?_
  refine w_al dX6_join_11 rfl ?_
  refine w_gr dX6_join_12 fl_X6_15 sh20 rfl ?_
  refine w_il dX6_join_15 rfl ?_
  refine w_ialdV (v := (nI (f b))) dX6_join_16 sh22 (by omega) (hB _ (by omega)) ?_
  refine w_k dX6_join_17 ?_
  refine w_iaddN dX6_join_18 ?_
  refine w_mminN dX6_join_19 (sl_X6_53 _ rfl) (by decide) (Nat.le_of_ble_eq_true rfl) (by omega) (by omega) ?_
  refine w_iastN dX6_join_22 sh21 (by omega) ?_
  refine w_al dX6_join_23 rfl ?_
  refine w_gr dX6_join_24 fl_X6_11 sh20 rfl ?_
  refine w_il dX6_join_27 rfl ?_
  refine w_al dX6_join_28 rfl ?_
  refine w_gr dX6_join_29 fl_X6_11 sh20 rfl ?_
  refine w_il dX6_join_32 rfl ?_
  refine w_ialdV (v := (nI (G b))) dX6_join_33 sh21 (by omega) ((rI_ne (by omega)).trans (hS _ (by omega))) ?_
  refine w_al dX6_join_34 rfl ?_
  refine w_gr dX6_join_35 fl_X6_15 sh20 rfl ?_
  refine w_il dX6_join_38 rfl ?_
  refine w_ialdV (v := (nI (f a))) dX6_join_39 sh22 (by omega) (rI_c (by decide) (hB _ (by omega))) ?_
  refine w_k dX6_join_40 ?_
  refine w_iaddN dX6_join_41 ?_
  refine w_mminN dX6_join_42 (sl_X6_53 _ rfl) (by decide) (Nat.le_of_ble_eq_true rfl) (by omega) (by omega) ?_
  refine w_iastN dX6_join_45 sh21 (by omega) ?_
  refine w_ret dX6_join_46 rfl ?_
  rw [← hQ]
  exact ⟨rfl, (Fr.only (Fr.only Fr.rf only_wI (by decide)) only_wI (by decide)), upd1 (f := fun s => nI (va_up G a (min (G a) (f b + 1)) s)) (g := fun s => nI (jnG f G a b s)) (upd1 (f := fun s => nI (G s)) (g := fun s => nI (va_up G a (min (G a) (f b + 1)) s)) hS (by rw [va_up_eq]) (fun q hq => by rw [vup_ne hq])) (by rw [jnG, va_up_eq]) (fun q hq => by rw [jnG, vup_ne hq])⟩

set_option maxHeartbeats 4000000 in
theorem c_X6_oneDay_20 (ρ : Rho) (σ : Sg) (f : Nat → Nat) (t : Nat) (hL : CLd σ ρ) (ht : t < 8) (hS : ∀ s, s < 16 → ρ.1 21 s = nI (f s)) (hf : ∀ s, s < 16 → f s ≤ 1000) : CallOK 2 mX6_oneDay [.ref 20, .ref 1, .int (nI t)] ρ (fun r ρ2 => r = none ∧ (Fr [21, 22] ρ ρ2 ∧ ∀ s, s < 16 → ρ2.1 21 s = nI (mnE σ t f s 16))) := by
  refine callOK_of 2 (by decide +kernel) rfl (fun _ => Nat.le_of_ble_eq_true rfl) (ls := [some (.ref 20), some (.ref 1), some (.int (nI t)), none, none]) rfl ?_
  generalize hQ : (fun r ρ2 => r = none ∧ (Fr [21, 22] ρ ρ2 ∧ ∀ s, s < 16 → ρ2.1 21 s = nI (mnE σ t f s 16)) : Option Value → Rho → Prop) = Q
  refine w_al dX6_oneDay_0 rfl ?_
  refine w_gr dX6_oneDay_1 fl_X6_11 sh20 rfl ?_
  refine w_k dX6_oneDay_4 ?_
  refine w_al dX6_oneDay_5 rfl ?_
  refine w_gr dX6_oneDay_6 fl_X6_15 sh20 rfl ?_
  refine w_k dX6_oneDay_9 ?_
  refine w_k dX6_oneDay_10 ?_
  refine w_acpy (n := 16) (sp := 0) (dp := 0) dX6_oneDay_12 bt232 sh21 sh22 (by omega) (by omega) (by decide) (Nat.le_of_ble_eq_true rfl) ?_
  refine w_k dX6_oneDay_15 ?_
  refine w_is (ls2 := [some (.ref 20), some (.ref 1), some (.int (nI t)), some (.int (nI 0)), none]) dX6_oneDay_16 rfl ?_
  have L17 : ∀ (n17 : Nat) (m : Nat) (ρ1 : Rho) (G1 : Nat → Nat), (m ≤ 8) → (Fr [21, 22] ρ ρ1) → (∀ s, s < 16 → ρ1.1 22 s = nI (f s)) → (∀ s, s < 16 → ρ1.1 21 s = nI (G1 s)) → (Lm f (eS σ t m 0) G1) → (8 - m) < n17 → MW mX6_oneDay 2 17 [some (.ref 20), some (.ref 1), some (.int (nI t)), some (.int (nI m)), none] [] ρ1 Q := by
    intro n17
    induction n17 with
    | zero =>
      intro m ρ1 G1 hm hT1 hB1 hS1 hL1 hm17
      exact absurd hm17 (Nat.not_lt_zero _)
    | succ n17 ih17 =>
      intro m ρ1 G1 hm hT1 hB1 hS1 hL1 hm17
      have wc := Cl_le σ m
      refine w_il dX6_oneDay_17 rfl ?_
      refine w_k dX6_oneDay_18 ?_
      refine w_icgeN dX6_oneDay_20 (by omega) (by omega) (fun h20 => ?_) (fun h20 => ?_)
      · --t
        refine w_k dX6_oneDay_80 ?_
        refine w_is (ls2 := [some (.ref 20), some (.ref 1), some (.int (nI t)), some (.int (nI 0)), none]) dX6_oneDay_81 rfl ?_
        have L82 : ∀ (n82 : Nat) (k : Nat) (ρ2 : Rho) (G2 : Nat → Nat), (k ≤ NB σ) → (Fr [21, 22] ρ ρ2) → (∀ s, s < 16 → ρ2.1 22 s = nI (f s)) → (∀ s, s < 16 → ρ2.1 21 s = nI (G2 s)) → (Lm f (eS σ t 8 k) G2) → (NB σ - k) < n82 → MW mX6_oneDay 2 82 [some (.ref 20), some (.ref 1), some (.int (nI t)), some (.int (nI k)), none] [] ρ2 Q := by
          intro n82
          induction n82 with
          | zero =>
            intro k ρ2 G2 hk hT2 hB2 hS2 hL2 hm82
            exact absurd hm82 (Nat.not_lt_zero _)
          | succ n82 ih82 =>
            intro k ρ2 G2 hk hT2 hB2 hS2 hL2 hm82
            have wn := (NB_ok σ).1
            refine w_il dX6_oneDay_82 rfl ?_
            refine w_al dX6_oneDay_83 rfl ?_
            refine w_giV (v := (nI (NB σ))) dX6_oneDay_84 fl_X6_39 sh1 rfl ((CLd.fr hL hT2 (by decide)).2.2.1) ?_
            refine w_icgeN dX6_oneDay_87 (by omega) (by omega) (fun h87 => ?_) (fun h87 => ?_)
            · --t
              refine w_ret dX6_oneDay_132 rfl ?_
              rw [← hQ]
              obtain rfl : k = NB σ := by omega
              exact ⟨rfl, hT2, fun s hs => by rw [hS2 s hs, Lm_mnE hL2 (eS_st σ t) s hs]⟩
            · --f
              refine w_il dX6_oneDay_90 rfl ?_
              refine w_k dX6_oneDay_91 ?_
              refine w_icgeN dX6_oneDay_92 (by omega) (by omega) (fun h92 => ?_) (fun h92 => ?_)
              · --t
                exfalso; omega
              · --f
                refine w_al dX6_oneDay_95 rfl ?_
                refine w_il dX6_oneDay_96 rfl ?_
                refine w_il dX6_oneDay_97 rfl ?_
                refine w_cVf dX6_oneDay_98 (vl_X6_43 _ rfl) sh1 (by decide) (c_X3_meetsAt ρ2 σ k t (CLd.fr hL hT2 (by decide)) (by omega) (by omega)) rfl rfl (Nat.le_of_ble_eq_true rfl) ?_
                refine w_ifeqB dX6_oneDay_101 (fun h101 => ?_) (fun h101 => ?_)
                · --t
                  refine w_iincN (ls2 := [some (.ref 20), some (.ref 1), some (.int (nI t)), some (.int (nI (k + 1))), none]) dX6_oneDay_126 rfl rfl ?_
                  refine w_goto dX6_oneDay_129 ?_
                  exact ih82 (k + 1) ρ2 G2 (by omega) (hT2) (hB2) (hS2) (Lm_iff hL2 (fun v s => eS_k0 h101)) (by omega)
                · --f
                  have wb := (NB_ok σ).2 k (by omega)
                  have wa := wb.1
                  have wc := wb.2.1
                  have wd := wb.2.2.2.2.1
                  have we := wb.2.2.2.1
                  have wf := wb.2.2.2.2.2
                  have wg := wb.2.2.1
                  refine w_al dX6_oneDay_104 rfl ?_
                  refine w_k dX6_oneDay_105 ?_
                  refine w_al dX6_oneDay_107 rfl ?_
                  refine w_gr dX6_oneDay_108 fl_X6_47 sh1 rfl ?_
                  refine w_il dX6_oneDay_111 rfl ?_
                  refine w_ialdV (v := (nI (Br σ (4 * k)))) dX6_oneDay_112 sh6 (by omega) (((CLd.fr hL hT2 (by decide)).2.2.2.1 _ (by omega)).1) ?_
                  refine w_iaddN dX6_oneDay_113 ?_
                  refine w_k dX6_oneDay_114 ?_
                  refine w_al dX6_oneDay_116 rfl ?_
                  refine w_gr dX6_oneDay_117 fl_X6_50 sh1 rfl ?_
                  refine w_il dX6_oneDay_120 rfl ?_
                  refine w_ialdV (v := (nI (Br σ (4 * k + 1)))) dX6_oneDay_121 sh7 (by omega) (((CLd.fr hL hT2 (by decide)).2.2.2.1 _ (by omega)).2.1) ?_
                  refine w_iaddN dX6_oneDay_122 ?_
                  refine w_cVu dX6_oneDay_123 (vl_X6_30 _ rfl) sh20 (by decide) (c_X6_join_20 ρ2 f G2 (8 + (Br σ (4 * k))) (8 + (Br σ (4 * k + 1))) (by omega) (by omega) (by omega) hS2 hB2 hf (fun s hs => Nat.le_trans (hL2 s hs).1 (hf s hs))) rfl rfl (Nat.le_of_ble_eq_true rfl) (fun ρj1 hj1 => ?_)
                  obtain ⟨hFj1, hSj1⟩ := hj1
                  have hBj1 : ∀ s, s < 16 → ρj1.1 22 s = nI (f s) := fun s hs => by rw [(hFj1 22 (by decide)).1]; exact hB2 s hs
                  have hLj1 := Lm_jn hL2 (a := (8 + (Br σ (4 * k)))) (b := (8 + (Br σ (4 * k + 1)))) (by omega) (by omega) (by omega)
                  have hTj1 := Fr.tr hT2 (Fr.sub hFj1 (S2 := [21, 22]) (by decide))
                  refine w_iincN (ls2 := [some (.ref 20), some (.ref 1), some (.int (nI t)), some (.int (nI (k + 1))), none]) dX6_oneDay_126 rfl rfl ?_
                  refine w_goto dX6_oneDay_129 ?_
                  exact ih82 (k + 1) ρj1 (jnG f G2 (8 + (Br σ (4 * k))) (8 + (Br σ (4 * k + 1)))) (by omega) (hTj1) (hBj1) (hSj1) (Lm_iff hLj1 (fun v s => eS_k1 h101)) (by omega)
        exact L82 _ 0 ρ1 G1 (by omega) (hT1) (hB1) (hS1) (by rw [show m = 8 by omega] at hL1; exact hL1) (Nat.lt_succ_self _)
      · --f
        refine w_il dX6_oneDay_23 rfl ?_
        refine w_k dX6_oneDay_24 ?_
        refine w_iaddN dX6_oneDay_25 ?_
        refine w_k dX6_oneDay_26 ?_
        refine w_iand7 dX6_oneDay_28 (by omega) ?_
        refine w_is (ls2 := [some (.ref 20), some (.ref 1), some (.int (nI t)), some (.int (nI m)), some (.int (nI ((m + 1) % 8)))]) dX6_oneDay_29 rfl ?_
        refine w_al dX6_oneDay_31 rfl ?_
        refine w_il dX6_oneDay_32 rfl ?_
        refine w_il dX6_oneDay_33 rfl ?_
        refine w_cVu dX6_oneDay_35 (vl_X6_30 _ rfl) sh20 (by decide) (c_X6_join_20 ρ1 f G1 m ((m + 1) % 8) (by omega) (by omega) (by omega) hS1 hB1 hf (fun s hs => Nat.le_trans (hL1 s hs).1 (hf s hs))) rfl rfl (Nat.le_of_ble_eq_true rfl) (fun ρj2 hj2 => ?_)
        obtain ⟨hFj2, hSj2⟩ := hj2
        have hBj2 : ∀ s, s < 16 → ρj2.1 22 s = nI (f s) := fun s hs => by rw [(hFj2 22 (by decide)).1]; exact hB1 s hs
        have hLj2 := Lm_jn hL1 (a := m) (b := ((m + 1) % 8)) (by omega) (by omega) (by omega)
        have hTj2 := Fr.tr hT1 (Fr.sub hFj2 (S2 := [21, 22]) (by decide))
        refine w_al dX6_oneDay_38 rfl ?_
        refine w_il dX6_oneDay_39 rfl ?_
        refine w_k dX6_oneDay_40 ?_
        refine w_il dX6_oneDay_42 rfl ?_
        refine w_il dX6_oneDay_43 rfl ?_
        refine w_iaddN dX6_oneDay_44 ?_
        refine w_k dX6_oneDay_45 ?_
        refine w_iand7 dX6_oneDay_47 (by omega) ?_
        refine w_iaddN dX6_oneDay_48 ?_
        refine w_cVu dX6_oneDay_49 (vl_X6_30 _ rfl) sh20 (by decide) (c_X6_join_20 ρj2 f (jnG f G1 m ((m + 1) % 8)) m (8 + ((m + t) % 8)) (by omega) (by omega) (by omega) hSj2 hBj2 hf (fun s hs => Nat.le_trans (hLj2 s hs).1 (hf s hs))) rfl rfl (Nat.le_of_ble_eq_true rfl) (fun ρj3 hj3 => ?_)
        obtain ⟨hFj3, hSj3⟩ := hj3
        have hBj3 : ∀ s, s < 16 → ρj3.1 22 s = nI (f s) := fun s hs => by rw [(hFj3 22 (by decide)).1]; exact hBj2 s hs
        have hLj3 := Lm_jn hLj2 (a := m) (b := (8 + ((m + t) % 8))) (by omega) (by omega) (by omega)
        have hTj3 := Fr.tr hTj2 (Fr.sub hFj3 (S2 := [21, 22]) (by decide))
        refine w_al dX6_oneDay_52 rfl ?_
        refine w_gr dX6_oneDay_53 fl_X6_34 sh1 rfl ?_
        refine w_il dX6_oneDay_56 rfl ?_
        refine w_ialdV (v := (nI (Cl σ m))) dX6_oneDay_57 sh4 (by omega) ((CLd.fr hL hTj3 (by decide)).2.1 _ (by omega)) ?_
        refine w_ifneN dX6_oneDay_58 (by omega) (fun h58 => ?_) (fun h58 => ?_)
        · --t
          refine w_iincN (ls2 := [some (.ref 20), some (.ref 1), some (.int (nI t)), some (.int (nI (m + 1))), some (.int (nI ((m + 1) % 8)))]) dX6_oneDay_74 rfl rfl ?_
          refine w_goto dX6_oneDay_77 ?_
          refine w_weak (ls2 := [some (.ref 20), some (.ref 1), some (.int (nI t)), some (.int (nI (m + 1))), none]) ⟨rfl, ⟨rfl, ⟨rfl, ⟨rfl, trivial⟩⟩⟩⟩ ?_
          exact ih17 (m + 1) ρj3 (jnG f (jnG f G1 m ((m + 1) % 8)) m (8 + ((m + t) % 8))) (by omega) (hTj3) (hBj3) (hSj3) (Lm_iff hLj3 (fun v s => eS_h0 h58)) (by omega)
        · --f
          refine w_al dX6_oneDay_61 rfl ?_
          refine w_k dX6_oneDay_62 ?_
          refine w_il dX6_oneDay_64 rfl ?_
          refine w_iaddN dX6_oneDay_65 ?_
          refine w_k dX6_oneDay_66 ?_
          refine w_il dX6_oneDay_68 rfl ?_
          refine w_iaddN dX6_oneDay_70 ?_
          refine w_cVu dX6_oneDay_71 (vl_X6_30 _ rfl) sh20 (by decide) (c_X6_join_20 ρj3 f (jnG f (jnG f G1 m ((m + 1) % 8)) m (8 + ((m + t) % 8))) (8 + m) (8 + ((m + 1) % 8)) (by omega) (by omega) (by omega) hSj3 hBj3 hf (fun s hs => Nat.le_trans (hLj3 s hs).1 (hf s hs))) rfl rfl (Nat.le_of_ble_eq_true rfl) (fun ρj4 hj4 => ?_)
          obtain ⟨hFj4, hSj4⟩ := hj4
          have hBj4 : ∀ s, s < 16 → ρj4.1 22 s = nI (f s) := fun s hs => by rw [(hFj4 22 (by decide)).1]; exact hBj3 s hs
          have hLj4 := Lm_jn hLj3 (a := (8 + m)) (b := (8 + ((m + 1) % 8))) (by omega) (by omega) (by omega)
          have hTj4 := Fr.tr hTj3 (Fr.sub hFj4 (S2 := [21, 22]) (by decide))
          refine w_iincN (ls2 := [some (.ref 20), some (.ref 1), some (.int (nI t)), some (.int (nI (m + 1))), some (.int (nI ((m + 1) % 8)))]) dX6_oneDay_74 rfl rfl ?_
          refine w_goto dX6_oneDay_77 ?_
          refine w_weak (ls2 := [some (.ref 20), some (.ref 1), some (.int (nI t)), some (.int (nI (m + 1))), none]) ⟨rfl, ⟨rfl, ⟨rfl, ⟨rfl, trivial⟩⟩⟩⟩ ?_
          exact ih17 (m + 1) ρj4 (jnG f (jnG f (jnG f G1 m ((m + 1) % 8)) m (8 + ((m + t) % 8))) (8 + m) (8 + ((m + 1) % 8))) (by omega) (hTj4) (hBj4) (hSj4) (Lm_iff hLj4 (fun v s => eS_h1 h58)) (by omega)
  exact L17 _ 0 (cpyI ρ 21 22 0 0 16) f (by omega) (Fr.only Fr.rf only_cpyI (by decide)) (fun s hs => by rw [cpyB hs]; exact hS s hs) (fun s hs => by rw [(only_cpyI 21 (by decide)).1]; exact hS s hs) (Lm_iff (Lm_0 f) (eS_0 σ t)) (Nat.lt_succ_self _)

set_option maxHeartbeats 4000000 in
theorem c_X6_begin_20 (ρ : Rho) (r : Nat) (hr : r < 8) : CallOK 1 mX6_begin [.ref 20, .int (nI r)] ρ (fun r9 ρ2 => r9 = none ∧ (Fr [21] ρ ρ2 ∧ ∀ s, s < 16 → ρ2.1 21 s = nI (if s = r then 0 else 1000))) := by
  refine callOK_of 0 (by decide +kernel) rfl (fun _ => Nat.le_of_ble_eq_true rfl) (ls := [some (.ref 20), some (.int (nI r))]) rfl ?_
  generalize hQ : (fun r9 ρ2 => r9 = none ∧ (Fr [21] ρ ρ2 ∧ ∀ s, s < 16 → ρ2.1 21 s = nI (if s = r then 0 else 1000)) : Option Value → Rho → Prop) = Q
  refine w_al dX6_begin_0 rfl ?_
  refine w_gr dX6_begin_1 fl_X6_11 sh20 rfl ?_
  refine w_k dX6_begin_4 ?_
  refine w_cSv dX6_begin_7 (sl_X6_18 _ rfl) (by decide) (c_fill ρ 21 16 (nI 1000) sh21) rfl rfl (Nat.le_of_ble_eq_true rfl) ?_
  refine w_al dX6_begin_10 rfl ?_
  refine w_gr dX6_begin_11 fl_X6_11 sh20 rfl ?_
  refine w_il dX6_begin_14 rfl ?_
  refine w_k dX6_begin_15 ?_
  refine w_iastN dX6_begin_16 sh21 (by omega) ?_
  refine w_ret dX6_begin_17 rfl ?_
  rw [← hQ]
  exact ⟨rfl, (Fr.only (Fr.only Fr.rf only_fillI (by decide)) only_wI (by decide)), upd1 (f := fun _ => nI 1000) (g := fun s => nI (if s = r then 0 else 1000)) (fun q hq => fill_at hq) (by rw [if_pos rfl]) (fun q hq => by rw [if_neg hq])⟩

set_option maxHeartbeats 4000000 in
theorem c_X6_isOn_20 (ρ : Rho) (p m : Nat) (hp : p < 8) (hS : ρ.1 21 (8 + p) = nI m) (hm : m ≤ 1000) : CallOK 0 mX6_isOn [.ref 20, .int (nI p)] ρ (fun r ρ2 => r = some (.int (b2i (m < 1000))) ∧ ρ2 = ρ) := by
  refine callOK_of 0 (by decide +kernel) rfl (fun _ => Nat.le_of_ble_eq_true rfl) (ls := [some (.ref 20), some (.int (nI p))]) rfl ?_
  generalize hQ : (fun r ρ2 => r = some (.int (b2i (m < 1000))) ∧ ρ2 = ρ : Option Value → Rho → Prop) = Q
  refine w_al dX6_isOn_0 rfl ?_
  refine w_gr dX6_isOn_1 fl_X6_11 sh20 rfl ?_
  refine w_k dX6_isOn_4 ?_
  refine w_il dX6_isOn_6 rfl ?_
  refine w_iaddN dX6_isOn_7 ?_
  refine w_ialdV (v := (nI m)) dX6_isOn_8 sh21 (by omega) (hS) ?_
  refine w_k dX6_isOn_9 ?_
  refine w_icgeN dX6_isOn_12 (by omega) (by omega) (fun h12 => ?_) (fun h12 => ?_)
  · --t
    refine w_k dX6_isOn_19 ?_
    refine w_zret dX6_isOn_20 rfl rfl ?_
    rw [← hQ]
    exact ⟨congrArg (fun z => some (Value.int z)) (b2i_f (Nat.not_lt.mpr h12)).symm, rfl⟩
  · --f
    refine w_k dX6_isOn_15 ?_
    refine w_goto dX6_isOn_16 ?_
    refine w_zret dX6_isOn_20 rfl rfl ?_
    rw [← hQ]
    exact ⟨congrArg (fun z => some (Value.int z)) (b2i_t h12).symm, rfl⟩

set_option maxHeartbeats 4000000 in
theorem c_X6_stepsTo (ρ : Rho) (p m : Nat) (hp : p < 8) (hS : ρ.1 21 (8 + p) = nI m) : CallOK 0 mX6_stepsTo [.ref 20, .int (nI p)] ρ (fun r ρ2 => r = some (.int (nI m)) ∧ ρ2 = ρ) := by
  refine callOK_of 0 (by decide +kernel) rfl (fun _ => Nat.le_of_ble_eq_true rfl) (ls := [some (.ref 20), some (.int (nI p))]) rfl ?_
  generalize hQ : (fun r ρ2 => r = some (.int (nI m)) ∧ ρ2 = ρ : Option Value → Rho → Prop) = Q
  refine w_al dX6_stepsTo_0 rfl ?_
  refine w_gr dX6_stepsTo_1 fl_X6_11 sh20 rfl ?_
  refine w_k dX6_stepsTo_4 ?_
  refine w_il dX6_stepsTo_6 rfl ?_
  refine w_iaddN dX6_stepsTo_7 ?_
  refine w_ialdV (v := (nI m)) dX6_stepsTo_8 sh21 (by omega) (hS) ?_
  refine w_iret dX6_stepsTo_9 rfl ?_
  rw [← hQ]
  exact ⟨rfl, rfl⟩

set_option maxHeartbeats 4000000 in
theorem c_X6_join_23 (ρ : Rho) (f G : Nat → Nat) (a b : Nat) (ha : a < 16) (hb : b < 16) (hab : a ≠ b) (hS : ∀ s, s < 16 → ρ.1 24 s = nI (G s)) (hB : ∀ s, s < 16 → ρ.1 25 s = nI (f s)) (hf : ∀ s, s < 16 → f s ≤ 1000) (hG : ∀ s, s < 16 → G s ≤ 1000) : CallOK 1 mX6_join [.ref 23, .int (nI a), .int (nI b)] ρ (fun r ρ2 => r = none ∧ (Fr [24] ρ ρ2 ∧ ∀ s, s < 16 → ρ2.1 24 s = nI (jnG f G a b s))) := by
  refine callOK_of 0 (by decide +kernel) rfl (fun _ => Nat.le_of_ble_eq_true rfl) (ls := [some (.ref 23), some (.int (nI a)), some (.int (nI b))]) rfl ?_
  generalize hQ : (fun r ρ2 => r = none ∧ (Fr [24] ρ ρ2 ∧ ∀ s, s < 16 → ρ2.1 24 s = nI (jnG f G a b s)) : Option Value → Rho → Prop) = Q
  have w1 := hf a ha
  have w2 := hf b hb
  have w3 := hG a ha
  have w4 := hG b hb
  refine w_al dX6_join_0 rfl ?_
  refine w_gr dX6_join_1 fl_X6_11 sh23 rfl ?_
  refine w_il dX6_join_4 rfl ?_
  refine w_al dX6_join_5 rfl ?_
  refine w_gr dX6_join_6 fl_X6_11 sh23 rfl ?_
  refine w_il dX6_join_9 rfl ?_
  refine w_ialdV (v := (nI (G a))) dX6_join_10 sh24 (by omega) (hS _ (by omega)) ?_
  refine w_al dX6_join_11 rfl ?_
  refine w_gr dX6_join_12 fl_X6_15 sh23 rfl ?_
  refine w_il dX6_join_15 rfl ?_
  refine w_ialdV (v := (nI (f b))) dX6_join_16 sh25 (by omega) (hB _ (by omega)) ?_
  refine w_k dX6_join_17 ?_
  refine w_iaddN dX6_join_18 ?_
  refine w_mminN dX6_join_19 (sl_X6_53 _ rfl) (by decide) (Nat.le_of_ble_eq_true rfl) (by omega) (by omega) ?_
  refine w_iastN dX6_join_22 sh24 (by omega) ?_
  refine w_al dX6_join_23 rfl ?_
  refine w_gr dX6_join_24 fl_X6_11 sh23 rfl ?_
  refine w_il dX6_join_27 rfl ?_
  refine w_al dX6_join_28 rfl ?_
  refine w_gr dX6_join_29 fl_X6_11 sh23 rfl ?_
  refine w_il dX6_join_32 rfl ?_
  refine w_ialdV (v := (nI (G b))) dX6_join_33 sh24 (by omega) ((rI_ne (by omega)).trans (hS _ (by omega))) ?_
  refine w_al dX6_join_34 rfl ?_
  refine w_gr dX6_join_35 fl_X6_15 sh23 rfl ?_
  refine w_il dX6_join_38 rfl ?_
  refine w_ialdV (v := (nI (f a))) dX6_join_39 sh25 (by omega) (rI_c (by decide) (hB _ (by omega))) ?_
  refine w_k dX6_join_40 ?_
  refine w_iaddN dX6_join_41 ?_
  refine w_mminN dX6_join_42 (sl_X6_53 _ rfl) (by decide) (Nat.le_of_ble_eq_true rfl) (by omega) (by omega) ?_
  refine w_iastN dX6_join_45 sh24 (by omega) ?_
  refine w_ret dX6_join_46 rfl ?_
  rw [← hQ]
  exact ⟨rfl, (Fr.only (Fr.only Fr.rf only_wI (by decide)) only_wI (by decide)), upd1 (f := fun s => nI (va_up G a (min (G a) (f b + 1)) s)) (g := fun s => nI (jnG f G a b s)) (upd1 (f := fun s => nI (G s)) (g := fun s => nI (va_up G a (min (G a) (f b + 1)) s)) hS (by rw [va_up_eq]) (fun q hq => by rw [vup_ne hq])) (by rw [jnG, va_up_eq]) (fun q hq => by rw [jnG, vup_ne hq])⟩

set_option maxHeartbeats 4000000 in
theorem c_X6_oneDay_23 (ρ : Rho) (σ : Sg) (f : Nat → Nat) (t : Nat) (hL : CLd σ ρ) (ht : t < 8) (hS : ∀ s, s < 16 → ρ.1 24 s = nI (f s)) (hf : ∀ s, s < 16 → f s ≤ 1000) : CallOK 2 mX6_oneDay [.ref 23, .ref 1, .int (nI t)] ρ (fun r ρ2 => r = none ∧ (Fr [24, 25] ρ ρ2 ∧ ∀ s, s < 16 → ρ2.1 24 s = nI (mnE σ t f s 16))) := by
  refine callOK_of 2 (by decide +kernel) rfl (fun _ => Nat.le_of_ble_eq_true rfl) (ls := [some (.ref 23), some (.ref 1), some (.int (nI t)), none, none]) rfl ?_
  generalize hQ : (fun r ρ2 => r = none ∧ (Fr [24, 25] ρ ρ2 ∧ ∀ s, s < 16 → ρ2.1 24 s = nI (mnE σ t f s 16)) : Option Value → Rho → Prop) = Q
  refine w_al dX6_oneDay_0 rfl ?_
  refine w_gr dX6_oneDay_1 fl_X6_11 sh23 rfl ?_
  refine w_k dX6_oneDay_4 ?_
  refine w_al dX6_oneDay_5 rfl ?_
  refine w_gr dX6_oneDay_6 fl_X6_15 sh23 rfl ?_
  refine w_k dX6_oneDay_9 ?_
  refine w_k dX6_oneDay_10 ?_
  refine w_acpy (n := 16) (sp := 0) (dp := 0) dX6_oneDay_12 bt232 sh24 sh25 (by omega) (by omega) (by decide) (Nat.le_of_ble_eq_true rfl) ?_
  refine w_k dX6_oneDay_15 ?_
  refine w_is (ls2 := [some (.ref 23), some (.ref 1), some (.int (nI t)), some (.int (nI 0)), none]) dX6_oneDay_16 rfl ?_
  have L17 : ∀ (n17 : Nat) (m : Nat) (ρ1 : Rho) (G1 : Nat → Nat), (m ≤ 8) → (Fr [24, 25] ρ ρ1) → (∀ s, s < 16 → ρ1.1 25 s = nI (f s)) → (∀ s, s < 16 → ρ1.1 24 s = nI (G1 s)) → (Lm f (eS σ t m 0) G1) → (8 - m) < n17 → MW mX6_oneDay 2 17 [some (.ref 23), some (.ref 1), some (.int (nI t)), some (.int (nI m)), none] [] ρ1 Q := by
    intro n17
    induction n17 with
    | zero =>
      intro m ρ1 G1 hm hT1 hB1 hS1 hL1 hm17
      exact absurd hm17 (Nat.not_lt_zero _)
    | succ n17 ih17 =>
      intro m ρ1 G1 hm hT1 hB1 hS1 hL1 hm17
      have wc := Cl_le σ m
      refine w_il dX6_oneDay_17 rfl ?_
      refine w_k dX6_oneDay_18 ?_
      refine w_icgeN dX6_oneDay_20 (by omega) (by omega) (fun h20 => ?_) (fun h20 => ?_)
      · --t
        refine w_k dX6_oneDay_80 ?_
        refine w_is (ls2 := [some (.ref 23), some (.ref 1), some (.int (nI t)), some (.int (nI 0)), none]) dX6_oneDay_81 rfl ?_
        have L82 : ∀ (n82 : Nat) (k : Nat) (ρ2 : Rho) (G2 : Nat → Nat), (k ≤ NB σ) → (Fr [24, 25] ρ ρ2) → (∀ s, s < 16 → ρ2.1 25 s = nI (f s)) → (∀ s, s < 16 → ρ2.1 24 s = nI (G2 s)) → (Lm f (eS σ t 8 k) G2) → (NB σ - k) < n82 → MW mX6_oneDay 2 82 [some (.ref 23), some (.ref 1), some (.int (nI t)), some (.int (nI k)), none] [] ρ2 Q := by
          intro n82
          induction n82 with
          | zero =>
            intro k ρ2 G2 hk hT2 hB2 hS2 hL2 hm82
            exact absurd hm82 (Nat.not_lt_zero _)
          | succ n82 ih82 =>
            intro k ρ2 G2 hk hT2 hB2 hS2 hL2 hm82
            have wn := (NB_ok σ).1
            refine w_il dX6_oneDay_82 rfl ?_
            refine w_al dX6_oneDay_83 rfl ?_
            refine w_giV (v := (nI (NB σ))) dX6_oneDay_84 fl_X6_39 sh1 rfl ((CLd.fr hL hT2 (by decide)).2.2.1) ?_
            refine w_icgeN dX6_oneDay_87 (by omega) (by omega) (fun h87 => ?_) (fun h87 => ?_)
            · --t
              refine w_ret dX6_oneDay_132 rfl ?_
              rw [← hQ]
              obtain rfl : k = NB σ := by omega
              exact ⟨rfl, hT2, fun s hs => by rw [hS2 s hs, Lm_mnE hL2 (eS_st σ t) s hs]⟩
            · --f
              refine w_il dX6_oneDay_90 rfl ?_
              refine w_k dX6_oneDay_91 ?_
              refine w_icgeN dX6_oneDay_92 (by omega) (by omega) (fun h92 => ?_) (fun h92 => ?_)
              · --t
                exfalso; omega
              · --f
                refine w_al dX6_oneDay_95 rfl ?_
                refine w_il dX6_oneDay_96 rfl ?_
                refine w_il dX6_oneDay_97 rfl ?_
                refine w_cVf dX6_oneDay_98 (vl_X6_43 _ rfl) sh1 (by decide) (c_X3_meetsAt ρ2 σ k t (CLd.fr hL hT2 (by decide)) (by omega) (by omega)) rfl rfl (Nat.le_of_ble_eq_true rfl) ?_
                refine w_ifeqB dX6_oneDay_101 (fun h101 => ?_) (fun h101 => ?_)
                · --t
                  refine w_iincN (ls2 := [some (.ref 23), some (.ref 1), some (.int (nI t)), some (.int (nI (k + 1))), none]) dX6_oneDay_126 rfl rfl ?_
                  refine w_goto dX6_oneDay_129 ?_
                  exact ih82 (k + 1) ρ2 G2 (by omega) (hT2) (hB2) (hS2) (Lm_iff hL2 (fun v s => eS_k0 h101)) (by omega)
                · --f
                  have wb := (NB_ok σ).2 k (by omega)
                  have wa := wb.1
                  have wc := wb.2.1
                  have wd := wb.2.2.2.2.1
                  have we := wb.2.2.2.1
                  have wf := wb.2.2.2.2.2
                  have wg := wb.2.2.1
                  refine w_al dX6_oneDay_104 rfl ?_
                  refine w_k dX6_oneDay_105 ?_
                  refine w_al dX6_oneDay_107 rfl ?_
                  refine w_gr dX6_oneDay_108 fl_X6_47 sh1 rfl ?_
                  refine w_il dX6_oneDay_111 rfl ?_
                  refine w_ialdV (v := (nI (Br σ (4 * k)))) dX6_oneDay_112 sh6 (by omega) (((CLd.fr hL hT2 (by decide)).2.2.2.1 _ (by omega)).1) ?_
                  refine w_iaddN dX6_oneDay_113 ?_
                  refine w_k dX6_oneDay_114 ?_
                  refine w_al dX6_oneDay_116 rfl ?_
                  refine w_gr dX6_oneDay_117 fl_X6_50 sh1 rfl ?_
                  refine w_il dX6_oneDay_120 rfl ?_
                  refine w_ialdV (v := (nI (Br σ (4 * k + 1)))) dX6_oneDay_121 sh7 (by omega) (((CLd.fr hL hT2 (by decide)).2.2.2.1 _ (by omega)).2.1) ?_
                  refine w_iaddN dX6_oneDay_122 ?_
                  refine w_cVu dX6_oneDay_123 (vl_X6_30 _ rfl) sh23 (by decide) (c_X6_join_23 ρ2 f G2 (8 + (Br σ (4 * k))) (8 + (Br σ (4 * k + 1))) (by omega) (by omega) (by omega) hS2 hB2 hf (fun s hs => Nat.le_trans (hL2 s hs).1 (hf s hs))) rfl rfl (Nat.le_of_ble_eq_true rfl) (fun ρj1 hj1 => ?_)
                  obtain ⟨hFj1, hSj1⟩ := hj1
                  have hBj1 : ∀ s, s < 16 → ρj1.1 25 s = nI (f s) := fun s hs => by rw [(hFj1 25 (by decide)).1]; exact hB2 s hs
                  have hLj1 := Lm_jn hL2 (a := (8 + (Br σ (4 * k)))) (b := (8 + (Br σ (4 * k + 1)))) (by omega) (by omega) (by omega)
                  have hTj1 := Fr.tr hT2 (Fr.sub hFj1 (S2 := [24, 25]) (by decide))
                  refine w_iincN (ls2 := [some (.ref 23), some (.ref 1), some (.int (nI t)), some (.int (nI (k + 1))), none]) dX6_oneDay_126 rfl rfl ?_
                  refine w_goto dX6_oneDay_129 ?_
                  exact ih82 (k + 1) ρj1 (jnG f G2 (8 + (Br σ (4 * k))) (8 + (Br σ (4 * k + 1)))) (by omega) (hTj1) (hBj1) (hSj1) (Lm_iff hLj1 (fun v s => eS_k1 h101)) (by omega)
        exact L82 _ 0 ρ1 G1 (by omega) (hT1) (hB1) (hS1) (by rw [show m = 8 by omega] at hL1; exact hL1) (Nat.lt_succ_self _)
      · --f
        refine w_il dX6_oneDay_23 rfl ?_
        refine w_k dX6_oneDay_24 ?_
        refine w_iaddN dX6_oneDay_25 ?_
        refine w_k dX6_oneDay_26 ?_
        refine w_iand7 dX6_oneDay_28 (by omega) ?_
        refine w_is (ls2 := [some (.ref 23), some (.ref 1), some (.int (nI t)), some (.int (nI m)), some (.int (nI ((m + 1) % 8)))]) dX6_oneDay_29 rfl ?_
        refine w_al dX6_oneDay_31 rfl ?_
        refine w_il dX6_oneDay_32 rfl ?_
        refine w_il dX6_oneDay_33 rfl ?_
        refine w_cVu dX6_oneDay_35 (vl_X6_30 _ rfl) sh23 (by decide) (c_X6_join_23 ρ1 f G1 m ((m + 1) % 8) (by omega) (by omega) (by omega) hS1 hB1 hf (fun s hs => Nat.le_trans (hL1 s hs).1 (hf s hs))) rfl rfl (Nat.le_of_ble_eq_true rfl) (fun ρj2 hj2 => ?_)
        obtain ⟨hFj2, hSj2⟩ := hj2
        have hBj2 : ∀ s, s < 16 → ρj2.1 25 s = nI (f s) := fun s hs => by rw [(hFj2 25 (by decide)).1]; exact hB1 s hs
        have hLj2 := Lm_jn hL1 (a := m) (b := ((m + 1) % 8)) (by omega) (by omega) (by omega)
        have hTj2 := Fr.tr hT1 (Fr.sub hFj2 (S2 := [24, 25]) (by decide))
        refine w_al dX6_oneDay_38 rfl ?_
        refine w_il dX6_oneDay_39 rfl ?_
        refine w_k dX6_oneDay_40 ?_
        refine w_il dX6_oneDay_42 rfl ?_
        refine w_il dX6_oneDay_43 rfl ?_
        refine w_iaddN dX6_oneDay_44 ?_
        refine w_k dX6_oneDay_45 ?_
        refine w_iand7 dX6_oneDay_47 (by omega) ?_
        refine w_iaddN dX6_oneDay_48 ?_
        refine w_cVu dX6_oneDay_49 (vl_X6_30 _ rfl) sh23 (by decide) (c_X6_join_23 ρj2 f (jnG f G1 m ((m + 1) % 8)) m (8 + ((m + t) % 8)) (by omega) (by omega) (by omega) hSj2 hBj2 hf (fun s hs => Nat.le_trans (hLj2 s hs).1 (hf s hs))) rfl rfl (Nat.le_of_ble_eq_true rfl) (fun ρj3 hj3 => ?_)
        obtain ⟨hFj3, hSj3⟩ := hj3
        have hBj3 : ∀ s, s < 16 → ρj3.1 25 s = nI (f s) := fun s hs => by rw [(hFj3 25 (by decide)).1]; exact hBj2 s hs
        have hLj3 := Lm_jn hLj2 (a := m) (b := (8 + ((m + t) % 8))) (by omega) (by omega) (by omega)
        have hTj3 := Fr.tr hTj2 (Fr.sub hFj3 (S2 := [24, 25]) (by decide))
        refine w_al dX6_oneDay_52 rfl ?_
        refine w_gr dX6_oneDay_53 fl_X6_34 sh1 rfl ?_
        refine w_il dX6_oneDay_56 rfl ?_
        refine w_ialdV (v := (nI (Cl σ m))) dX6_oneDay_57 sh4 (by omega) ((CLd.fr hL hTj3 (by decide)).2.1 _ (by omega)) ?_
        refine w_ifneN dX6_oneDay_58 (by omega) (fun h58 => ?_) (fun h58 => ?_)
        · --t
          refine w_iincN (ls2 := [some (.ref 23), some (.ref 1), some (.int (nI t)), some (.int (nI (m + 1))), some (.int (nI ((m + 1) % 8)))]) dX6_oneDay_74 rfl rfl ?_
          refine w_goto dX6_oneDay_77 ?_
          refine w_weak (ls2 := [some (.ref 23), some (.ref 1), some (.int (nI t)), some (.int (nI (m + 1))), none]) ⟨rfl, ⟨rfl, ⟨rfl, ⟨rfl, trivial⟩⟩⟩⟩ ?_
          exact ih17 (m + 1) ρj3 (jnG f (jnG f G1 m ((m + 1) % 8)) m (8 + ((m + t) % 8))) (by omega) (hTj3) (hBj3) (hSj3) (Lm_iff hLj3 (fun v s => eS_h0 h58)) (by omega)
        · --f
          refine w_al dX6_oneDay_61 rfl ?_
          refine w_k dX6_oneDay_62 ?_
          refine w_il dX6_oneDay_64 rfl ?_
          refine w_iaddN dX6_oneDay_65 ?_
          refine w_k dX6_oneDay_66 ?_
          refine w_il dX6_oneDay_68 rfl ?_
          refine w_iaddN dX6_oneDay_70 ?_
          refine w_cVu dX6_oneDay_71 (vl_X6_30 _ rfl) sh23 (by decide) (c_X6_join_23 ρj3 f (jnG f (jnG f G1 m ((m + 1) % 8)) m (8 + ((m + t) % 8))) (8 + m) (8 + ((m + 1) % 8)) (by omega) (by omega) (by omega) hSj3 hBj3 hf (fun s hs => Nat.le_trans (hLj3 s hs).1 (hf s hs))) rfl rfl (Nat.le_of_ble_eq_true rfl) (fun ρj4 hj4 => ?_)
          obtain ⟨hFj4, hSj4⟩ := hj4
          have hBj4 : ∀ s, s < 16 → ρj4.1 25 s = nI (f s) := fun s hs => by rw [(hFj4 25 (by decide)).1]; exact hBj3 s hs
          have hLj4 := Lm_jn hLj3 (a := (8 + m)) (b := (8 + ((m + 1) % 8))) (by omega) (by omega) (by omega)
          have hTj4 := Fr.tr hTj3 (Fr.sub hFj4 (S2 := [24, 25]) (by decide))
          refine w_iincN (ls2 := [some (.ref 23), some (.ref 1), some (.int (nI t)), some (.int (nI (m + 1))), some (.int (nI ((m + 1) % 8)))]) dX6_oneDay_74 rfl rfl ?_
          refine w_goto dX6_oneDay_77 ?_
          refine w_weak (ls2 := [some (.ref 23), some (.ref 1), some (.int (nI t)), some (.int (nI (m + 1))), none]) ⟨rfl, ⟨rfl, ⟨rfl, ⟨rfl, trivial⟩⟩⟩⟩ ?_
          exact ih17 (m + 1) ρj4 (jnG f (jnG f (jnG f G1 m ((m + 1) % 8)) m (8 + ((m + t) % 8))) (8 + m) (8 + ((m + 1) % 8))) (by omega) (hTj4) (hBj4) (hSj4) (Lm_iff hLj4 (fun v s => eS_h1 h58)) (by omega)
  exact L17 _ 0 (cpyI ρ 24 25 0 0 16) f (by omega) (Fr.only Fr.rf only_cpyI (by decide)) (fun s hs => by rw [cpyB hs]; exact hS s hs) (fun s hs => by rw [(only_cpyI 24 (by decide)).1]; exact hS s hs) (Lm_iff (Lm_0 f) (eS_0 σ t)) (Nat.lt_succ_self _)

set_option maxHeartbeats 4000000 in
theorem c_X6_begin_23 (ρ : Rho) (r : Nat) (hr : r < 8) : CallOK 1 mX6_begin [.ref 23, .int (nI r)] ρ (fun r9 ρ2 => r9 = none ∧ (Fr [24] ρ ρ2 ∧ ∀ s, s < 16 → ρ2.1 24 s = nI (if s = r then 0 else 1000))) := by
  refine callOK_of 0 (by decide +kernel) rfl (fun _ => Nat.le_of_ble_eq_true rfl) (ls := [some (.ref 23), some (.int (nI r))]) rfl ?_
  generalize hQ : (fun r9 ρ2 => r9 = none ∧ (Fr [24] ρ ρ2 ∧ ∀ s, s < 16 → ρ2.1 24 s = nI (if s = r then 0 else 1000)) : Option Value → Rho → Prop) = Q
  refine w_al dX6_begin_0 rfl ?_
  refine w_gr dX6_begin_1 fl_X6_11 sh23 rfl ?_
  refine w_k dX6_begin_4 ?_
  refine w_cSv dX6_begin_7 (sl_X6_18 _ rfl) (by decide) (c_fill ρ 24 16 (nI 1000) sh24) rfl rfl (Nat.le_of_ble_eq_true rfl) ?_
  refine w_al dX6_begin_10 rfl ?_
  refine w_gr dX6_begin_11 fl_X6_11 sh23 rfl ?_
  refine w_il dX6_begin_14 rfl ?_
  refine w_k dX6_begin_15 ?_
  refine w_iastN dX6_begin_16 sh24 (by omega) ?_
  refine w_ret dX6_begin_17 rfl ?_
  rw [← hQ]
  exact ⟨rfl, (Fr.only (Fr.only Fr.rf only_fillI (by decide)) only_wI (by decide)), upd1 (f := fun _ => nI 1000) (g := fun s => nI (if s = r then 0 else 1000)) (fun q hq => fill_at hq) (by rw [if_pos rfl]) (fun q hq => by rw [if_neg hq])⟩

set_option maxHeartbeats 4000000 in
theorem c_X6_isOn_23 (ρ : Rho) (p m : Nat) (hp : p < 8) (hS : ρ.1 24 (8 + p) = nI m) (hm : m ≤ 1000) : CallOK 0 mX6_isOn [.ref 23, .int (nI p)] ρ (fun r ρ2 => r = some (.int (b2i (m < 1000))) ∧ ρ2 = ρ) := by
  refine callOK_of 0 (by decide +kernel) rfl (fun _ => Nat.le_of_ble_eq_true rfl) (ls := [some (.ref 23), some (.int (nI p))]) rfl ?_
  generalize hQ : (fun r ρ2 => r = some (.int (b2i (m < 1000))) ∧ ρ2 = ρ : Option Value → Rho → Prop) = Q
  refine w_al dX6_isOn_0 rfl ?_
  refine w_gr dX6_isOn_1 fl_X6_11 sh23 rfl ?_
  refine w_k dX6_isOn_4 ?_
  refine w_il dX6_isOn_6 rfl ?_
  refine w_iaddN dX6_isOn_7 ?_
  refine w_ialdV (v := (nI m)) dX6_isOn_8 sh24 (by omega) (hS) ?_
  refine w_k dX6_isOn_9 ?_
  refine w_icgeN dX6_isOn_12 (by omega) (by omega) (fun h12 => ?_) (fun h12 => ?_)
  · --t
    refine w_k dX6_isOn_19 ?_
    refine w_zret dX6_isOn_20 rfl rfl ?_
    rw [← hQ]
    exact ⟨congrArg (fun z => some (Value.int z)) (b2i_f (Nat.not_lt.mpr h12)).symm, rfl⟩
  · --f
    refine w_k dX6_isOn_15 ?_
    refine w_goto dX6_isOn_16 ?_
    refine w_zret dX6_isOn_20 rfl rfl ?_
    rw [← hQ]
    exact ⟨congrArg (fun z => some (Value.int z)) (b2i_t h12).symm, rfl⟩
