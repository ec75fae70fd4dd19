theorem wAll_s {σ : Sg} {p a k : Nat} (h : wAll σ p a k) (h2 : wF σ p a k < 100) : wAll σ p a (k + 1) := fun r hr => by
  by_cases e : r = k
  · subst e; exact h2
  · exact h r (by omega)
theorem v_wait_n {σ : Sg} {p a k : Nat} (hk : k < 8) (h : ¬ wF σ p a k < 100) : v_wait σ p a = -1 := if_neg (fun q => h (q k hk))
theorem v_wait_y {σ : Sg} {p a : Nat} (h : wAll σ p a 8) : v_wait σ p a = nI (wM σ p a 8) := if_pos h
theorem dg_y {σ : Sg} {a m k : Nat} (h : wAll σ k a 8) (h2 : wM σ k a 8 < (dgS σ a m k).2) : dgS σ a m (k + 1) = (nI k, wM σ k a 8) := if_pos ⟨h, h2⟩
theorem dg_n {σ : Sg} {a m k : Nat} (h : ¬ (wAll σ k a 8 ∧ wM σ k a 8 < (dgS σ a m k).2)) : dgS σ a m (k + 1) = dgS σ a m k := if_neg h
theorem wl_t {σ : Sg} {p r t : Nat} (h : (r + t) % 8 = p ∨ Th σ ((r + t) % 8) = 2) : wlB σ p r t = true := decide_eq_true h
theorem wl_f {σ : Sg} {p r t : Nat} (h : ¬ ((r + t) % 8 = p ∨ Th σ ((r + t) % 8) = 2)) : wlB σ p r t = false := decide_eq_false h
theorem v_wait_ne {σ : Sg} {p a : Nat} (ha : a ≤ 100) (h : v_wait σ p a ≠ -1) : wAll σ p a 8 ∧ v_wait σ p a = nI (wM σ p a 8) := by
  unfold v_wait at h ⊢
  by_cases c : wAll σ p a 8
  · exact ⟨c, if_pos c⟩
  · rw [if_neg c] at h; exact absurd rfl h
theorem v_wait_m {σ : Sg} {p a : Nat} (ha : a ≤ 100) (h : v_wait σ p a = -1) : ¬ wAll σ p a 8 := fun c => by
  rw [v_wait_y c] at h
  exact nIneg (by have := wM_le σ p a ha 8; omega) h
theorem dgc {σ : Sg} {a m k : Nat} (h : wAll σ k a 8) (h2 : wM σ k a 8 < (dgS σ a m k).2) : nI k = (dgS σ a m (k + 1)).1 ∧ wM σ k a 8 = (dgS σ a m (k + 1)).2 := by rw [dg_y h h2]; exact ⟨rfl, rfl⟩
set_option maxHeartbeats 4000000 in
theorem c_X7_longestWait (ρ : Rho) (σ : Sg) (x a : Nat) (hL : CLd σ ρ) (h17 : ∀ t, t < 8 → ρ.1 17 t = nI (ffn σ (100 - a) t)) (hx : x < 8) (ha : a < 100) : CallOK 1 mX7_longestWait [.ref 0, .int (nI x), .int (nI a)] ρ (fun r ρ2 => r = some (.int (v_wait σ x a)) ∧ ρ2 = ρ) := by
  refine callOK_of 5 (by decide +kernel) rfl (fun _ => Nat.le_of_ble_eq_true rfl) (ls := [some (.ref 0), some (.int (nI x)), some (.int (nI a)), none, none, none, none, none]) rfl ?_
  generalize hQ : (fun r ρ2 => r = some (.int (v_wait σ x a)) ∧ ρ2 = ρ : Option Value → Rho → Prop) = Q
  refine w_k dX7_longestWait_0 ?_
  refine w_is (ls2 := [some (.ref 0), some (.int (nI x)), some (.int (nI a)), some (.int (nI 0)), none, none, none, none]) dX7_longestWait_1 rfl ?_
  refine w_k dX7_longestWait_2 ?_
  refine w_is (ls2 := [some (.ref 0), some (.int (nI x)), some (.int (nI a)), some (.int (nI 0)), some (.int (nI 0)), none, none, none]) dX7_longestWait_3 rfl ?_
  have L5 : ∀ (n5 : Nat) (k : Nat), (k ≤ 8) → (wAll σ x a k) → (8 - k) < n5 → MW mX7_longestWait 1 5 [some (.ref 0), some (.int (nI x)), some (.int (nI a)), some (.int (nI (wM σ x a k))), some (.int (nI k)), none, none, none] [] ρ Q := by
    intro n5
    induction n5 with
    | zero =>
      intro k hk hA hm5
      exact absurd hm5 (Nat.not_lt_zero _)
    | succ n5 ih5 =>
      intro k hk hA hm5
      have w7 := wM_le σ x a (by omega) k
      have w8 := fnT_b σ (wlB σ x k) (100 - a) (by omega)
      refine w_il dX7_longestWait_5 rfl ?_
      refine w_k dX7_longestWait_7 ?_
      refine w_icgeN dX7_longestWait_9 (by omega) (by omega) (fun h9 => ?_) (fun h9 => ?_)
      · --t
        refine w_il dX7_longestWait_103 rfl ?_
        refine w_iret dX7_longestWait_104 rfl ?_
        rw [← hQ]
        obtain rfl : k = 8 := by omega
        exact ⟨congrArg (fun z => some (Value.int z)) (v_wait_y hA).symm, rfl⟩
      · --f
        refine w_k dX7_longestWait_12 ?_
        refine w_is (ls2 := [some (.ref 0), some (.int (nI x)), some (.int (nI a)), some (.int (nI (wM σ x a k))), some (.int (nI k)), some (.int (nI 100)), none, none]) dX7_longestWait_14 rfl ?_
        refine w_k dX7_longestWait_16 ?_
        refine w_is (ls2 := [some (.ref 0), some (.int (nI x)), some (.int (nI a)), some (.int (nI (wM σ x a k))), some (.int (nI k)), some (.int (nI 100)), some (.int (nI 0)), none]) dX7_longestWait_17 rfl ?_
        have L19 : ∀ (n19 : Nat) (t : Nat), (t ≤ 8) → (8 - t) < n19 → MW mX7_longestWait 1 19 [some (.ref 0), some (.int (nI x)), some (.int (nI a)), some (.int (nI (wM σ x a k))), some (.int (nI k)), some (.int (nI (mnT (wlB σ x k) (ffn σ (100 - a)) t))), some (.int (nI t)), none] [] ρ Q := by
          intro n19
          induction n19 with
          | zero =>
            intro t ht hm19
            exact absurd hm19 (Nat.not_lt_zero _)
          | succ n19 ih19 =>
            intro t ht hm19
            have w4 := mnT_le (wlB σ x k) (ffn σ (100 - a)) t
            have w5 := (ffn_ge σ t (100 - a) (by omega)).2
            have w6 := Th_le σ ((k + t) % 8)
            refine w_il dX7_longestWait_19 rfl ?_
            refine w_k dX7_longestWait_21 ?_
            refine w_icgeN dX7_longestWait_23 (by omega) (by omega) (fun h23 => ?_) (fun h23 => ?_)
            · --t
              have eW : mnT (wlB σ x k) (ffn σ (100 - a)) t = wF σ x a k := by rw [show t = 8 by omega]; exact mn_fn σ _ _ (by omega)
              have w9 : wF σ x a k = fnT σ (wlB σ x k) (100 - a) := rfl
              refine w_il dX7_longestWait_79 rfl ?_
              refine w_k dX7_longestWait_81 ?_
              refine w_icltN dX7_longestWait_83 (by omega) (by omega) (fun h83 => ?_) (fun h83 => ?_)
              · --t
                refine w_il dX7_longestWait_88 rfl ?_
                refine w_il dX7_longestWait_89 rfl ?_
                refine w_il dX7_longestWait_91 rfl ?_
                refine w_isubN dX7_longestWait_92 (by omega) ?_
                refine w_mmaxN dX7_longestWait_93 (sl_X7_364 _ rfl) (by decide) (Nat.le_of_ble_eq_true rfl) (by omega) (by omega) ?_
                refine w_is (ls2 := [some (.ref 0), some (.int (nI x)), some (.int (nI a)), some (.int (nI (max (wM σ x a k) (mnT (wlB σ x k) (ffn σ (100 - a)) t - a)))), some (.int (nI k)), some (.int (nI (mnT (wlB σ x k) (ffn σ (100 - a)) t))), some (.int (nI t)), none]) dX7_longestWait_96 rfl ?_
                refine w_iincN (ls2 := [some (.ref 0), some (.int (nI x)), some (.int (nI a)), some (.int (nI (max (wM σ x a k) (mnT (wlB σ x k) (ffn σ (100 - a)) t - a)))), some (.int (nI (k + 1))), some (.int (nI (mnT (wlB σ x k) (ffn σ (100 - a)) t))), some (.int (nI t)), none]) dX7_longestWait_97 rfl rfl ?_
                refine w_goto dX7_longestWait_100 ?_
                refine w_weak (ls2 := [some (.ref 0), some (.int (nI x)), some (.int (nI a)), some (.int (nI (max (wM σ x a k) (mnT (wlB σ x k) (ffn σ (100 - a)) t - a)))), some (.int (nI (k + 1))), none, none, none]) ⟨rfl, ⟨rfl, ⟨rfl, ⟨rfl, ⟨rfl, trivial⟩⟩⟩⟩⟩ ?_
                rw [show max (wM σ x a k) (mnT (wlB σ x k) (ffn σ (100 - a)) t - a) = wM σ x a (k + 1) from by rw [eW]; rfl]
                exact ih5 (k + 1) (by omega) (wAll_s hA (by omega)) (by omega)
              · --f
                refine w_k dX7_longestWait_86 ?_
                refine w_iret dX7_longestWait_87 rfl ?_
                rw [← hQ]
                exact ⟨congrArg (fun z => some (Value.int z)) (v_wait_n (k := k) (by omega) (by omega)).symm, rfl⟩
            · --f
              refine w_il dX7_longestWait_26 rfl ?_
              refine w_il dX7_longestWait_28 rfl ?_
              refine w_iaddN dX7_longestWait_30 ?_
              refine w_k dX7_longestWait_31 ?_
              refine w_iand7 dX7_longestWait_33 (by omega) ?_
              refine w_is (ls2 := [some (.ref 0), some (.int (nI x)), some (.int (nI a)), some (.int (nI (wM σ x a k))), some (.int (nI k)), some (.int (nI (mnT (wlB σ x k) (ffn σ (100 - a)) t))), some (.int (nI t)), some (.int (nI ((k + t) % 8)))]) dX7_longestWait_34 rfl ?_
              refine w_il dX7_longestWait_36 rfl ?_
              refine w_il dX7_longestWait_38 rfl ?_
              refine w_iceqN dX7_longestWait_39 (by omega) (by omega) (fun h39 => ?_) (fun h39 => ?_)
              · --t
                refine w_il dX7_longestWait_56 rfl ?_
                refine w_al dX7_longestWait_58 rfl ?_
                refine w_gr dX7_longestWait_59 fl_X7_19 sh0 rfl ?_
                refine w_gr dX7_longestWait_62 fl_X7_181 sh10 rfl ?_
                refine w_il dX7_longestWait_65 rfl ?_
                refine w_ialdV (v := (nI (ffn σ (100 - a) t))) dX7_longestWait_67 sh17 (by omega) (h17 _ (by omega)) ?_
                refine w_mminN dX7_longestWait_68 (sl_X7_168 _ rfl) (by decide) (Nat.le_of_ble_eq_true rfl) (by omega) (by omega) ?_
                refine w_is (ls2 := [some (.ref 0), some (.int (nI x)), some (.int (nI a)), some (.int (nI (wM σ x a k))), some (.int (nI k)), some (.int (nI (min (mnT (wlB σ x k) (ffn σ (100 - a)) t) (ffn σ (100 - a) t)))), some (.int (nI t)), some (.int (nI ((k + t) % 8)))]) dX7_longestWait_71 rfl ?_
                refine w_iincN (ls2 := [some (.ref 0), some (.int (nI x)), some (.int (nI a)), some (.int (nI (wM σ x a k))), some (.int (nI k)), some (.int (nI (min (mnT (wlB σ x k) (ffn σ (100 - a)) t) (ffn σ (100 - a) t)))), some (.int (nI (t + 1))), some (.int (nI ((k + t) % 8)))]) dX7_longestWait_73 rfl rfl ?_
                refine w_goto dX7_longestWait_76 ?_
                refine w_weak (ls2 := [some (.ref 0), some (.int (nI x)), some (.int (nI a)), some (.int (nI (wM σ x a k))), some (.int (nI k)), some (.int (nI (min (mnT (wlB σ x k) (ffn σ (100 - a)) t) (ffn σ (100 - a) t)))), some (.int (nI (t + 1))), none]) ⟨rfl, ⟨rfl, ⟨rfl, ⟨rfl, ⟨rfl, ⟨rfl, ⟨rfl, trivial⟩⟩⟩⟩⟩⟩⟩ ?_
                rw [← mnT_y (wl_t (Or.inl h39))]
                exact ih19 (t + 1) (by omega) (by omega)
              · --f
                refine w_al dX7_longestWait_42 rfl ?_
                refine w_gr dX7_longestWait_43 fl_X7_10 sh0 rfl ?_
                refine w_gr dX7_longestWait_46 fl_X7_77 sh1 rfl ?_
                refine w_il dX7_longestWait_49 rfl ?_
                refine w_ialdV (v := (nI (Th σ ((k + t) % 8)))) dX7_longestWait_51 sh3 (by omega) (hL.1 _ (by omega)) ?_
                refine w_k dX7_longestWait_52 ?_
                refine w_icneN dX7_longestWait_53 (by omega) (by omega) (fun h53 => ?_) (fun h53 => ?_)
                · --t
                  refine w_iincN (ls2 := [some (.ref 0), some (.int (nI x)), some (.int (nI a)), some (.int (nI (wM σ x a k))), some (.int (nI k)), some (.int (nI (mnT (wlB σ x k) (ffn σ (100 - a)) t))), some (.int (nI (t + 1))), some (.int (nI ((k + t) % 8)))]) dX7_longestWait_73 rfl rfl ?_
                  refine w_goto dX7_longestWait_76 ?_
                  refine w_weak (ls2 := [some (.ref 0), some (.int (nI x)), some (.int (nI a)), some (.int (nI (wM σ x a k))), some (.int (nI k)), some (.int (nI (mnT (wlB σ x k) (ffn σ (100 - a)) t))), some (.int (nI (t + 1))), none]) ⟨rfl, ⟨rfl, ⟨rfl, ⟨rfl, ⟨rfl, ⟨rfl, ⟨rfl, trivial⟩⟩⟩⟩⟩⟩⟩ ?_
                  rw [← mnT_n (wl_f (fun q => q.elim h39 h53))]
                  exact ih19 (t + 1) (by omega) (by omega)
                · --f
                  refine w_il dX7_longestWait_56 rfl ?_
                  refine w_al dX7_longestWait_58 rfl ?_
                  refine w_gr dX7_longestWait_59 fl_X7_19 sh0 rfl ?_
                  refine w_gr dX7_longestWait_62 fl_X7_181 sh10 rfl ?_
                  refine w_il dX7_longestWait_65 rfl ?_
                  refine w_ialdV (v := (nI (ffn σ (100 - a) t))) dX7_longestWait_67 sh17 (by omega) (h17 _ (by omega)) ?_
                  refine w_mminN dX7_longestWait_68 (sl_X7_168 _ rfl) (by decide) (Nat.le_of_ble_eq_true rfl) (by omega) (by omega) ?_
                  refine w_is (ls2 := [some (.ref 0), some (.int (nI x)), some (.int (nI a)), some (.int (nI (wM σ x a k))), some (.int (nI k)), some (.int (nI (min (mnT (wlB σ x k) (ffn σ (100 - a)) t) (ffn σ (100 - a) t)))), some (.int (nI t)), some (.int (nI ((k + t) % 8)))]) dX7_longestWait_71 rfl ?_
                  refine w_iincN (ls2 := [some (.ref 0), some (.int (nI x)), some (.int (nI a)), some (.int (nI (wM σ x a k))), some (.int (nI k)), some (.int (nI (min (mnT (wlB σ x k) (ffn σ (100 - a)) t) (ffn σ (100 - a) t)))), some (.int (nI (t + 1))), some (.int (nI ((k + t) % 8)))]) dX7_longestWait_73 rfl rfl ?_
                  refine w_goto dX7_longestWait_76 ?_
                  refine w_weak (ls2 := [some (.ref 0), some (.int (nI x)), some (.int (nI a)), some (.int (nI (wM σ x a k))), some (.int (nI k)), some (.int (nI (min (mnT (wlB σ x k) (ffn σ (100 - a)) t) (ffn σ (100 - a) t)))), some (.int (nI (t + 1))), none]) ⟨rfl, ⟨rfl, ⟨rfl, ⟨rfl, ⟨rfl, ⟨rfl, ⟨rfl, trivial⟩⟩⟩⟩⟩⟩⟩ ?_
                  rw [← mnT_y (wl_t (Or.inr h53))]
                  exact ih19 (t + 1) (by omega) (by omega)
        exact L19 _ 0 (by omega) (Nat.lt_succ_self _)
  exact L5 _ 0 (by omega) (fun r hr => absurd hr (Nat.not_lt_zero _)) (Nat.lt_succ_self _)

set_option maxHeartbeats 4000000 in
theorem c_X7_waits (ρ : Rho) (σ : Sg) (p : Int32) (d : Int32) (hC : CInv σ ρ) : CallOK 2 mX7_waits [.ref 0, .int p, .int d] ρ (fun r ρ2 => ∃ v, r = some v ∧ (v = .int (r_waits σ p d) ∧ CInv (σ) ρ2 ∧ EqM ρ ρ2)) := by
  refine callOK_of 0 (by decide +kernel) rfl (fun _ => Nat.le_of_ble_eq_true rfl) (ls := [some (.ref 0), some (.int p), some (.int d)]) rfl ?_
  generalize hQ : (fun r ρ2 => ∃ v, r = some v ∧ (v = .int (r_waits σ p d) ∧ CInv (σ) ρ2 ∧ EqM ρ ρ2) : Option Value → Rho → Prop) = Q
  refine w_il dX7_waits_0 rfl ?_
  refine w_k dX7_waits_1 ?_
  refine w_cSf dX7_waits_3 (sl_X7_61 _ rfl) (by decide) (c_X7_within ρ p (nI 7)) rfl rfl (Nat.le_of_ble_eq_true rfl) ?_
  refine w_ifeqB dX7_waits_6 (fun h6 => ?_) (fun h6 => ?_)
  · --t
    refine w_k dX7_waits_16 ?_
    refine w_iret dX7_waits_18 rfl ?_
    rw [← hQ]
    exact ⟨_, rfl, by rw [r_waits, if_neg (fun z => h6 z.1)], ⟨hC.1, hC.2.1, hC.2.2⟩, EqM.rf⟩
  · --f
    obtain ⟨x, hx, rfl⟩ := inR_nI h6 (by decide)
    refine w_il dX7_waits_9 rfl ?_
    refine w_cSf dX7_waits_10 (sl_X7_87 _ rfl) (by decide) (c_X7_isDay ρ d) rfl rfl (Nat.le_of_ble_eq_true rfl) ?_
    refine w_ifneB dX7_waits_13 (fun h13 => ?_) (fun h13 => ?_)
    · --t
      obtain ⟨a, ha, rfl⟩ := inR_nI h13 (by decide)
      refine w_al dX7_waits_19 rfl ?_
      refine w_gr dX7_waits_20 fl_X7_19 sh0 rfl ?_
      refine w_il dX7_waits_23 rfl ?_
      refine w_cVu dX7_waits_24 (vl_X7_173 _ rfl) sh10 (by decide) (c_X1_findFirstDays ρ σ a hC.2.2 (by omega)) rfl rfl (Nat.le_of_ble_eq_true rfl) (fun ρt ht9 => ?_)
      obtain ⟨hFt, htt⟩ := ht9
      refine w_al dX7_waits_27 rfl ?_
      refine w_il dX7_waits_28 rfl ?_
      refine w_il dX7_waits_29 rfl ?_
      refine w_cVf dX7_waits_30 (vl_X7_264 _ rfl) sh0 (by decide) (c_X7_longestWait ρt σ x a (CLd.fr hC.2.1 hFt (by decide)) htt (by omega) (by omega)) rfl rfl (Nat.le_of_ble_eq_true rfl) ?_
      refine w_iret dX7_waits_33 rfl ?_
      rw [← hQ]
      exact ⟨_, rfl, by rw [r_waits, if_pos ⟨h6, h13⟩, nv_nI (a := x) (by omega), nv_nI (a := a) (by omega)], ⟨(CP.fr hC.1 hFt (by decide)), (CLd.fr hC.2.1 hFt (by decide)), (CTn.fr hC.2.2 hFt (by decide))⟩, (Fr.eqM hFt (by decide))⟩
    · --f
      refine w_k dX7_waits_16 ?_
      refine w_iret dX7_waits_18 rfl ?_
      rw [← hQ]
      exact ⟨_, rfl, by rw [r_waits, if_neg (fun z => h13 z.2)], ⟨hC.1, hC.2.1, hC.2.2⟩, EqM.rf⟩

set_option maxHeartbeats 4000000 in
theorem c_X7_dig (ρ : Rho) (σ : Sg) (d : Int32) (u : Int32) (hC : CInv σ ρ) : CallOK 2 mX7_dig [.ref 0, .int d, .int u] ρ (fun r ρ2 => ∃ v, r = some v ∧ (v = .int (r_dig σ d u) ∧ CInv (σ) ρ2 ∧ EqM ρ ρ2)) := by
  refine callOK_of 4 (by decide +kernel) rfl (fun _ => Nat.le_of_ble_eq_true rfl) (ls := [some (.ref 0), some (.int d), some (.int u), none, none, none, none]) rfl ?_
  generalize hQ : (fun r ρ2 => ∃ v, r = some v ∧ (v = .int (r_dig σ d u) ∧ CInv (σ) ρ2 ∧ EqM ρ ρ2) : Option Value → Rho → Prop) = Q
  refine w_il dX7_dig_0 rfl ?_
  refine w_cSf dX7_dig_1 (sl_X7_87 _ rfl) (by decide) (c_X7_isDay ρ d) rfl rfl (Nat.le_of_ble_eq_true rfl) ?_
  refine w_ifeqB dX7_dig_4 (fun h4 => ?_) (fun h4 => ?_)
  · --t
    refine w_k dX7_dig_16 ?_
    refine w_iret dX7_dig_18 rfl ?_
    rw [← hQ]
    exact ⟨_, rfl, by rw [r_dig, if_neg (fun z => h4 z.1)], ⟨hC.1, hC.2.1, hC.2.2⟩, EqM.rf⟩
  · --f
    obtain ⟨a, ha, rfl⟩ := inR_nI h4 (by decide)
    refine w_il dX7_dig_7 rfl ?_
    refine w_k dX7_dig_8 ?_
    refine w_cSf dX7_dig_10 (sl_X7_61 _ rfl) (by decide) (c_X7_within ρ u (nI 99)) rfl rfl (Nat.le_of_ble_eq_true rfl) ?_
    refine w_ifneB dX7_dig_13 (fun h13 => ?_) (fun h13 => ?_)
    · --t
      obtain ⟨m, hm, rfl⟩ := inR_nI h13 (by decide)
      refine w_al dX7_dig_19 rfl ?_
      refine w_gr dX7_dig_20 fl_X7_19 sh0 rfl ?_
      refine w_il dX7_dig_23 rfl ?_
      refine w_cVu dX7_dig_24 (vl_X7_173 _ rfl) sh10 (by decide) (c_X1_findFirstDays ρ σ a hC.2.2 (by omega)) rfl rfl (Nat.le_of_ble_eq_true rfl) (fun ρt ht9 => ?_)
      obtain ⟨hFt, htt⟩ := ht9
      refine w_k dX7_dig_27 ?_
      refine w_is (ls2 := [some (.ref 0), some (.int (nI a)), some (.int (nI m)), some (.int (-1)), none, none, none]) dX7_dig_28 rfl ?_
      refine w_il dX7_dig_29 rfl ?_
      refine w_k dX7_dig_30 ?_
      refine w_iaddN dX7_dig_31 ?_
      refine w_is (ls2 := [some (.ref 0), some (.int (nI a)), some (.int (nI m)), some (.int (-1)), some (.int (nI (m + 1))), none, none]) dX7_dig_32 rfl ?_
      refine w_k dX7_dig_34 ?_
      refine w_is (ls2 := [some (.ref 0), some (.int (nI a)), some (.int (nI m)), some (.int (-1)), some (.int (nI (m + 1))), some (.int (nI 0)), none]) dX7_dig_35 rfl ?_
      have L37 : ∀ (n37 : Nat) (k : Nat), (k ≤ 8) → (8 - k) < n37 → MW mX7_dig 2 37 [some (.ref 0), some (.int (nI a)), some (.int (nI m)), some (.int ((dgS σ a m k).1)), some (.int (nI ((dgS σ a m k).2))), some (.int (nI k)), none] [] ρt Q := by
        intro n37
        induction n37 with
        | zero =>
          intro k hk hm37
          exact absurd hm37 (Nat.not_lt_zero _)
        | succ n37 ih37 =>
          intro k hk hm37
          have w4 := dgS_le σ a m k
          have w5 := wM_le σ k a (by omega) 8
          refine w_il dX7_dig_37 rfl ?_
          refine w_k dX7_dig_39 ?_
          refine w_icgeN dX7_dig_41 (by omega) (by omega) (fun h41 => ?_) (fun h41 => ?_)
          · --t
            refine w_il dX7_dig_79 rfl ?_
            refine w_iret dX7_dig_80 rfl ?_
            rw [← hQ]
            exact ⟨_, rfl, by rw [r_dig, if_pos ⟨h4, h13⟩, nv_nI (a := a) (by omega), nv_nI (a := m) (by omega), show k = 8 by omega], ⟨(CP.fr hC.1 hFt (by decide)), (CLd.fr hC.2.1 hFt (by decide)), (CTn.fr hC.2.2 hFt (by decide))⟩, (Fr.eqM hFt (by decide))⟩
          · --f
            refine w_al dX7_dig_44 rfl ?_
            refine w_il dX7_dig_45 rfl ?_
            refine w_il dX7_dig_47 rfl ?_
            refine w_cVf dX7_dig_48 (vl_X7_264 _ rfl) sh0 (by decide) (c_X7_longestWait ρt σ k a (CLd.fr hC.2.1 hFt (by decide)) htt (by omega) (by omega)) rfl rfl (Nat.le_of_ble_eq_true rfl) ?_
            refine w_is (ls2 := [some (.ref 0), some (.int (nI a)), some (.int (nI m)), some (.int ((dgS σ a m k).1)), some (.int (nI ((dgS σ a m k).2))), some (.int (nI k)), some (.int (v_wait σ k a))]) dX7_dig_51 rfl ?_
            refine w_il dX7_dig_53 rfl ?_
            refine w_k dX7_dig_55 ?_
            refine w_iceq dX7_dig_56 (fun h56 => ?_) (fun h56 => ?_)
            · --t
              refine w_iincN (ls2 := [some (.ref 0), some (.int (nI a)), some (.int (nI m)), some (.int ((dgS σ a m k).1)), some (.int (nI ((dgS σ a m k).2))), some (.int (nI (k + 1))), some (.int (v_wait σ k a))]) dX7_dig_73 rfl rfl ?_
              refine w_goto dX7_dig_76 ?_
              refine w_weak (ls2 := [some (.ref 0), some (.int (nI a)), some (.int (nI m)), some (.int ((dgS σ a m k).1)), some (.int (nI ((dgS σ a m k).2))), some (.int (nI (k + 1))), none]) ⟨rfl, ⟨rfl, ⟨rfl, ⟨rfl, ⟨rfl, ⟨rfl, trivial⟩⟩⟩⟩⟩⟩ ?_
              rw [← dg_n (m := m) (fun q => v_wait_m (by omega) h56 q.1)]
              exact ih37 (k + 1) (by omega) (by omega)
            · --f
              have hy := v_wait_ne (by omega) h56
              rw [hy.2]
              refine w_il dX7_dig_59 rfl ?_
              refine w_il dX7_dig_61 rfl ?_
              refine w_icgeN dX7_dig_63 (by omega) (by omega) (fun h63 => ?_) (fun h63 => ?_)
              · --t
                refine w_iincN (ls2 := [some (.ref 0), some (.int (nI a)), some (.int (nI m)), some (.int ((dgS σ a m k).1)), some (.int (nI ((dgS σ a m k).2))), some (.int (nI (k + 1))), some (.int (nI (wM σ k a 8)))]) dX7_dig_73 rfl rfl ?_
                refine w_goto dX7_dig_76 ?_
                refine w_weak (ls2 := [some (.ref 0), some (.int (nI a)), some (.int (nI m)), some (.int ((dgS σ a m k).1)), some (.int (nI ((dgS σ a m k).2))), some (.int (nI (k + 1))), none]) ⟨rfl, ⟨rfl, ⟨rfl, ⟨rfl, ⟨rfl, ⟨rfl, trivial⟩⟩⟩⟩⟩⟩ ?_
                rw [← dg_n (m := m) (fun q => absurd q.2 (by omega))]
                exact ih37 (k + 1) (by omega) (by omega)
              · --f
                refine w_il dX7_dig_66 rfl ?_
                refine w_is (ls2 := [some (.ref 0), some (.int (nI a)), some (.int (nI m)), some (.int ((dgS σ a m k).1)), some (.int (nI (wM σ k a 8))), some (.int (nI k)), some (.int (nI (wM σ k a 8)))]) dX7_dig_68 rfl ?_
                refine w_il dX7_dig_70 rfl ?_
                refine w_is (ls2 := [some (.ref 0), some (.int (nI a)), some (.int (nI m)), some (.int (nI k)), some (.int (nI (wM σ k a 8))), some (.int (nI k)), some (.int (nI (wM σ k a 8)))]) dX7_dig_72 rfl ?_
                refine w_iincN (ls2 := [some (.ref 0), some (.int (nI a)), some (.int (nI m)), some (.int (nI k)), some (.int (nI (wM σ k a 8))), some (.int (nI (k + 1))), some (.int (nI (wM σ k a 8)))]) dX7_dig_73 rfl rfl ?_
                refine w_goto dX7_dig_76 ?_
                refine w_weak (ls2 := [some (.ref 0), some (.int (nI a)), some (.int (nI m)), some (.int (nI k)), some (.int (nI (wM σ k a 8))), some (.int (nI (k + 1))), none]) ⟨rfl, ⟨rfl, ⟨rfl, ⟨rfl, ⟨rfl, ⟨rfl, trivial⟩⟩⟩⟩⟩⟩ ?_
                rw [(dgc (m := m) hy.1 h63).1, (dgc (m := m) hy.1 h63).2]
                exact ih37 (k + 1) (by omega) (by omega)
      exact L37 _ 0 (by omega) (Nat.lt_succ_self _)
    · --f
      refine w_k dX7_dig_16 ?_
      refine w_iret dX7_dig_18 rfl ?_
      rw [← hQ]
      exact ⟨_, rfl, by rw [r_dig, if_neg (fun z => h13 z.2)], ⟨hC.1, hC.2.1, hC.2.2⟩, EqM.rf⟩

set_option maxHeartbeats 4000000 in
theorem c_X8_waitsOf (ρ : Rho) (σ : Sg) (x : Nat) (a : Nat) (hM : MInv σ ρ) (hx : x < 8) (ha : a < 100) : CallOK 5 mX8_waitsOf [.ref 47, .int (nI x), .int (nI a)] ρ (fun r ρ2 => ∃ v, r = some v ∧ (v = .int (v_wait σ x a) ∧ MInv σ ρ2 ∧ EqC ρ ρ2)) := by
  refine callOK_of 3 (by decide +kernel) rfl (fun _ => Nat.le_of_ble_eq_true rfl) (ls := [some (.ref 47), some (.int (nI x)), some (.int (nI a)), none, none, none]) rfl ?_
  generalize hQ : (fun r ρ2 => ∃ v, r = some v ∧ (v = .int (v_wait σ x a) ∧ MInv σ ρ2 ∧ EqC ρ ρ2) : Option Value → Rho → Prop) = Q
  refine w_al dX8_waitsOf_0 rfl ?_
  refine w_cVu dX8_waitsOf_1 (vl_X8_145 _ rfl) sh47 (by decide) (c_X8_lays ρ σ hM) rfl rfl (Nat.le_of_ble_eq_true rfl) (fun ρl1 hl1 => ?_)
  obtain ⟨hMl1, hEl1, hDl1⟩ := hl1
  refine w_k dX8_waitsOf_4 ?_
  refine w_is (ls2 := [some (.ref 47), some (.int (nI x)), some (.int (nI a)), some (.int (nI 0)), none, none]) dX8_waitsOf_5 rfl ?_
  refine w_k dX8_waitsOf_6 ?_
  refine w_is (ls2 := [some (.ref 47), some (.int (nI x)), some (.int (nI a)), some (.int (nI 0)), some (.int (nI 0)), none]) dX8_waitsOf_7 rfl ?_
  have L9 : ∀ (n9 : Nat) (k : Nat), (k ≤ 8) → (wAll σ x a k) → (8 - k) < n9 → MW mX8_waitsOf 5 9 [some (.ref 47), some (.int (nI x)), some (.int (nI a)), some (.int (nI (wM σ x a k))), some (.int (nI k)), none] [] ρl1 Q := by
    intro n9
    induction n9 with
    | zero =>
      intro k hk hA hm9
      exact absurd hm9 (Nat.not_lt_zero _)
    | succ n9 ih9 =>
      intro k hk hA hm9
      have w7 := wM_le σ x a (by omega) k
      refine w_il dX8_waitsOf_9 rfl ?_
      refine w_k dX8_waitsOf_11 ?_
      refine w_icgeN dX8_waitsOf_13 (by omega) (by omega) (fun h13 => ?_) (fun h13 => ?_)
      · --t
        refine w_il dX8_waitsOf_93 rfl ?_
        obtain rfl : k = 8 := by omega
        refine w_iret dX8_waitsOf_94 rfl ?_
        rw [← hQ]
        exact ⟨_, rfl, by rw [v_wait_y hA], hMl1, (EqC.tr EqC.rf hEl1)⟩
      · --f
        refine w_il dX8_waitsOf_16 rfl ?_
        refine w_is (ls2 := [some (.ref 47), some (.int (nI x)), some (.int (nI a)), some (.int (nI (wM σ x a k))), some (.int (nI k)), some (.int (nI a))]) dX8_waitsOf_17 rfl ?_
        have L19 : ∀ (n19 : Nat) (e : Nat), (e ≤ 100) → (a ≤ e) → (fnT σ (wlB σ x k) (100 - e) = wF σ x a k) → (100 - e) < n19 → MW mX8_waitsOf 5 19 [some (.ref 47), some (.int (nI x)), some (.int (nI a)), some (.int (nI (wM σ x a k))), some (.int (nI k)), some (.int (nI e))] [] ρl1 Q := by
          intro n19
          induction n19 with
          | zero =>
            intro e he hae hf hm19
            exact absurd hm19 (Nat.not_lt_zero _)
          | succ n19 ih19 =>
            intro e he hae hf hm19
            have w4 := dr_lt σ k e
            have w5 := Th_le σ (dr σ k e)
            refine w_il dX8_waitsOf_19 rfl ?_
            refine w_k dX8_waitsOf_21 ?_
            refine w_icgeN dX8_waitsOf_23 (by omega) (by omega) (fun h23 => ?_) (fun h23 => ?_)
            · --t
              have eW : wF σ x a k = e := by rw [← hf, show 100 - e = 0 by omega]; show 100 = e; omega
              refine w_il dX8_waitsOf_61 rfl ?_
              refine w_k dX8_waitsOf_63 ?_
              refine w_icneN dX8_waitsOf_65 (by omega) (by omega) (fun h65 => ?_) (fun h65 => ?_)
              · --t
                refine w_il dX8_waitsOf_70 rfl ?_
                refine w_il dX8_waitsOf_72 rfl ?_
                refine w_isubN dX8_waitsOf_73 (by omega) ?_
                refine w_il dX8_waitsOf_74 rfl ?_
                refine w_icleN dX8_waitsOf_75 (by omega) (by omega) (fun h75 => ?_) (fun h75 => ?_)
                · --t
                  refine w_il dX8_waitsOf_85 rfl ?_
                  refine w_is (ls2 := [some (.ref 47), some (.int (nI x)), some (.int (nI a)), some (.int (nI (wM σ x a k))), some (.int (nI k)), some (.int (nI e))]) dX8_waitsOf_86 rfl ?_
                  refine w_iincN (ls2 := [some (.ref 47), some (.int (nI x)), some (.int (nI a)), some (.int (nI (wM σ x a k))), some (.int (nI (k + 1))), some (.int (nI e))]) dX8_waitsOf_87 rfl rfl ?_
                  refine w_goto dX8_waitsOf_90 ?_
                  refine w_weak (ls2 := [some (.ref 47), some (.int (nI x)), some (.int (nI a)), some (.int (nI (wM σ x a k))), some (.int (nI (k + 1))), none]) ⟨rfl, ⟨rfl, ⟨rfl, ⟨rfl, ⟨rfl, trivial⟩⟩⟩⟩⟩ ?_
                  rw [show wM σ x a k = wM σ x a (k + 1) from by show _ = max (wM σ x a k) (wF σ x a k - a); omega]
                  exact ih9 (k + 1) (by omega) (wAll_s hA (by omega)) (by omega)
                · --f
                  refine w_il dX8_waitsOf_78 rfl ?_
                  refine w_il dX8_waitsOf_80 rfl ?_
                  refine w_isubN dX8_waitsOf_81 (by omega) ?_
                  refine w_goto dX8_waitsOf_82 ?_
                  refine w_is (ls2 := [some (.ref 47), some (.int (nI x)), some (.int (nI a)), some (.int (nI (e - a))), some (.int (nI k)), some (.int (nI e))]) dX8_waitsOf_86 rfl ?_
                  refine w_iincN (ls2 := [some (.ref 47), some (.int (nI x)), some (.int (nI a)), some (.int (nI (e - a))), some (.int (nI (k + 1))), some (.int (nI e))]) dX8_waitsOf_87 rfl rfl ?_
                  refine w_goto dX8_waitsOf_90 ?_
                  refine w_weak (ls2 := [some (.ref 47), some (.int (nI x)), some (.int (nI a)), some (.int (nI (e - a))), some (.int (nI (k + 1))), none]) ⟨rfl, ⟨rfl, ⟨rfl, ⟨rfl, ⟨rfl, trivial⟩⟩⟩⟩⟩ ?_
                  rw [show e - a = wM σ x a (k + 1) from by show _ = max (wM σ x a k) (wF σ x a k - a); omega]
                  exact ih9 (k + 1) (by omega) (wAll_s hA (by omega)) (by omega)
              · --f
                refine w_k dX8_waitsOf_68 ?_
                refine w_iret dX8_waitsOf_69 rfl ?_
                rw [← hQ]
                exact ⟨_, rfl, by rw [v_wait_n (k := k) (by omega) (by omega)], hMl1, (EqC.tr EqC.rf hEl1)⟩
            · --f
              refine w_al dX8_waitsOf_26 rfl ?_
              refine w_il dX8_waitsOf_27 rfl ?_
              refine w_il dX8_waitsOf_29 rfl ?_
              refine w_cVf dX8_waitsOf_31 (vl_X8_157 _ rfl) sh47 (by decide) (c_X8_doorAt ρl1 σ k e hDl1 (by omega) (by omega)) rfl rfl (Nat.le_of_ble_eq_true rfl) ?_
              refine w_il dX8_waitsOf_34 rfl ?_
              refine w_iceqN dX8_waitsOf_35 (by omega) (by omega) (fun h35 => ?_) (fun h35 => ?_)
              · --t
                have eW : wF σ x a k = e := by rw [← hf, fnT_s (d := e) (by omega), wl_t (Or.inl h35)]; rfl
                refine w_il dX8_waitsOf_61 rfl ?_
                refine w_k dX8_waitsOf_63 ?_
                refine w_icneN dX8_waitsOf_65 (by omega) (by omega) (fun h65 => ?_) (fun h65 => ?_)
                · --t
                  refine w_il dX8_waitsOf_70 rfl ?_
                  refine w_il dX8_waitsOf_72 rfl ?_
                  refine w_isubN dX8_waitsOf_73 (by omega) ?_
                  refine w_il dX8_waitsOf_74 rfl ?_
                  refine w_icleN dX8_waitsOf_75 (by omega) (by omega) (fun h75 => ?_) (fun h75 => ?_)
                  · --t
                    refine w_il dX8_waitsOf_85 rfl ?_
                    refine w_is (ls2 := [some (.ref 47), some (.int (nI x)), some (.int (nI a)), some (.int (nI (wM σ x a k))), some (.int (nI k)), some (.int (nI e))]) dX8_waitsOf_86 rfl ?_
                    refine w_iincN (ls2 := [some (.ref 47), some (.int (nI x)), some (.int (nI a)), some (.int (nI (wM σ x a k))), some (.int (nI (k + 1))), some (.int (nI e))]) dX8_waitsOf_87 rfl rfl ?_
                    refine w_goto dX8_waitsOf_90 ?_
                    refine w_weak (ls2 := [some (.ref 47), some (.int (nI x)), some (.int (nI a)), some (.int (nI (wM σ x a k))), some (.int (nI (k + 1))), none]) ⟨rfl, ⟨rfl, ⟨rfl, ⟨rfl, ⟨rfl, trivial⟩⟩⟩⟩⟩ ?_
                    rw [show wM σ x a k = wM σ x a (k + 1) from by show _ = max (wM σ x a k) (wF σ x a k - a); omega]
                    exact ih9 (k + 1) (by omega) (wAll_s hA (by omega)) (by omega)
                  · --f
                    refine w_il dX8_waitsOf_78 rfl ?_
                    refine w_il dX8_waitsOf_80 rfl ?_
                    refine w_isubN dX8_waitsOf_81 (by omega) ?_
                    refine w_goto dX8_waitsOf_82 ?_
                    refine w_is (ls2 := [some (.ref 47), some (.int (nI x)), some (.int (nI a)), some (.int (nI (e - a))), some (.int (nI k)), some (.int (nI e))]) dX8_waitsOf_86 rfl ?_
                    refine w_iincN (ls2 := [some (.ref 47), some (.int (nI x)), some (.int (nI a)), some (.int (nI (e - a))), some (.int (nI (k + 1))), some (.int (nI e))]) dX8_waitsOf_87 rfl rfl ?_
                    refine w_goto dX8_waitsOf_90 ?_
                    refine w_weak (ls2 := [some (.ref 47), some (.int (nI x)), some (.int (nI a)), some (.int (nI (e - a))), some (.int (nI (k + 1))), none]) ⟨rfl, ⟨rfl, ⟨rfl, ⟨rfl, ⟨rfl, trivial⟩⟩⟩⟩⟩ ?_
                    rw [show e - a = wM σ x a (k + 1) from by show _ = max (wM σ x a k) (wF σ x a k - a); omega]
                    exact ih9 (k + 1) (by omega) (wAll_s hA (by omega)) (by omega)
                · --f
                  refine w_k dX8_waitsOf_68 ?_
                  refine w_iret dX8_waitsOf_69 rfl ?_
                  rw [← hQ]
                  exact ⟨_, rfl, by rw [v_wait_n (k := k) (by omega) (by omega)], hMl1, (EqC.tr EqC.rf hEl1)⟩
              · --f
                refine w_al dX8_waitsOf_38 rfl ?_
                refine w_gr dX8_waitsOf_39 fl_X8_13 sh47 rfl ?_
                refine w_al dX8_waitsOf_42 rfl ?_
                refine w_il dX8_waitsOf_43 rfl ?_
                refine w_il dX8_waitsOf_45 rfl ?_
                refine w_cVf dX8_waitsOf_47 (vl_X8_157 _ rfl) sh47 (by decide) (c_X8_doorAt ρl1 σ k e hDl1 (by omega) (by omega)) rfl rfl (Nat.le_of_ble_eq_true rfl) ?_
                refine w_ialdV (v := (nI (Th σ (dr σ k e)))) dX8_waitsOf_50 sh49 (by omega) (hDl1.1.1 _ (by omega)) ?_
                refine w_k dX8_waitsOf_51 ?_
                refine w_iceqN dX8_waitsOf_52 (by omega) (by omega) (fun h52 => ?_) (fun h52 => ?_)
                · --t
                  have eW : wF σ x a k = e := by rw [← hf, fnT_s (d := e) (by omega), wl_t (Or.inr h52)]; rfl
                  refine w_il dX8_waitsOf_61 rfl ?_
                  refine w_k dX8_waitsOf_63 ?_
                  refine w_icneN dX8_waitsOf_65 (by omega) (by omega) (fun h65 => ?_) (fun h65 => ?_)
                  · --t
                    refine w_il dX8_waitsOf_70 rfl ?_
                    refine w_il dX8_waitsOf_72 rfl ?_
                    refine w_isubN dX8_waitsOf_73 (by omega) ?_
                    refine w_il dX8_waitsOf_74 rfl ?_
                    refine w_icleN dX8_waitsOf_75 (by omega) (by omega) (fun h75 => ?_) (fun h75 => ?_)
                    · --t
                      refine w_il dX8_waitsOf_85 rfl ?_
                      refine w_is (ls2 := [some (.ref 47), some (.int (nI x)), some (.int (nI a)), some (.int (nI (wM σ x a k))), some (.int (nI k)), some (.int (nI e))]) dX8_waitsOf_86 rfl ?_
                      refine w_iincN (ls2 := [some (.ref 47), some (.int (nI x)), some (.int (nI a)), some (.int (nI (wM σ x a k))), some (.int (nI (k + 1))), some (.int (nI e))]) dX8_waitsOf_87 rfl rfl ?_
                      refine w_goto dX8_waitsOf_90 ?_
                      refine w_weak (ls2 := [some (.ref 47), some (.int (nI x)), some (.int (nI a)), some (.int (nI (wM σ x a k))), some (.int (nI (k + 1))), none]) ⟨rfl, ⟨rfl, ⟨rfl, ⟨rfl, ⟨rfl, trivial⟩⟩⟩⟩⟩ ?_
                      rw [show wM σ x a k = wM σ x a (k + 1) from by show _ = max (wM σ x a k) (wF σ x a k - a); omega]
                      exact ih9 (k + 1) (by omega) (wAll_s hA (by omega)) (by omega)
                    · --f
                      refine w_il dX8_waitsOf_78 rfl ?_
                      refine w_il dX8_waitsOf_80 rfl ?_
                      refine w_isubN dX8_waitsOf_81 (by omega) ?_
                      refine w_goto dX8_waitsOf_82 ?_
                      refine w_is (ls2 := [some (.ref 47), some (.int (nI x)), some (.int (nI a)), some (.int (nI (e - a))), some (.int (nI k)), some (.int (nI e))]) dX8_waitsOf_86 rfl ?_
                      refine w_iincN (ls2 := [some (.ref 47), some (.int (nI x)), some (.int (nI a)), some (.int (nI (e - a))), some (.int (nI (k + 1))), some (.int (nI e))]) dX8_waitsOf_87 rfl rfl ?_
                      refine w_goto dX8_waitsOf_90 ?_
                      refine w_weak (ls2 := [some (.ref 47), some (.int (nI x)), some (.int (nI a)), some (.int (nI (e - a))), some (.int (nI (k + 1))), none]) ⟨rfl, ⟨rfl, ⟨rfl, ⟨rfl, ⟨rfl, trivial⟩⟩⟩⟩⟩ ?_
                      rw [show e - a = wM σ x a (k + 1) from by show _ = max (wM σ x a k) (wF σ x a k - a); omega]
                      exact ih9 (k + 1) (by omega) (wAll_s hA (by omega)) (by omega)
                  · --f
                    refine w_k dX8_waitsOf_68 ?_
                    refine w_iret dX8_waitsOf_69 rfl ?_
                    rw [← hQ]
                    exact ⟨_, rfl, by rw [v_wait_n (k := k) (by omega) (by omega)], hMl1, (EqC.tr EqC.rf hEl1)⟩
                · --f
                  refine w_iincN (ls2 := [some (.ref 47), some (.int (nI x)), some (.int (nI a)), some (.int (nI (wM σ x a k))), some (.int (nI k)), some (.int (nI (e + 1)))]) dX8_waitsOf_55 rfl rfl ?_
                  refine w_goto dX8_waitsOf_58 ?_
                  exact ih19 (e + 1) (by omega) (by omega) (by rw [← hf, fnT_s (d := e) (by omega), wl_f (fun q => q.elim h35 h52)]; rfl) (by omega)
        exact L19 _ a (by omega) (by omega) (rfl) (Nat.lt_succ_self _)
  exact L9 _ 0 (by omega) (fun r hr => absurd hr (Nat.not_lt_zero _)) (Nat.lt_succ_self _)

set_option maxHeartbeats 4000000 in
theorem c_X8_waits (ρ : Rho) (σ : Sg) (p : Int32) (d : Int32) (hM : MInv σ ρ) : CallOK 6 mX8_waits [.ref 47, .int p, .int d] ρ (fun r ρ2 => ∃ v, r = some v ∧ (v = .int (r_waits σ p d) ∧ MInv (σ) ρ2 ∧ EqC ρ ρ2)) := by
  refine callOK_of 0 (by decide +kernel) rfl (fun _ => Nat.le_of_ble_eq_true rfl) (ls := [some (.ref 47), some (.int p), some (.int d)]) rfl ?_
  generalize hQ : (fun r ρ2 => ∃ v, r = some v ∧ (v = .int (r_waits σ p d) ∧ MInv (σ) ρ2 ∧ EqC ρ ρ2) : Option Value → Rho → Prop) = Q
  refine w_il dX8_waits_0 rfl ?_
  refine w_cSf dX8_waits_1 (sl_X8_118 _ rfl) (by decide) (c_X8_isEighth ρ p) rfl rfl (Nat.le_of_ble_eq_true rfl) ?_
  refine w_ifeqB dX8_waits_4 (fun h4 => ?_) (fun h4 => ?_)
  · --t
    refine w_k dX8_waits_23 ?_
    refine w_iret dX8_waits_25 rfl ?_
    rw [← hQ]
    exact ⟨_, rfl, by rw [r_waits, if_neg (fun z => h4 z.1)], hM, EqC.rf⟩
  · --f
    obtain ⟨x, hx, rfl⟩ := inR_nI h4 (by decide)
    refine w_il dX8_waits_7 rfl ?_
    refine w_cSf dX8_waits_8 (sl_X8_148 _ rfl) (by decide) (c_X8_isDay ρ d) rfl rfl (Nat.le_of_ble_eq_true rfl) ?_
    refine w_ifeqB dX8_waits_11 (fun h11 => ?_) (fun h11 => ?_)
    · --t
      refine w_k dX8_waits_23 ?_
      refine w_iret dX8_waits_25 rfl ?_
      rw [← hQ]
      exact ⟨_, rfl, by rw [r_waits, if_neg (fun z => h11 z.2)], hM, EqC.rf⟩
    · --f
      obtain ⟨a, ha, rfl⟩ := inR_nI h11 (by decide)
      refine w_al dX8_waits_14 rfl ?_
      refine w_il dX8_waits_15 rfl ?_
      refine w_il dX8_waits_16 rfl ?_
      refine w_cVr dX8_waits_17 (vl_X8_228 _ rfl) sh47 (by decide) (c_X8_waitsOf ρ σ x a hM (by omega) (by omega)) rfl rfl (Nat.le_of_ble_eq_true rfl) (fun vh1 ρh1 hh1 => ?_)
      obtain ⟨rfl, hMh1, hEh1⟩ := hh1
      refine w_goto dX8_waits_20 ?_
      refine w_iret dX8_waits_25 rfl ?_
      rw [← hQ]
      exact ⟨_, rfl, by rw [r_waits, if_pos ⟨h4, h11⟩, nv_nI (a := x) (by omega), nv_nI (a := a) (by omega)], hMh1, (EqC.tr EqC.rf hEh1)⟩

set_option maxHeartbeats 4000000 in
theorem c_X8_digOf (ρ : Rho) (σ : Sg) (a : Nat) (m : Nat) (hM : MInv σ ρ) (ha : a < 100) (hm : m < 100) : CallOK 6 mX8_digOf [.ref 47, .int (nI a), .int (nI m)] ρ (fun r ρ2 => ∃ v, r = some v ∧ (v = .int ((dgS σ a m 8).1) ∧ MInv σ ρ2 ∧ EqC ρ ρ2)) := by
  refine callOK_of 5 (by decide +kernel) rfl (fun _ => Nat.le_of_ble_eq_true rfl) (ls := [some (.ref 47), some (.int (nI a)), some (.int (nI m)), none, none, none, none, none]) rfl ?_
  generalize hQ : (fun r ρ2 => ∃ v, r = some v ∧ (v = .int ((dgS σ a m 8).1) ∧ MInv σ ρ2 ∧ EqC ρ ρ2) : Option Value → Rho → Prop) = Q
  refine w_k dX8_digOf_0 ?_
  refine w_is (ls2 := [some (.ref 47), some (.int (nI a)), some (.int (nI m)), some (.int (-1)), none, none, none, none]) dX8_digOf_1 rfl ?_
  refine w_il dX8_digOf_2 rfl ?_
  refine w_k dX8_digOf_3 ?_
  refine w_iaddN dX8_digOf_4 ?_
  refine w_is (ls2 := [some (.ref 47), some (.int (nI a)), some (.int (nI m)), some (.int (-1)), some (.int (nI (m + 1))), none, none, none]) dX8_digOf_5 rfl ?_
  refine w_k dX8_digOf_7 ?_
  refine w_is (ls2 := [some (.ref 47), some (.int (nI a)), some (.int (nI m)), some (.int (-1)), some (.int (nI (m + 1))), some (.int (nI 0)), none, none]) dX8_digOf_8 rfl ?_
  have L10 : ∀ (n10 : Nat) (k : Nat) (ρ1 : Rho), (k ≤ 8) → (MInv σ ρ1) → (EqC ρ ρ1) → (8 - k) < n10 → MW mX8_digOf 6 10 [some (.ref 47), some (.int (nI a)), some (.int (nI m)), some (.int ((dgS σ a m k).1)), some (.int (nI ((dgS σ a m k).2))), some (.int (nI k)), none, none] [] ρ1 Q := by
    intro n10
    induction n10 with
    | zero =>
      intro k ρ1 hk hM1 hE1 hm10
      exact absurd hm10 (Nat.not_lt_zero _)
    | succ n10 ih10 =>
      intro k ρ1 hk hM1 hE1 hm10
      have w4 := dgS_le σ a m k
      have w5 := wM_le σ k a (by omega) 8
      refine w_il dX8_digOf_10 rfl ?_
      refine w_k dX8_digOf_12 ?_
      refine w_icgeN dX8_digOf_14 (by omega) (by omega) (fun h14 => ?_) (fun h14 => ?_)
      · --t
        refine w_il dX8_digOf_78 rfl ?_
        refine w_iret dX8_digOf_79 rfl ?_
        rw [← hQ]
        exact ⟨_, rfl, by rw [show k = 8 by omega], hM1, hE1⟩
      · --f
        refine w_al dX8_digOf_17 rfl ?_
        refine w_il dX8_digOf_18 rfl ?_
        refine w_il dX8_digOf_20 rfl ?_
        refine w_cVr dX8_digOf_21 (vl_X8_228 _ rfl) sh47 (by decide) (c_X8_waitsOf ρ1 σ k a hM1 (by omega) (by omega)) rfl rfl (Nat.le_of_ble_eq_true rfl) (fun vh1 ρh1 hh1 => ?_)
        obtain ⟨rfl, hMh1, hEh1⟩ := hh1
        refine w_is (ls2 := [some (.ref 47), some (.int (nI a)), some (.int (nI m)), some (.int ((dgS σ a m k).1)), some (.int (nI ((dgS σ a m k).2))), some (.int (nI k)), some (.int (v_wait σ k a)), none]) dX8_digOf_24 rfl ?_
        refine w_il dX8_digOf_26 rfl ?_
        refine w_k dX8_digOf_28 ?_
        refine w_iceq dX8_digOf_29 (fun h29 => ?_) (fun h29 => ?_)
        · --t
          refine w_k dX8_digOf_43 ?_
          refine w_is (ls2 := [some (.ref 47), some (.int (nI a)), some (.int (nI m)), some (.int ((dgS σ a m k).1)), some (.int (nI ((dgS σ a m k).2))), some (.int (nI k)), some (.int (v_wait σ k a)), some (.int (nI 0))]) dX8_digOf_44 rfl ?_
          refine w_il dX8_digOf_46 rfl ?_
          refine w_ifeqN dX8_digOf_48 (by omega) (fun h48 => ?_) (fun h48 => ?_)
          · --t
            refine w_il dX8_digOf_56 rfl ?_
            refine w_is (ls2 := [some (.ref 47), some (.int (nI a)), some (.int (nI m)), some (.int ((dgS σ a m k).1)), some (.int (nI ((dgS σ a m k).2))), some (.int (nI k)), some (.int (v_wait σ k a)), some (.int (nI 0))]) dX8_digOf_57 rfl ?_
            refine w_il dX8_digOf_58 rfl ?_
            refine w_ifeqN dX8_digOf_60 (by omega) (fun h60 => ?_) (fun h60 => ?_)
            · --t
              refine w_il dX8_digOf_68 rfl ?_
              refine w_is (ls2 := [some (.ref 47), some (.int (nI a)), some (.int (nI m)), some (.int ((dgS σ a m k).1)), some (.int (nI ((dgS σ a m k).2))), some (.int (nI k)), some (.int (v_wait σ k a)), some (.int (nI 0))]) dX8_digOf_70 rfl ?_
              refine w_iincN (ls2 := [some (.ref 47), some (.int (nI a)), some (.int (nI m)), some (.int ((dgS σ a m k).1)), some (.int (nI ((dgS σ a m k).2))), some (.int (nI (k + 1))), some (.int (v_wait σ k a)), some (.int (nI 0))]) dX8_digOf_72 rfl rfl ?_
              refine w_goto dX8_digOf_75 ?_
              refine w_weak (ls2 := [some (.ref 47), some (.int (nI a)), some (.int (nI m)), some (.int ((dgS σ a m k).1)), some (.int (nI ((dgS σ a m k).2))), some (.int (nI (k + 1))), none, none]) ⟨rfl, ⟨rfl, ⟨rfl, ⟨rfl, ⟨rfl, ⟨rfl, trivial⟩⟩⟩⟩⟩⟩ ?_
              rw [← dg_n (m := m) (fun q => v_wait_m (by omega) h29 q.1)]
              exact ih10 (k + 1) ρh1 (by omega) (hMh1) ((EqC.tr hE1 hEh1)) (by omega)
            · --f
              exact absurd rfl h60
          · --f
            exact absurd rfl h48
        · --f
          have hy := v_wait_ne (by omega) h29
          rw [hy.2]
          refine w_il dX8_digOf_32 rfl ?_
          refine w_il dX8_digOf_34 rfl ?_
          refine w_icgeN dX8_digOf_36 (by omega) (by omega) (fun h36 => ?_) (fun h36 => ?_)
          · --t
            refine w_k dX8_digOf_43 ?_
            refine w_is (ls2 := [some (.ref 47), some (.int (nI a)), some (.int (nI m)), some (.int ((dgS σ a m k).1)), some (.int (nI ((dgS σ a m k).2))), some (.int (nI k)), some (.int (nI (wM σ k a 8))), some (.int (nI 0))]) dX8_digOf_44 rfl ?_
            refine w_il dX8_digOf_46 rfl ?_
            refine w_ifeqN dX8_digOf_48 (by omega) (fun h48 => ?_) (fun h48 => ?_)
            · --t
              refine w_il dX8_digOf_56 rfl ?_
              refine w_is (ls2 := [some (.ref 47), some (.int (nI a)), some (.int (nI m)), some (.int ((dgS σ a m k).1)), some (.int (nI ((dgS σ a m k).2))), some (.int (nI k)), some (.int (nI (wM σ k a 8))), some (.int (nI 0))]) dX8_digOf_57 rfl ?_
              refine w_il dX8_digOf_58 rfl ?_
              refine w_ifeqN dX8_digOf_60 (by omega) (fun h60 => ?_) (fun h60 => ?_)
              · --t
                refine w_il dX8_digOf_68 rfl ?_
                refine w_is (ls2 := [some (.ref 47), some (.int (nI a)), some (.int (nI m)), some (.int ((dgS σ a m k).1)), some (.int (nI ((dgS σ a m k).2))), some (.int (nI k)), some (.int (nI (wM σ k a 8))), some (.int (nI 0))]) dX8_digOf_70 rfl ?_
                refine w_iincN (ls2 := [some (.ref 47), some (.int (nI a)), some (.int (nI m)), some (.int ((dgS σ a m k).1)), some (.int (nI ((dgS σ a m k).2))), some (.int (nI (k + 1))), some (.int (nI (wM σ k a 8))), some (.int (nI 0))]) dX8_digOf_72 rfl rfl ?_
                refine w_goto dX8_digOf_75 ?_
                refine w_weak (ls2 := [some (.ref 47), some (.int (nI a)), some (.int (nI m)), some (.int ((dgS σ a m k).1)), some (.int (nI ((dgS σ a m k).2))), some (.int (nI (k + 1))), none, none]) ⟨rfl, ⟨rfl, ⟨rfl, ⟨rfl, ⟨rfl, ⟨rfl, trivial⟩⟩⟩⟩⟩⟩ ?_
                rw [← dg_n (m := m) (fun q => absurd q.2 (by omega))]
                exact ih10 (k + 1) ρh1 (by omega) (hMh1) ((EqC.tr hE1 hEh1)) (by omega)
              · --f
                exact absurd rfl h60
            · --f
              exact absurd rfl h48
          · --f
            refine w_k dX8_digOf_39 ?_
            refine w_goto dX8_digOf_40 ?_
            refine w_is (ls2 := [some (.ref 47), some (.int (nI a)), some (.int (nI m)), some (.int ((dgS σ a m k).1)), some (.int (nI ((dgS σ a m k).2))), some (.int (nI k)), some (.int (nI (wM σ k a 8))), some (.int (nI 1))]) dX8_digOf_44 rfl ?_
            refine w_il dX8_digOf_46 rfl ?_
            refine w_ifeqN dX8_digOf_48 (by omega) (fun h48 => ?_) (fun h48 => ?_)
            · --t
              exact absurd h48 (by decide)
            · --f
              refine w_il dX8_digOf_51 rfl ?_
              refine w_goto dX8_digOf_53 ?_
              refine w_is (ls2 := [some (.ref 47), some (.int (nI a)), some (.int (nI m)), some (.int (nI k)), some (.int (nI ((dgS σ a m k).2))), some (.int (nI k)), some (.int (nI (wM σ k a 8))), some (.int (nI 1))]) dX8_digOf_57 rfl ?_
              refine w_il dX8_digOf_58 rfl ?_
              refine w_ifeqN dX8_digOf_60 (by omega) (fun h60 => ?_) (fun h60 => ?_)
              · --t
                exact absurd h60 (by decide)
              · --f
                refine w_il dX8_digOf_63 rfl ?_
                refine w_goto dX8_digOf_65 ?_
                refine w_is (ls2 := [some (.ref 47), some (.int (nI a)), some (.int (nI m)), some (.int (nI k)), some (.int (nI (wM σ k a 8))), some (.int (nI k)), some (.int (nI (wM σ k a 8))), some (.int (nI 1))]) dX8_digOf_70 rfl ?_
                refine w_iincN (ls2 := [some (.ref 47), some (.int (nI a)), some (.int (nI m)), some (.int (nI k)), some (.int (nI (wM σ k a 8))), some (.int (nI (k + 1))), some (.int (nI (wM σ k a 8))), some (.int (nI 1))]) dX8_digOf_72 rfl rfl ?_
                refine w_goto dX8_digOf_75 ?_
                refine w_weak (ls2 := [some (.ref 47), some (.int (nI a)), some (.int (nI m)), some (.int (nI k)), some (.int (nI (wM σ k a 8))), some (.int (nI (k + 1))), none, none]) ⟨rfl, ⟨rfl, ⟨rfl, ⟨rfl, ⟨rfl, ⟨rfl, trivial⟩⟩⟩⟩⟩⟩ ?_
                rw [(dgc (m := m) hy.1 h36).1, (dgc (m := m) hy.1 h36).2]
                exact ih10 (k + 1) ρh1 (by omega) (hMh1) ((EqC.tr hE1 hEh1)) (by omega)
  exact L10 _ 0 ρ (by omega) (hM) (EqC.rf) (Nat.lt_succ_self _)

set_option maxHeartbeats 4000000 in
theorem c_X8_dig (ρ : Rho) (σ : Sg) (d : Int32) (u : Int32) (hM : MInv σ ρ) : CallOK 7 mX8_dig [.ref 47, .int d, .int u] ρ (fun r ρ2 => ∃ v, r = some v ∧ (v = .int (r_dig σ d u) ∧ MInv (σ) ρ2 ∧ EqC ρ ρ2)) := by
  refine callOK_of 0 (by decide +kernel) rfl (fun _ => Nat.le_of_ble_eq_true rfl) (ls := [some (.ref 47), some (.int d), some (.int u)]) rfl ?_
  generalize hQ : (fun r ρ2 => ∃ v, r = some v ∧ (v = .int (r_dig σ d u) ∧ MInv (σ) ρ2 ∧ EqC ρ ρ2) : Option Value → Rho → Prop) = Q
  refine w_il dX8_dig_0 rfl ?_
  refine w_cSf dX8_dig_1 (sl_X8_148 _ rfl) (by decide) (c_X8_isDay ρ d) rfl rfl (Nat.le_of_ble_eq_true rfl) ?_
  refine w_ifeqB dX8_dig_4 (fun h4 => ?_) (fun h4 => ?_)
  · --t
    refine w_k dX8_dig_26 ?_
    refine w_iret dX8_dig_28 rfl ?_
    rw [← hQ]
    exact ⟨_, rfl, by rw [r_dig, if_neg (fun z => h4 z.1)], hM, EqC.rf⟩
  · --f
    obtain ⟨a, ha, rfl⟩ := inR_nI h4 (by decide)
    refine w_il dX8_dig_7 rfl ?_
    refine w_k dX8_dig_8 ?_
    refine w_k dX8_dig_9 ?_
    refine w_cSf dX8_dig_11 (sl_X8_89 _ rfl) (by decide) (c_X8_in ρ u (nI 0) (nI 99)) rfl rfl (Nat.le_of_ble_eq_true rfl) ?_
    refine w_ifeqB dX8_dig_14 (fun h14 => ?_) (fun h14 => ?_)
    · --t
      refine w_k dX8_dig_26 ?_
      refine w_iret dX8_dig_28 rfl ?_
      rw [← hQ]
      exact ⟨_, rfl, by rw [r_dig, if_neg (fun z => h14 z.2)], hM, EqC.rf⟩
    · --f
      obtain ⟨m, hm, rfl⟩ := inR_nI h14 (by decide)
      refine w_al dX8_dig_17 rfl ?_
      refine w_il dX8_dig_18 rfl ?_
      refine w_il dX8_dig_19 rfl ?_
      refine w_cVr dX8_dig_20 (vl_X8_231 _ rfl) sh47 (by decide) (c_X8_digOf ρ σ a m hM (by omega) (by omega)) rfl rfl (Nat.le_of_ble_eq_true rfl) (fun vh1 ρh1 hh1 => ?_)
      obtain ⟨rfl, hMh1, hEh1⟩ := hh1
      refine w_goto dX8_dig_23 ?_
      refine w_iret dX8_dig_28 rfl ?_
      rw [← hQ]
      exact ⟨_, rfl, by rw [r_dig, if_pos ⟨h4, h14⟩, nv_nI (a := a) (by omega), nv_nI (a := m) (by omega)], hMh1, (EqC.tr EqC.rf hEh1)⟩
