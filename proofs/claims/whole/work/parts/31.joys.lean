/-! JOY of all TENANTS in all ROWS -/
def HJ (c : Nat) (σ : Sg) (a n : Nat) (ρ : Rho) : Prop := ∀ t q, t < 8 → q < 8 → ρ.1 c (t * 8 + q) = nI (jyN σ t q a n)
theorem HJ.at2 {c : Nat} {σ : Sg} {a n : Nat} {ρ : Rho} (h : HJ c σ a n ρ) (t q : Nat) (ht : t < 8) (hq : q < 8) : ρ.1 c (8 * t + q) = nI (jyN σ t q a n) := by rw [Nat.mul_comm 8 t]; exact h t q ht hq
theorem HJ.fr {c : Nat} {σ : Sg} {a n : Nat} {S : List Nat} {ρ ρ2 : Rho} (h : HJ c σ a n ρ) (f : Fr S ρ ρ2) (hc : c ∉ S) : HJ c σ a n ρ2 := fun t q ht hq => by rw [(f c hc).1]; exact h t q ht hq
theorem jyN_b {σ : Sg} (h : Wf σ) (t q a n : Nat) (hn : n ≤ 100) : jyN σ t q a n ≤ 900 := Nat.le_trans (jyN_le h t q a n) (by omega)
def mxJ (σ : Sg) (t a n : Nat) : Nat → Nat
  | 0 => 0
  | k + 1 => max (mxJ σ t a n k) (jyN σ t k a n)
theorem mxJ_le {σ : Sg} (h : Wf σ) (t a n : Nat) (hn : n ≤ 100) : ∀ k, mxJ σ t a n k ≤ 900
  | 0 => Nat.zero_le _
  | k + 1 => by
    have h1 := mxJ_le h t a n hn k
    have h2 := jyN_b h t k a n hn
    unfold mxJ
    omega
def envC (σ : Sg) (a n : Nat) : Nat → Nat
  | 0 => 0
  | t + 1 => envC σ a n t + if jyN σ t (σ.1 63 t) a n < mxJ σ t a n 8 then 1 else 0
theorem envC_y {σ : Sg} {a n t : Nat} (h : jyN σ t (σ.1 63 t) a n < mxJ σ t a n 8) : envC σ a n (t + 1) = envC σ a n t + 1 := by rw [envC, if_pos h]
theorem envC_n {σ : Sg} {a n t : Nat} (h : ¬ jyN σ t (σ.1 63 t) a n < mxJ σ t a n 8) : envC σ a n (t + 1) = envC σ a n t := by rw [envC, if_neg h]; rfl
theorem envC_le (σ : Sg) (a n : Nat) : ∀ t, envC σ a n t ≤ t
  | 0 => Nat.le_refl _
  | t + 1 => by
    have := envC_le σ a n t
    unfold envC
    split <;> omega
theorem mx_y {σ : Sg} {t a n k L : Nat} (h : L < mxJ σ t a n k) : L < mxJ σ t a n (k + 1) := by unfold mxJ; omega
theorem mx_j {σ : Sg} {t a n k L : Nat} (h : L < jyN σ t k a n) : L < mxJ σ t a n (k + 1) := by unfold mxJ; omega
theorem mx_n {σ : Sg} {t a n k L : Nat} (h : ¬ L < mxJ σ t a n k) (h2 : jyN σ t k a n ≤ L) : ¬ L < mxJ σ t a n (k + 1) := by unfold mxJ; omega
def r_envy (σ : Sg) (f t : Int32) : Int32 := if spn f t then nI (envC σ (nv f) (nv t + 1 - nv f) 8) else -2
theorem joyrow {σ : Sg} {a n t q c : Nat} {ρ : Rho} (hq : 8 ≤ q) (h2 : ∀ u v, u < t → v < 8 → ρ.1 c (u * 8 + v) = nI (jyN σ u v a n)) (h3 : ∀ v, v < q → ρ.1 c (t * 8 + v) = nI (jyN σ t v a n)) : ∀ u v, u < t + 1 → v < 8 → ρ.1 c (u * 8 + v) = nI (jyN σ u v a n) := fun u v hu hv => by
  by_cases e : u = t
  · subst e; exact h3 v (by omega)
  · exact h2 u v (by omega) hv
set_option maxHeartbeats 4000000 in
theorem c_X5_reckonJoys (ρ : Rho) (σ : Sg) (a n : Nat) (hP : CP σ ρ) (hL : CLd σ ρ) (h16 : ∀ t, t < 8 → ρ.1 16 t = nI (tal σ a n t)) (hn : n ≤ 100) : CallOK 1 mX5_reckonJoys [.ref 26, .ref 1, .ref 16] ρ (fun r ρ2 => r = none ∧ (Fr [29] ρ ρ2 ∧ HJ 29 σ a n ρ2)) := by
  refine callOK_of 2 (by decide +kernel) rfl (fun _ => Nat.le_of_ble_eq_true rfl) (ls := [some (.ref 26), some (.ref 1), some (.ref 16), none, none]) rfl ?_
  generalize hQ : (fun r ρ2 => r = none ∧ (Fr [29] ρ ρ2 ∧ HJ 29 σ a n ρ2) : Option Value → Rho → Prop) = Q
  refine w_k dX5_reckonJoys_0 ?_
  refine w_is (ls2 := [some (.ref 26), some (.ref 1), some (.ref 16), some (.int (nI 0)), none]) dX5_reckonJoys_1 rfl ?_
  have L2 : ∀ (n2 : Nat) (t : Nat) (ρ1 : Rho), (t ≤ 8) → (Fr [29] ρ ρ1) → (∀ u q, u < t → q < 8 → ρ1.1 29 (u * 8 + q) = nI (jyN σ u q a n)) → (8 - t) < n2 → MW mX5_reckonJoys 1 2 [some (.ref 26), some (.ref 1), some (.ref 16), some (.int (nI t)), none] [] ρ1 Q := by
    intro n2
    induction n2 with
    | zero =>
      intro t ρ1 ht hF1 h1 hm2
      exact absurd hm2 (Nat.not_lt_zero _)
    | succ n2 ih2 =>
      intro t ρ1 ht hF1 h1 hm2
      refine w_il dX5_reckonJoys_2 rfl ?_
      refine w_k dX5_reckonJoys_3 ?_
      refine w_icgeN dX5_reckonJoys_5 (by omega) (by omega) (fun h5 => ?_) (fun h5 => ?_)
      · --t
        refine w_ret dX5_reckonJoys_51 rfl ?_
        rw [← hQ]
        obtain rfl : t = 8 := by omega
        exact ⟨rfl, hF1, h1⟩
      · --f
        refine w_k dX5_reckonJoys_8 ?_
        refine w_is (ls2 := [some (.ref 26), some (.ref 1), some (.ref 16), some (.int (nI t)), some (.int (nI 0))]) dX5_reckonJoys_9 rfl ?_
        have L11 : ∀ (n11 : Nat) (q : Nat) (ρ2 : Rho), (q ≤ 8) → (Fr [29] ρ ρ2) → (∀ u v, u < t → v < 8 → ρ2.1 29 (u * 8 + v) = nI (jyN σ u v a n)) → (∀ v, v < q → ρ2.1 29 (t * 8 + v) = nI (jyN σ t v a n)) → (8 - q) < n11 → MW mX5_reckonJoys 1 11 [some (.ref 26), some (.ref 1), some (.ref 16), some (.int (nI t)), some (.int (nI q))] [] ρ2 Q := by
          intro n11
          induction n11 with
          | zero =>
            intro q ρ2 hq hF2 h2 h3 hm11
            exact absurd hm11 (Nat.not_lt_zero _)
          | succ n11 ih11 =>
            intro q ρ2 hq hF2 h2 h3 hm11
            refine w_il dX5_reckonJoys_11 rfl ?_
            refine w_k dX5_reckonJoys_13 ?_
            refine w_icgeN dX5_reckonJoys_15 (by omega) (by omega) (fun h15 => ?_) (fun h15 => ?_)
            · --t
              refine w_iincN (ls2 := [some (.ref 26), some (.ref 1), some (.ref 16), some (.int (nI (t + 1))), some (.int (nI q))]) dX5_reckonJoys_45 rfl rfl ?_
              refine w_goto dX5_reckonJoys_48 ?_
              refine w_weak (ls2 := [some (.ref 26), some (.ref 1), some (.ref 16), some (.int (nI (t + 1))), none]) ⟨rfl, ⟨rfl, ⟨rfl, ⟨rfl, trivial⟩⟩⟩⟩ ?_
              exact ih2 (t + 1) ρ2 (by omega) (hF2) (joyrow (by omega) h2 h3) (by omega)
            · --f
              refine w_al dX5_reckonJoys_18 rfl ?_
              refine w_gr dX5_reckonJoys_19 fl_X5_18 sh26 rfl ?_
              refine w_il dX5_reckonJoys_22 rfl ?_
              refine w_k dX5_reckonJoys_23 ?_
              refine w_imulN dX5_reckonJoys_25 ?_
              refine w_il dX5_reckonJoys_26 rfl ?_
              refine w_iaddN dX5_reckonJoys_28 ?_
              refine w_al dX5_reckonJoys_29 rfl ?_
              refine w_il dX5_reckonJoys_30 rfl ?_
              refine w_il dX5_reckonJoys_31 rfl ?_
              refine w_al dX5_reckonJoys_33 rfl ?_
              refine w_al dX5_reckonJoys_34 rfl ?_
              refine w_cVf dX5_reckonJoys_35 (vl_X5_32 _ rfl) sh26 (by decide) (c_X5_joyIn ρ2 σ t q a n (CP.fr hP hF2 (by decide)) (CLd.fr hL hF2 (by decide)) (fun t ht => by rw [(hF2 16 (by decide)).1]; exact h16 t ht) (by omega) (by omega) (by omega)) rfl rfl (Nat.le_of_ble_eq_true rfl) ?_
              refine w_iastN dX5_reckonJoys_38 sh29 (by omega) ?_
              refine w_iincN (ls2 := [some (.ref 26), some (.ref 1), some (.ref 16), some (.int (nI t)), some (.int (nI (q + 1)))]) dX5_reckonJoys_39 rfl rfl ?_
              refine w_goto dX5_reckonJoys_42 ?_
              exact ih11 (q + 1) (wI ρ2 29 (t * 8 + q) (nI (jyN σ t q a n))) (by omega) ((Fr.only hF2 only_wI (by decide))) (fun u v hu hv => by rw [rI_ne (by omega)]; exact h2 u v hu hv) (extB (f := fun v => nI (jyN σ t v a n)) h3 rfl) (by omega)
        exact L11 _ 0 ρ1 (by omega) (hF1) (h1) (fun v hv => absurd hv (Nat.not_lt_zero _)) (Nat.lt_succ_self _)
  exact L2 _ 0 ρ (by omega) (Fr.rf) (fun u q hu => absurd hu (Nat.not_lt_zero _)) (Nat.lt_succ_self _)

set_option maxHeartbeats 4000000 in
theorem c_X7_reckonJoys (ρ : Rho) (σ : Sg) (a b : Nat) (hC : CInv σ ρ) (hab : a ≤ b) (hb : b < 100) : CallOK 2 mX7_reckonJoys [.ref 0, .int (nI a), .int (nI b)] ρ (fun r ρ2 => r = none ∧ (Fr [16, 29] ρ ρ2 ∧ HJ 29 σ a (b + 1 - a) ρ2)) := by
  refine callOK_of 0 (by decide +kernel) rfl (fun _ => Nat.le_of_ble_eq_true rfl) (ls := [some (.ref 0), some (.int (nI a)), some (.int (nI b))]) rfl ?_
  generalize hQ : (fun r ρ2 => r = none ∧ (Fr [16, 29] ρ ρ2 ∧ HJ 29 σ a (b + 1 - a) ρ2) : Option Value → Rho → Prop) = Q
  refine w_al dX7_reckonJoys_0 rfl ?_
  refine w_gr dX7_reckonJoys_1 fl_X7_19 sh0 rfl ?_
  refine w_il dX7_reckonJoys_4 rfl ?_
  refine w_il dX7_reckonJoys_5 rfl ?_
  refine w_cVu dX7_reckonJoys_6 (vl_X7_155 _ rfl) sh10 (by decide) (c_X1_tally ρ σ a b hC.2.2 (by omega) (by omega)) rfl rfl (Nat.le_of_ble_eq_true rfl) (fun ρt ht9 => ?_)
  obtain ⟨hFt, htt⟩ := ht9
  refine w_al dX7_reckonJoys_9 rfl ?_
  refine w_gr dX7_reckonJoys_10 fl_X7_43 sh0 rfl ?_
  refine w_al dX7_reckonJoys_13 rfl ?_
  refine w_gr dX7_reckonJoys_14 fl_X7_10 sh0 rfl ?_
  refine w_al dX7_reckonJoys_17 rfl ?_
  refine w_gr dX7_reckonJoys_18 fl_X7_19 sh0 rfl ?_
  refine w_gr dX7_reckonJoys_21 fl_X7_165 sh10 rfl ?_
  refine w_cVu dX7_reckonJoys_24 (vl_X7_361 _ rfl) sh26 (by decide) (c_X5_reckonJoys ρt σ a (b + 1 - a) (CP.fr hC.1 hFt (by decide)) (CLd.fr hC.2.1 hFt (by decide)) htt (by omega)) rfl rfl (Nat.le_of_ble_eq_true rfl) (fun ρj hj9 => ?_)
  obtain ⟨hFj, hJj⟩ := hj9
  refine w_ret dX7_reckonJoys_27 rfl ?_
  rw [← hQ]
  exact ⟨rfl, Fr.tr (Fr.sub hFt (S2 := [16, 29]) (by decide)) (Fr.sub hFj (S2 := [16, 29]) (by decide)), hJj⟩

set_option maxHeartbeats 4000000 in
theorem c_X5_envious (ρ : Rho) (σ : Sg) (a n : Nat) (hP : CP σ ρ) (hJ : HJ 29 σ a n ρ) (hn : n ≤ 100) : CallOK 1 mX5_envious [.ref 26] ρ (fun r ρ2 => r = some (.int (nI (envC σ a n 8))) ∧ ρ2 = ρ) := by
  refine callOK_of 4 (by decide +kernel) rfl (fun _ => Nat.le_of_ble_eq_true rfl) (ls := [some (.ref 26), none, none, none, none]) rfl ?_
  generalize hQ : (fun r ρ2 => r = some (.int (nI (envC σ a n 8))) ∧ ρ2 = ρ : Option Value → Rho → Prop) = Q
  refine w_k dX5_envious_0 ?_
  refine w_is (ls2 := [some (.ref 26), some (.int (nI 0)), none, none, none]) dX5_envious_1 rfl ?_
  refine w_k dX5_envious_2 ?_
  refine w_is (ls2 := [some (.ref 26), some (.int (nI 0)), some (.int (nI 0)), none, none]) dX5_envious_3 rfl ?_
  have L4 : ∀ (n4 : Nat) (t : Nat), (t ≤ 8) → (8 - t) < n4 → MW mX5_envious 1 4 [some (.ref 26), some (.int (nI (envC σ a n t))), some (.int (nI t)), none, none] [] ρ Q := by
    intro n4
    induction n4 with
    | zero =>
      intro t ht hm4
      exact absurd hm4 (Nat.not_lt_zero _)
    | succ n4 ih4 =>
      intro t ht hm4
      have w1 := hP.1.lives t
      have w2 := jyN_b hP.1 t (σ.1 63 t) a n hn
      have w5 := envC_le σ a n t
      refine w_il dX5_envious_4 rfl ?_
      refine w_k dX5_envious_5 ?_
      refine w_icgeN dX5_envious_7 (by omega) (by omega) (fun h7 => ?_) (fun h7 => ?_)
      · --t
        refine w_il dX5_envious_74 rfl ?_
        refine w_iret dX5_envious_75 rfl ?_
        rw [← hQ]
        exact ⟨by rw [show t = 8 by omega], rfl⟩
      · --f
        refine w_k dX5_envious_10 ?_
        refine w_is (ls2 := [some (.ref 26), some (.int (nI (envC σ a n t))), some (.int (nI t)), some (.int (nI 0)), none]) dX5_envious_11 rfl ?_
        refine w_k dX5_envious_12 ?_
        refine w_is (ls2 := [some (.ref 26), some (.int (nI (envC σ a n t))), some (.int (nI t)), some (.int (nI 0)), some (.int (nI 0))]) dX5_envious_13 rfl ?_
        have L15 : ∀ (n15 : Nat) (k : Nat), (k ≤ 8) → (8 - k) < n15 → MW mX5_envious 1 15 [some (.ref 26), some (.int (nI (envC σ a n t))), some (.int (nI t)), some (.int (nI (mxJ σ t a n k))), some (.int (nI k))] [] ρ Q := by
          intro n15
          induction n15 with
          | zero =>
            intro k hk hm15
            exact absurd hm15 (Nat.not_lt_zero _)
          | succ n15 ih15 =>
            intro k hk hm15
            have w3 := mxJ_le hP.1 t a n hn k
            have w4 := jyN_b hP.1 t k a n hn
            refine w_il dX5_envious_15 rfl ?_
            refine w_k dX5_envious_17 ?_
            refine w_icgeN dX5_envious_19 (by omega) (by omega) (fun h19 => ?_) (fun h19 => ?_)
            · --t
              refine w_il dX5_envious_45 rfl ?_
              refine w_al dX5_envious_46 rfl ?_
              refine w_gr dX5_envious_47 fl_X5_18 sh26 rfl ?_
              refine w_il dX5_envious_50 rfl ?_
              refine w_k dX5_envious_51 ?_
              refine w_imulN dX5_envious_53 ?_
              refine w_al dX5_envious_54 rfl ?_
              refine w_gr dX5_envious_55 fl_X5_9 sh26 rfl ?_
              refine w_il dX5_envious_58 rfl ?_
              refine w_ialdV (v := (nI (σ.1 63 t))) dX5_envious_59 sh27 (by omega) (hP.2.1 (27, 63) (by decide) _) ?_
              refine w_iaddN dX5_envious_60 ?_
              refine w_ialdV (v := (nI (jyN σ t (σ.1 63 t) a n))) dX5_envious_61 sh29 (by omega) (hJ _ _ (by omega) (by omega)) ?_
              refine w_icleN dX5_envious_62 (by omega) (by omega) (fun h62 => ?_) (fun h62 => ?_)
              · --t
                refine w_iincN (ls2 := [some (.ref 26), some (.int (nI (envC σ a n t))), some (.int (nI (t + 1))), some (.int (nI (mxJ σ t a n k))), some (.int (nI k))]) dX5_envious_68 rfl rfl ?_
                refine w_goto dX5_envious_71 ?_
                refine w_weak (ls2 := [some (.ref 26), some (.int (nI (envC σ a n t))), some (.int (nI (t + 1))), none, none]) ⟨rfl, ⟨rfl, ⟨rfl, trivial⟩⟩⟩ ?_
                rw [← envC_n (t := t) (by rw [show k = 8 by omega] at h62; omega)]
                exact ih4 (t + 1) (by omega) (by omega)
              · --f
                refine w_iincN (ls2 := [some (.ref 26), some (.int (nI (envC σ a n t + 1))), some (.int (nI t)), some (.int (nI (mxJ σ t a n k))), some (.int (nI k))]) dX5_envious_65 rfl rfl ?_
                refine w_iincN (ls2 := [some (.ref 26), some (.int (nI (envC σ a n t + 1))), some (.int (nI (t + 1))), some (.int (nI (mxJ σ t a n k))), some (.int (nI k))]) dX5_envious_68 rfl rfl ?_
                refine w_goto dX5_envious_71 ?_
                refine w_weak (ls2 := [some (.ref 26), some (.int (nI (envC σ a n t + 1))), some (.int (nI (t + 1))), none, none]) ⟨rfl, ⟨rfl, ⟨rfl, trivial⟩⟩⟩ ?_
                rw [← envC_y (t := t) (by rw [show k = 8 by omega] at h62; omega)]
                exact ih4 (t + 1) (by omega) (by omega)
            · --f
              refine w_il dX5_envious_22 rfl ?_
              refine w_al dX5_envious_23 rfl ?_
              refine w_gr dX5_envious_24 fl_X5_18 sh26 rfl ?_
              refine w_il dX5_envious_27 rfl ?_
              refine w_k dX5_envious_28 ?_
              refine w_imulN dX5_envious_30 ?_
              refine w_il dX5_envious_31 rfl ?_
              refine w_iaddN dX5_envious_33 ?_
              refine w_ialdV (v := (nI (jyN σ t k a n))) dX5_envious_34 sh29 (by omega) (hJ _ _ (by omega) (by omega)) ?_
              refine w_mmaxN dX5_envious_35 (sl_X5_54 _ rfl) (by decide) (Nat.le_of_ble_eq_true rfl) (by omega) (by omega) ?_
              refine w_is (ls2 := [some (.ref 26), some (.int (nI (envC σ a n t))), some (.int (nI t)), some (.int (nI (max (mxJ σ t a n k) (jyN σ t k a n)))), some (.int (nI k))]) dX5_envious_38 rfl ?_
              refine w_iincN (ls2 := [some (.ref 26), some (.int (nI (envC σ a n t))), some (.int (nI t)), some (.int (nI (max (mxJ σ t a n k) (jyN σ t k a n)))), some (.int (nI (k + 1)))]) dX5_envious_39 rfl rfl ?_
              refine w_goto dX5_envious_42 ?_
              exact ih15 (k + 1) (by omega) (by omega)
        exact L15 _ 0 (by omega) (Nat.lt_succ_self _)
  exact L4 _ 0 (by omega) (Nat.lt_succ_self _)

set_option maxHeartbeats 4000000 in
theorem c_X7_envy (ρ : Rho) (σ : Sg) (f : Int32) (t : Int32) (hC : CInv σ ρ) : CallOK 3 mX7_envy [.ref 0, .int f, .int t] ρ (fun r ρ2 => ∃ v, r = some v ∧ (v = .int (r_envy σ f t) ∧ CInv (σ) ρ2 ∧ EqM ρ ρ2)) := by
  refine callOK_of 0 (by decide +kernel) rfl (fun _ => Nat.le_of_ble_eq_true rfl) (ls := [some (.ref 0), some (.int f), some (.int t)]) rfl ?_
  generalize hQ : (fun r ρ2 => ∃ v, r = some v ∧ (v = .int (r_envy σ f t) ∧ CInv (σ) ρ2 ∧ EqM ρ ρ2) : Option Value → Rho → Prop) = Q
  refine w_il dX7_envy_0 rfl ?_
  refine w_il dX7_envy_1 rfl ?_
  refine w_cSf dX7_envy_2 (sl_X7_150 _ rfl) (by decide) (c_X7_isSpan ρ f t) rfl rfl (Nat.le_of_ble_eq_true rfl) ?_
  refine w_ifneB dX7_envy_5 (fun h5 => ?_) (fun h5 => ?_)
  · --t
    obtain ⟨a, b, hab, hb, rfl, rfl⟩ := spn_nI h5
    refine w_al dX7_envy_11 rfl ?_
    refine w_il dX7_envy_12 rfl ?_
    refine w_il dX7_envy_13 rfl ?_
    refine w_cVu dX7_envy_14 (vl_X7_225 _ rfl) sh0 (by decide) (c_X7_reckonJoys ρ σ a b hC (by omega) (by omega)) rfl rfl (Nat.le_of_ble_eq_true rfl) (fun ρj hj9 => ?_)
    obtain ⟨hFj, hJ⟩ := hj9
    refine w_al dX7_envy_17 rfl ?_
    refine w_gr dX7_envy_18 fl_X7_43 sh0 rfl ?_
    refine w_cVf dX7_envy_21 (vl_X7_240 _ rfl) sh26 (by decide) (c_X5_envious ρj σ a (b + 1 - a) (CP.fr hC.1 hFj (by decide)) hJ (by omega)) rfl rfl (Nat.le_of_ble_eq_true rfl) ?_
    refine w_iret dX7_envy_24 rfl ?_
    rw [← hQ]
    exact ⟨_, rfl, by rw [r_envy, if_pos h5, nv_nI (a := a) (by omega), nv_nI (a := b) (by omega)], ⟨(CP.fr hC.1 hFj (by decide)), (CLd.fr hC.2.1 hFj (by decide)), (CTn.fr hC.2.2 hFj (by decide))⟩, (Fr.eqM hFj (by decide))⟩
  · --f
    refine w_k dX7_envy_8 ?_
    refine w_iret dX7_envy_10 rfl ?_
    rw [← hQ]
    exact ⟨_, rfl, by rw [r_envy, if_neg (fun z => h5 z)], ⟨hC.1, hC.2.1, hC.2.2⟩, EqM.rf⟩

set_option maxHeartbeats 4000000 in
theorem c_X8_laysJoy (ρ : Rho) (σ : Sg) (a b : Nat) (hM : MInv σ ρ) (hab : a ≤ b) (hb : b < 100) : CallOK 5 mX8_laysJoy [.ref 47, .int (nI a), .int (nI b)] ρ (fun r ρ2 => r = none ∧ (MInv σ ρ2 ∧ EqC ρ ρ2 ∧ Laid σ ρ2 ∧ HJ 64 σ a (b + 1 - a) ρ2)) := by
  refine callOK_of 4 (by decide +kernel) rfl (fun _ => Nat.le_of_ble_eq_true rfl) (ls := [some (.ref 47), some (.int (nI a)), some (.int (nI b)), none, none, none, none]) rfl ?_
  generalize hQ : (fun r ρ2 => r = none ∧ (MInv σ ρ2 ∧ EqC ρ ρ2 ∧ Laid σ ρ2 ∧ HJ 64 σ a (b + 1 - a) ρ2) : Option Value → Rho → Prop) = Q
  refine w_al dX8_laysJoy_0 rfl ?_
  refine w_cVu dX8_laysJoy_1 (vl_X8_145 _ rfl) sh47 (by decide) (c_X8_lays ρ σ hM) rfl rfl (Nat.le_of_ble_eq_true rfl) (fun ρl1 hl1 => ?_)
  obtain ⟨hMl1, hEl1, hDl1⟩ := hl1
  refine w_k dX8_laysJoy_4 ?_
  refine w_is (ls2 := [some (.ref 47), some (.int (nI a)), some (.int (nI b)), some (.int (nI 0)), none, none, none]) dX8_laysJoy_5 rfl ?_
  have L6 : ∀ (n6 : Nat) (t : Nat) (ρ1 : Rho), (t ≤ 8) → (Fr [64] ρl1 ρ1) → (∀ u q, u < t → q < 8 → ρ1.1 64 (u * 8 + q) = nI (jyN σ u q a (b + 1 - a))) → (8 - t) < n6 → MW mX8_laysJoy 5 6 [some (.ref 47), some (.int (nI a)), some (.int (nI b)), some (.int (nI t)), none, none, none] [] ρ1 Q := by
    intro n6
    induction n6 with
    | zero =>
      intro t ρ1 ht hF1 h1 hm6
      exact absurd hm6 (Nat.not_lt_zero _)
    | succ n6 ih6 =>
      intro t ρ1 ht hF1 h1 hm6
      refine w_il dX8_laysJoy_6 rfl ?_
      refine w_k dX8_laysJoy_7 ?_
      refine w_icgeN dX8_laysJoy_9 (by omega) (by omega) (fun h9 => ?_) (fun h9 => ?_)
      · --t
        refine w_ret dX8_laysJoy_93 rfl ?_
        rw [← hQ]
        obtain rfl : t = 8 := by omega
        exact ⟨rfl, (MInv.fr hMl1 hF1 (by decide)), (EqC.tr hEl1 (Fr.eqC hF1 (by decide))), (Laid.fr hDl1 hF1 (by decide)), h1⟩
      · --f
        refine w_k dX8_laysJoy_12 ?_
        refine w_is (ls2 := [some (.ref 47), some (.int (nI a)), some (.int (nI b)), some (.int (nI t)), some (.int (nI 0)), none, none]) dX8_laysJoy_13 rfl ?_
        have L15 : ∀ (n15 : Nat) (q : Nat) (ρ2 : Rho), (q ≤ 8) → (Fr [64] ρl1 ρ2) → (∀ u v, u < t → v < 8 → ρ2.1 64 (u * 8 + v) = nI (jyN σ u v a (b + 1 - a))) → (∀ v, v < q → ρ2.1 64 (t * 8 + v) = nI (jyN σ t v a (b + 1 - a))) → (8 - q) < n15 → MW mX8_laysJoy 5 15 [some (.ref 47), some (.int (nI a)), some (.int (nI b)), some (.int (nI t)), some (.int (nI q)), none, none] [] ρ2 Q := by
          intro n15
          induction n15 with
          | zero =>
            intro q ρ2 hq hF2 h2 h3 hm15
            exact absurd hm15 (Nat.not_lt_zero _)
          | succ n15 ih15 =>
            intro q ρ2 hq hF2 h2 h3 hm15
            refine w_il dX8_laysJoy_15 rfl ?_
            refine w_k dX8_laysJoy_17 ?_
            refine w_icgeN dX8_laysJoy_19 (by omega) (by omega) (fun h19 => ?_) (fun h19 => ?_)
            · --t
              refine w_iincN (ls2 := [some (.ref 47), some (.int (nI a)), some (.int (nI b)), some (.int (nI (t + 1))), some (.int (nI q)), none, none]) dX8_laysJoy_87 rfl rfl ?_
              refine w_goto dX8_laysJoy_90 ?_
              refine w_weak (ls2 := [some (.ref 47), some (.int (nI a)), some (.int (nI b)), some (.int (nI (t + 1))), none, none, none]) ⟨rfl, ⟨rfl, ⟨rfl, ⟨rfl, trivial⟩⟩⟩⟩ ?_
              exact ih6 (t + 1) ρ2 (by omega) (hF2) (joyrow (by omega) h2 h3) (by omega)
            · --f
              refine w_k dX8_laysJoy_22 ?_
              refine w_is (ls2 := [some (.ref 47), some (.int (nI a)), some (.int (nI b)), some (.int (nI t)), some (.int (nI q)), some (.int (nI 0)), none]) dX8_laysJoy_23 rfl ?_
              refine w_il dX8_laysJoy_25 rfl ?_
              refine w_is (ls2 := [some (.ref 47), some (.int (nI a)), some (.int (nI b)), some (.int (nI t)), some (.int (nI q)), some (.int (nI 0)), some (.int (nI a))]) dX8_laysJoy_26 rfl ?_
              have L28 : ∀ (n28 : Nat) (i : Nat), (i ≤ b + 1 - a) → (b + 1 - a - i) < n28 → MW mX8_laysJoy 5 28 [some (.ref 47), some (.int (nI a)), some (.int (nI b)), some (.int (nI t)), some (.int (nI q)), some (.int (nI (jyN σ t q a i))), some (.int (nI (a + i)))] [] ρ2 Q := by
                intro n28
                induction n28 with
                | zero =>
                  intro i hi hm28
                  exact absurd hm28 (Nat.not_lt_zero _)
                | succ n28 ih28 =>
                  intro i hi hm28
                  have w3 := jyN_le hM.1 t q a i
                  have w4 := dr_lt σ q (a + i)
                  have w5 := Th_le σ (dr σ q (a + i))
                  refine w_il dX8_laysJoy_28 rfl ?_
                  refine w_il dX8_laysJoy_30 rfl ?_
                  refine w_icgtN dX8_laysJoy_31 (by omega) (by omega) (fun h31 => ?_) (fun h31 => ?_)
                  · --t
                    refine w_al dX8_laysJoy_67 rfl ?_
                    refine w_gr dX8_laysJoy_68 fl_X8_59 sh47 rfl ?_
                    refine w_k dX8_laysJoy_71 ?_
                    refine w_il dX8_laysJoy_73 rfl ?_
                    refine w_imulN dX8_laysJoy_74 ?_
                    refine w_il dX8_laysJoy_75 rfl ?_
                    refine w_iaddN dX8_laysJoy_77 ?_
                    refine w_il dX8_laysJoy_78 rfl ?_
                    refine w_iastN dX8_laysJoy_80 sh64 (by omega) ?_
                    refine w_iincN (ls2 := [some (.ref 47), some (.int (nI a)), some (.int (nI b)), some (.int (nI t)), some (.int (nI (q + 1))), some (.int (nI (jyN σ t q a i))), some (.int (nI (a + i)))]) dX8_laysJoy_81 rfl rfl ?_
                    refine w_goto dX8_laysJoy_84 ?_
                    refine w_weak (ls2 := [some (.ref 47), some (.int (nI a)), some (.int (nI b)), some (.int (nI t)), some (.int (nI (q + 1))), none, none]) ⟨rfl, ⟨rfl, ⟨rfl, ⟨rfl, ⟨rfl, trivial⟩⟩⟩⟩⟩ ?_
                    exact ih15 (q + 1) (wI ρ2 64 (8 * t + q) (nI (jyN σ t q a i))) (by omega) (Fr.only hF2 only_wI (by decide)) (fun u v hu hv => by rw [rI_ne (by omega)]; exact h2 u v hu hv) (by rw [Nat.mul_comm 8 t]; exact extB (f := fun v => nI (jyN σ t v a (b + 1 - a))) h3 (by rw [show i = b + 1 - a by omega])) (by omega)
                  · --f
                    refine w_il dX8_laysJoy_34 rfl ?_
                    refine w_al dX8_laysJoy_36 rfl ?_
                    refine w_gr dX8_laysJoy_37 fl_X8_53 sh47 rfl ?_
                    refine w_k dX8_laysJoy_40 ?_
                    refine w_il dX8_laysJoy_41 rfl ?_
                    refine w_imulN dX8_laysJoy_42 ?_
                    refine w_al dX8_laysJoy_43 rfl ?_
                    refine w_gr dX8_laysJoy_44 fl_X8_13 sh47 rfl ?_
                    refine w_al dX8_laysJoy_47 rfl ?_
                    refine w_il dX8_laysJoy_48 rfl ?_
                    refine w_il dX8_laysJoy_50 rfl ?_
                    refine w_cVf dX8_laysJoy_52 (vl_X8_157 _ rfl) sh47 (by decide) (c_X8_doorAt ρ2 σ q (a + i) (Laid.fr hDl1 hF2 (by decide)) (by omega) (by omega)) rfl rfl (Nat.le_of_ble_eq_true rfl) ?_
                    refine w_ialdV (v := (nI (Th σ (dr σ q (a + i))))) dX8_laysJoy_55 sh49 (by omega) ((Laid.fr hDl1 hF2 (by decide)).1.1 _ (by omega)) ?_
                    refine w_iaddN dX8_laysJoy_56 ?_
                    refine w_ialdV (v := (nI (σ.1 62 (5 * t + (Th σ (dr σ q (a + i))))))) dX8_laysJoy_57 sh62 (by omega) ((MInv.fr hMl1 hF2 (by decide)).2.1 62 (by decide) _) ?_
                    refine w_iaddN dX8_laysJoy_58 ?_
                    refine w_is (ls2 := [some (.ref 47), some (.int (nI a)), some (.int (nI b)), some (.int (nI t)), some (.int (nI q)), some (.int (nI (jyN σ t q a i + (σ.1 62 (5 * t + (Th σ (dr σ q (a + i)))))))), some (.int (nI (a + i)))]) dX8_laysJoy_59 rfl ?_
                    refine w_iincN (ls2 := [some (.ref 47), some (.int (nI a)), some (.int (nI b)), some (.int (nI t)), some (.int (nI q)), some (.int (nI (jyN σ t q a i + (σ.1 62 (5 * t + (Th σ (dr σ q (a + i)))))))), some (.int (nI (a + i + 1)))]) dX8_laysJoy_61 rfl rfl ?_
                    refine w_goto dX8_laysJoy_64 ?_
                    exact ih28 (i + 1) (by omega) (by omega)
              exact L28 _ 0 (by omega) (Nat.lt_succ_self _)
        exact L15 _ 0 ρ1 (by omega) (hF1) (h1) (fun v hv => absurd hv (Nat.not_lt_zero _)) (Nat.lt_succ_self _)
  exact L6 _ 0 ρl1 (by omega) (Fr.rf) (fun u q hu => absurd hu (Nat.not_lt_zero _)) (Nat.lt_succ_self _)

set_option maxHeartbeats 4000000 in
theorem c_X8_joy (ρ : Rho) (σ : Sg) (p : Int32) (q : Int32) (f : Int32) (t : Int32) (hM : MInv σ ρ) : CallOK 6 mX8_joy [.ref 47, .int p, .int q, .int f, .int t] ρ (fun r ρ2 => ∃ v, r = some v ∧ (v = .int (r_joy σ p q f t) ∧ MInv (σ) ρ2 ∧ EqC ρ ρ2)) := by
  refine callOK_of 0 (by decide +kernel) rfl (fun _ => Nat.le_of_ble_eq_true rfl) (ls := [some (.ref 47), some (.int p), some (.int q), some (.int f), some (.int t)]) rfl ?_
  generalize hQ : (fun r ρ2 => ∃ v, r = some v ∧ (v = .int (r_joy σ p q f t) ∧ MInv (σ) ρ2 ∧ EqC ρ ρ2) : Option Value → Rho → Prop) = Q
  refine w_il dX8_joy_0 rfl ?_
  refine w_cSf dX8_joy_1 (sl_X8_118 _ rfl) (by decide) (c_X8_isEighth ρ p) rfl rfl (Nat.le_of_ble_eq_true rfl) ?_
  refine w_ifeqB dX8_joy_4 (fun h4 => ?_) (fun h4 => ?_)
  · --t
    refine w_k dX8_joy_23 ?_
    refine w_iret dX8_joy_25 rfl ?_
    rw [← hQ]
    exact ⟨_, rfl, by rw [r_joy, if_neg (fun z => h4 z.1)], hM, EqC.rf⟩
  · --f
    obtain ⟨x, hx, rfl⟩ := inR_nI h4 (by decide)
    refine w_il dX8_joy_7 rfl ?_
    refine w_cSf dX8_joy_8 (sl_X8_118 _ rfl) (by decide) (c_X8_isEighth ρ q) rfl rfl (Nat.le_of_ble_eq_true rfl) ?_
    refine w_ifeqB dX8_joy_11 (fun h11 => ?_) (fun h11 => ?_)
    · --t
      refine w_k dX8_joy_23 ?_
      refine w_iret dX8_joy_25 rfl ?_
      rw [← hQ]
      exact ⟨_, rfl, by rw [r_joy, if_neg (fun z => h11 z.2.1)], hM, EqC.rf⟩
    · --f
      obtain ⟨y, hy, rfl⟩ := inR_nI h11 (by decide)
      refine w_il dX8_joy_14 rfl ?_
      refine w_il dX8_joy_15 rfl ?_
      refine w_cSf dX8_joy_17 (sl_X8_166 _ rfl) (by decide) (c_X8_isSpan ρ f t) rfl rfl (Nat.le_of_ble_eq_true rfl) ?_
      refine w_ifneB dX8_joy_20 (fun h20 => ?_) (fun h20 => ?_)
      · --t
        obtain ⟨a, b, hab, hb, rfl, rfl⟩ := spn_nI h20
        refine w_al dX8_joy_26 rfl ?_
        refine w_il dX8_joy_27 rfl ?_
        refine w_il dX8_joy_28 rfl ?_
        refine w_cVu dX8_joy_30 (vl_X8_210 _ rfl) sh47 (by decide) (c_X8_laysJoy ρ σ a b hM (by omega) (by omega)) rfl rfl (Nat.le_of_ble_eq_true rfl) (fun ρq hq9 => ?_)
        obtain ⟨hMq, hEq, hDq, hJ⟩ := hq9
        refine w_al dX8_joy_33 rfl ?_
        refine w_gr dX8_joy_34 fl_X8_59 sh47 rfl ?_
        refine w_k dX8_joy_37 ?_
        refine w_il dX8_joy_39 rfl ?_
        refine w_imulN dX8_joy_40 ?_
        refine w_il dX8_joy_41 rfl ?_
        refine w_iaddN dX8_joy_42 ?_
        refine w_ialdV (v := (nI (jyN σ x y a (b + 1 - a)))) dX8_joy_43 sh64 (by omega) (hJ.at2 _ _ (by omega) (by omega)) ?_
        refine w_iret dX8_joy_44 rfl ?_
        rw [← hQ]
        exact ⟨_, rfl, by rw [r_joy, if_pos ⟨h4, h11, h20⟩, nv_nI (a := x) (by omega), nv_nI (a := y) (by omega), nv_nI (a := a) (by omega), nv_nI (a := b) (by omega)], hMq, (EqC.tr EqC.rf hEq)⟩
      · --f
        refine w_k dX8_joy_23 ?_
        refine w_iret dX8_joy_25 rfl ?_
        rw [← hQ]
        exact ⟨_, rfl, by rw [r_joy, if_neg (fun z => h20 z.2.2)], hM, EqC.rf⟩

set_option maxHeartbeats 4000000 in
theorem c_X8_envyOf (ρ : Rho) (σ : Sg) (a : Nat) (b : Nat) (hM : MInv σ ρ) (hab : a ≤ b) (hb : b < 100) : CallOK 6 mX8_envyOf [.ref 47, .int (nI a), .int (nI b)] ρ (fun r ρ2 => ∃ v, r = some v ∧ (v = .int (nI (envC σ a (b + 1 - a) 8)) ∧ MInv σ ρ2 ∧ EqC ρ ρ2)) := by
  refine callOK_of 4 (by decide +kernel) rfl (fun _ => Nat.le_of_ble_eq_true rfl) (ls := [some (.ref 47), some (.int (nI a)), some (.int (nI b)), none, none, none, none]) rfl ?_
  generalize hQ : (fun r ρ2 => ∃ v, r = some v ∧ (v = .int (nI (envC σ a (b + 1 - a) 8)) ∧ MInv σ ρ2 ∧ EqC ρ ρ2) : Option Value → Rho → Prop) = Q
  refine w_al dX8_envyOf_0 rfl ?_
  refine w_il dX8_envyOf_1 rfl ?_
  refine w_il dX8_envyOf_2 rfl ?_
  refine w_cVu dX8_envyOf_3 (vl_X8_210 _ rfl) sh47 (by decide) (c_X8_laysJoy ρ σ a b hM (by omega) (by omega)) rfl rfl (Nat.le_of_ble_eq_true rfl) (fun ρq hq9 => ?_)
  obtain ⟨hMq, hEq, hDq, hJ⟩ := hq9
  refine w_k dX8_envyOf_6 ?_
  refine w_is (ls2 := [some (.ref 47), some (.int (nI a)), some (.int (nI b)), some (.int (nI 0)), none, none, none]) dX8_envyOf_7 rfl ?_
  refine w_k dX8_envyOf_8 ?_
  refine w_is (ls2 := [some (.ref 47), some (.int (nI a)), some (.int (nI b)), some (.int (nI 0)), some (.int (nI 0)), none, none]) dX8_envyOf_9 rfl ?_
  have L11 : ∀ (n11 : Nat) (t : Nat), (t ≤ 8) → (8 - t) < n11 → MW mX8_envyOf 6 11 [some (.ref 47), some (.int (nI a)), some (.int (nI b)), some (.int (nI (envC σ a (b + 1 - a) t))), some (.int (nI t)), none, none] [] ρq Q := by
    intro n11
    induction n11 with
    | zero =>
      intro t ht hm11
      exact absurd hm11 (Nat.not_lt_zero _)
    | succ n11 ih11 =>
      intro t ht hm11
      have w1 := hM.1.lives t
      have w2 := jyN_b hM.1 t (σ.1 63 t) a (b + 1 - a) (by omega)
      have w5 := envC_le σ a (b + 1 - a) t
      refine w_il dX8_envyOf_11 rfl ?_
      refine w_k dX8_envyOf_13 ?_
      refine w_icgeN dX8_envyOf_15 (by omega) (by omega) (fun h15 => ?_) (fun h15 => ?_)
      · --t
        refine w_il dX8_envyOf_102 rfl ?_
        refine w_iret dX8_envyOf_103 rfl ?_
        rw [← hQ]
        exact ⟨_, rfl, by rw [show t = 8 by omega], hMq, (EqC.tr EqC.rf hEq)⟩
      · --f
        refine w_k dX8_envyOf_18 ?_
        refine w_is (ls2 := [some (.ref 47), some (.int (nI a)), some (.int (nI b)), some (.int (nI (envC σ a (b + 1 - a) t))), some (.int (nI t)), some (.int (nI 0)), none]) dX8_envyOf_19 rfl ?_
        refine w_k dX8_envyOf_21 ?_
        refine w_is (ls2 := [some (.ref 47), some (.int (nI a)), some (.int (nI b)), some (.int (nI (envC σ a (b + 1 - a) t))), some (.int (nI t)), some (.int (nI 0)), some (.int (nI 0))]) dX8_envyOf_22 rfl ?_
        have L24 : ∀ (n24 : Nat) (k : Nat), (k ≤ 8) → (8 - k) < n24 → MW mX8_envyOf 6 24 [some (.ref 47), some (.int (nI a)), some (.int (nI b)), some (.int (nI (envC σ a (b + 1 - a) t))), some (.int (nI t)), some (.int (b2i (jyN σ t (σ.1 63 t) a (b + 1 - a) < mxJ σ t a (b + 1 - a) k))), some (.int (nI k))] [] ρq Q := by
          intro n24
          induction n24 with
          | zero =>
            intro k hk hm24
            exact absurd hm24 (Nat.not_lt_zero _)
          | succ n24 ih24 =>
            intro k hk hm24
            have w3 := jyN_b hM.1 t k a (b + 1 - a) (by omega)
            refine w_il dX8_envyOf_24 rfl ?_
            refine w_k dX8_envyOf_26 ?_
            refine w_icgeN dX8_envyOf_28 (by omega) (by omega) (fun h28 => ?_) (fun h28 => ?_)
            · --t
              refine w_il dX8_envyOf_83 rfl ?_
              refine w_il dX8_envyOf_84 rfl ?_
              refine w_ifeqB dX8_envyOf_86 (fun h86 => ?_) (fun h86 => ?_)
              · --t
                refine w_k dX8_envyOf_93 ?_
                refine w_iaddN dX8_envyOf_94 ?_
                refine w_is (ls2 := [some (.ref 47), some (.int (nI a)), some (.int (nI b)), some (.int (nI (envC σ a (b + 1 - a) t))), some (.int (nI t)), some (.int (b2i (jyN σ t (σ.1 63 t) a (b + 1 - a) < mxJ σ t a (b + 1 - a) k))), some (.int (nI k))]) dX8_envyOf_95 rfl ?_
                refine w_iincN (ls2 := [some (.ref 47), some (.int (nI a)), some (.int (nI b)), some (.int (nI (envC σ a (b + 1 - a) t))), some (.int (nI (t + 1))), some (.int (b2i (jyN σ t (σ.1 63 t) a (b + 1 - a) < mxJ σ t a (b + 1 - a) k))), some (.int (nI k))]) dX8_envyOf_96 rfl rfl ?_
                refine w_goto dX8_envyOf_99 ?_
                refine w_weak (ls2 := [some (.ref 47), some (.int (nI a)), some (.int (nI b)), some (.int (nI (envC σ a (b + 1 - a) t))), some (.int (nI (t + 1))), none, none]) ⟨rfl, ⟨rfl, ⟨rfl, ⟨rfl, ⟨rfl, trivial⟩⟩⟩⟩⟩ ?_
                rw [show envC σ a (b + 1 - a) t = envC σ a (b + 1 - a) (t + 1) from (envC_n (by rw [show k = 8 by omega] at h86; exact h86)).symm]
                exact ih11 (t + 1) (by omega) (by omega)
              · --f
                refine w_k dX8_envyOf_89 ?_
                refine w_goto dX8_envyOf_90 ?_
                refine w_iaddN dX8_envyOf_94 ?_
                refine w_is (ls2 := [some (.ref 47), some (.int (nI a)), some (.int (nI b)), some (.int (nI (envC σ a (b + 1 - a) t + 1))), some (.int (nI t)), some (.int (b2i (jyN σ t (σ.1 63 t) a (b + 1 - a) < mxJ σ t a (b + 1 - a) k))), some (.int (nI k))]) dX8_envyOf_95 rfl ?_
                refine w_iincN (ls2 := [some (.ref 47), some (.int (nI a)), some (.int (nI b)), some (.int (nI (envC σ a (b + 1 - a) t + 1))), some (.int (nI (t + 1))), some (.int (b2i (jyN σ t (σ.1 63 t) a (b + 1 - a) < mxJ σ t a (b + 1 - a) k))), some (.int (nI k))]) dX8_envyOf_96 rfl rfl ?_
                refine w_goto dX8_envyOf_99 ?_
                refine w_weak (ls2 := [some (.ref 47), some (.int (nI a)), some (.int (nI b)), some (.int (nI (envC σ a (b + 1 - a) t + 1))), some (.int (nI (t + 1))), none, none]) ⟨rfl, ⟨rfl, ⟨rfl, ⟨rfl, ⟨rfl, trivial⟩⟩⟩⟩⟩ ?_
                rw [show envC σ a (b + 1 - a) t + 1 = envC σ a (b + 1 - a) (t + 1) from (envC_y (by rw [show k = 8 by omega] at h86; exact h86)).symm]
                exact ih11 (t + 1) (by omega) (by omega)
            · --f
              refine w_il dX8_envyOf_31 rfl ?_
              refine w_ifneB dX8_envyOf_33 (fun h33 => ?_) (fun h33 => ?_)
              · --t
                refine w_k dX8_envyOf_70 ?_
                refine w_goto dX8_envyOf_71 ?_
                refine w_is (ls2 := [some (.ref 47), some (.int (nI a)), some (.int (nI b)), some (.int (nI (envC σ a (b + 1 - a) t))), some (.int (nI t)), some (.int (nI 1)), some (.int (nI k))]) dX8_envyOf_75 rfl ?_
                refine w_iincN (ls2 := [some (.ref 47), some (.int (nI a)), some (.int (nI b)), some (.int (nI (envC σ a (b + 1 - a) t))), some (.int (nI t)), some (.int (nI 1)), some (.int (nI (k + 1)))]) dX8_envyOf_77 rfl rfl ?_
                refine w_goto dX8_envyOf_80 ?_
                rw [show nI 1 = b2i (jyN σ t (σ.1 63 t) a (b + 1 - a) < mxJ σ t a (b + 1 - a) (k + 1)) from (b2i_t (mx_y h33)).symm]
                exact ih24 (k + 1) (by omega) (by omega)
              · --f
                refine w_al dX8_envyOf_36 rfl ?_
                refine w_gr dX8_envyOf_37 fl_X8_59 sh47 rfl ?_
                refine w_k dX8_envyOf_40 ?_
                refine w_il dX8_envyOf_42 rfl ?_
                refine w_imulN dX8_envyOf_44 ?_
                refine w_il dX8_envyOf_45 rfl ?_
                refine w_iaddN dX8_envyOf_47 ?_
                refine w_ialdV (v := (nI (jyN σ t k a (b + 1 - a)))) dX8_envyOf_48 sh64 (by omega) (hJ.at2 _ _ (by omega) (by omega)) ?_
                refine w_al dX8_envyOf_49 rfl ?_
                refine w_gr dX8_envyOf_50 fl_X8_59 sh47 rfl ?_
                refine w_k dX8_envyOf_53 ?_
                refine w_il dX8_envyOf_55 rfl ?_
                refine w_imulN dX8_envyOf_57 ?_
                refine w_al dX8_envyOf_58 rfl ?_
                refine w_gr dX8_envyOf_59 fl_X8_56 sh47 rfl ?_
                refine w_il dX8_envyOf_62 rfl ?_
                refine w_ialdV (v := (nI (σ.1 63 t))) dX8_envyOf_64 sh63 (by omega) (hMq.2.1 63 (by decide) _) ?_
                refine w_iaddN dX8_envyOf_65 ?_
                refine w_ialdV (v := (nI (jyN σ t (σ.1 63 t) a (b + 1 - a)))) dX8_envyOf_66 sh64 (by omega) (hJ.at2 _ _ (by omega) (by omega)) ?_
                refine w_icleN dX8_envyOf_67 (by omega) (by omega) (fun h67 => ?_) (fun h67 => ?_)
                · --t
                  refine w_k dX8_envyOf_74 ?_
                  refine w_is (ls2 := [some (.ref 47), some (.int (nI a)), some (.int (nI b)), some (.int (nI (envC σ a (b + 1 - a) t))), some (.int (nI t)), some (.int (nI 0)), some (.int (nI k))]) dX8_envyOf_75 rfl ?_
                  refine w_iincN (ls2 := [some (.ref 47), some (.int (nI a)), some (.int (nI b)), some (.int (nI (envC σ a (b + 1 - a) t))), some (.int (nI t)), some (.int (nI 0)), some (.int (nI (k + 1)))]) dX8_envyOf_77 rfl rfl ?_
                  refine w_goto dX8_envyOf_80 ?_
                  rw [show nI 0 = b2i (jyN σ t (σ.1 63 t) a (b + 1 - a) < mxJ σ t a (b + 1 - a) (k + 1)) from (b2i_f (mx_n h33 h67)).symm]
                  exact ih24 (k + 1) (by omega) (by omega)
                · --f
                  refine w_k dX8_envyOf_70 ?_
                  refine w_goto dX8_envyOf_71 ?_
                  refine w_is (ls2 := [some (.ref 47), some (.int (nI a)), some (.int (nI b)), some (.int (nI (envC σ a (b + 1 - a) t))), some (.int (nI t)), some (.int (nI 1)), some (.int (nI k))]) dX8_envyOf_75 rfl ?_
                  refine w_iincN (ls2 := [some (.ref 47), some (.int (nI a)), some (.int (nI b)), some (.int (nI (envC σ a (b + 1 - a) t))), some (.int (nI t)), some (.int (nI 1)), some (.int (nI (k + 1)))]) dX8_envyOf_77 rfl rfl ?_
                  refine w_goto dX8_envyOf_80 ?_
                  rw [show nI 1 = b2i (jyN σ t (σ.1 63 t) a (b + 1 - a) < mxJ σ t a (b + 1 - a) (k + 1)) from (b2i_t (mx_j h67)).symm]
                  exact ih24 (k + 1) (by omega) (by omega)
        generalize hz : (nI 0 : Int32) = z at *
        rw [show z = b2i (jyN σ t (σ.1 63 t) a (b + 1 - a) < mxJ σ t a (b + 1 - a) 0) from hz.symm.trans (b2i_f (Nat.not_lt_zero _)).symm]
        exact L24 _ 0 (by omega) (Nat.lt_succ_self _)
  exact L11 _ 0 (by omega) (Nat.lt_succ_self _)

set_option maxHeartbeats 4000000 in
theorem c_X8_envy (ρ : Rho) (σ : Sg) (f : Int32) (t : Int32) (hM : MInv σ ρ) : CallOK 7 mX8_envy [.ref 47, .int f, .int t] ρ (fun r ρ2 => ∃ v, r = some v ∧ (v = .int (r_envy σ f t) ∧ MInv (σ) ρ2 ∧ EqC ρ ρ2)) := by
  refine callOK_of 0 (by decide +kernel) rfl (fun _ => Nat.le_of_ble_eq_true rfl) (ls := [some (.ref 47), some (.int f), some (.int t)]) rfl ?_
  generalize hQ : (fun r ρ2 => ∃ v, r = some v ∧ (v = .int (r_envy σ f t) ∧ MInv (σ) ρ2 ∧ EqC ρ ρ2) : Option Value → Rho → Prop) = Q
  refine w_il dX8_envy_0 rfl ?_
  refine w_il dX8_envy_1 rfl ?_
  refine w_cSf dX8_envy_2 (sl_X8_166 _ rfl) (by decide) (c_X8_isSpan ρ f t) rfl rfl (Nat.le_of_ble_eq_true rfl) ?_
  refine w_ifeqB dX8_envy_5 (fun h5 => ?_) (fun h5 => ?_)
  · --t
    refine w_k dX8_envy_17 ?_
    refine w_iret dX8_envy_19 rfl ?_
    rw [← hQ]
    exact ⟨_, rfl, by rw [r_envy, if_neg (fun z => h5 z)], hM, EqC.rf⟩
  · --f
    obtain ⟨a, b, hab, hb, rfl, rfl⟩ := spn_nI h5
    refine w_al dX8_envy_8 rfl ?_
    refine w_il dX8_envy_9 rfl ?_
    refine w_il dX8_envy_10 rfl ?_
    refine w_cVr dX8_envy_11 (vl_X8_222 _ rfl) sh47 (by decide) (c_X8_envyOf ρ σ a b hM (by omega) (by omega)) rfl rfl (Nat.le_of_ble_eq_true rfl) (fun vh1 ρh1 hh1 => ?_)
    obtain ⟨rfl, hMh1, hEh1⟩ := hh1
    refine w_goto dX8_envy_14 ?_
    refine w_iret dX8_envy_19 rfl ?_
    rw [← hQ]
    exact ⟨_, rfl, by rw [r_envy, if_pos h5, nv_nI (a := a) (by omega), nv_nI (a := b) (by omega)], hMh1, (EqC.tr EqC.rf hEh1)⟩
