theorem stE_1 {σ : Sg} {t v s : Nat} (hv : v < 8) (hs : s < 8) : stE σ t v s ↔ ((v + 1) % 8 = s ∨ (s + 1) % 8 = v) := ⟨fun h => by
  rcases h with ⟨_, _, e⟩ | ⟨_, h, _⟩ | ⟨h, _⟩ | ⟨h, _⟩
  · exact e
  · omega
  · omega
  · omega, fun h => Or.inl ⟨hv, hs, h⟩⟩
theorem stE_2 {σ : Sg} {t v s : Nat} (hv : v < 8) (hs : 8 ≤ s) : stE σ t v s ↔ (v + t) % 8 = s - 8 := ⟨fun h => by
  rcases h with ⟨_, h, e⟩ | ⟨_, h, e⟩ | ⟨h, _⟩ | ⟨h, _⟩
  · omega
  · exact e
  · omega
  · omega, fun h => Or.inr (Or.inl ⟨hv, hs, h⟩)⟩
theorem stE_3 {σ : Sg} {t v s : Nat} (hv : 8 ≤ v) (hs : s < 8) : stE σ t v s ↔ (s + t) % 8 = v - 8 := ⟨fun h => by
  rcases h with ⟨_, h, e⟩ | ⟨_, h, e⟩ | ⟨h, _, e⟩ | ⟨_, h, _⟩
  · omega
  · omega
  · exact e
  · omega, fun h => Or.inr (Or.inr (Or.inl ⟨hv, hs, h⟩))⟩
theorem stE_4 {σ : Sg} {t v s : Nat} (hv : 8 ≤ v) (hs : 8 ≤ s) : stE σ t v s ↔ (((v - 8 + 1) % 8 = s - 8 ∧ Cl σ (v - 8) = 0) ∨ ((s - 8 + 1) % 8 = v - 8 ∧ Cl σ (s - 8) = 0) ∨ Ovr σ (v - 8) (s - 8) t) := ⟨fun h => by
  rcases h with ⟨h, _⟩ | ⟨h, _⟩ | ⟨_, h, _⟩ | ⟨_, _, e⟩
  · omega
  · omega
  · omega
  · exact e, fun h => Or.inr (Or.inr (Or.inr ⟨hv, hs, h⟩))⟩
theorem v_soon_n {σ : Sg} {x p a : Nat} (h : v_soon σ x p a 0 = -1) (ha : a < 100) : ¬ snI σ x p a < 100 - a := fun c => by
  unfold v_soon at h
  rw [if_pos c, if_pos rfl] at h
  exact nIneg (by omega) h
theorem v_soon_y {σ : Sg} {x p a : Nat} (h : v_soon σ x p a 0 ≠ -1) : snI σ x p a < 100 - a := Decidable.byContradiction fun c => by
  unfold v_soon at h
  rw [if_neg c] at h
  exact h rfl
theorem mtB_y {σ : Sg} {x y a i k : Nat} (h : stp σ 1000 x a (i + 1) (8 + k) < 1000) (h2 : stp σ 1000 y a (i + 1) (8 + k) < 1000) : mtB σ x y a i k = true := by
  unfold mtB onB; rw [decide_eq_true h, decide_eq_true h2]; rfl
theorem mtB_n1 {σ : Sg} {x y a i k : Nat} (h : ¬ stp σ 1000 x a (i + 1) (8 + k) < 1000) : mtB σ x y a i k = false := by
  unfold mtB onB; rw [decide_eq_false h]; rfl
theorem mtB_n2 {σ : Sg} {x y a i k : Nat} (h : ¬ stp σ 1000 y a (i + 1) (8 + k) < 1000) : mtB σ x y a i k = false := by
  unfold mtB onB; rw [decide_eq_false h, Bool.and_false]
theorem extB {ρ : Rho} {k b p : Nat} {v : Int32} {f : Nat → Int32} (h : ∀ q, q < p → ρ.1 k (b + q) = f q) (hv : v = f p) : ∀ q, q < p + 1 → (wI ρ k (b + p) v).1 k (b + q) = f q := fun q hq => by
  by_cases e : q = p
  · subst e; rw [rI_eq]; exact hv
  · rw [rI_ne (fun z => e (by omega))]; exact h q (by omega)
set_option maxHeartbeats 4000000 in
theorem c_X7_walkTo (ρ : Rho) (σ : Sg) (x p a : Nat) (hP : CP σ ρ) (hL : CLd σ ρ) (hT : CTn σ ρ) (hx : x < 8) (hp : p < 8) (ha : a < 100) : CallOK 3 mX7_walkTo [.ref 0, .int (nI x), .int (nI p), .int (nI a)] ρ (fun r ρ2 => ∃ v, r = some v ∧ (v = .int (v_soon σ x p a 0) ∧ Fr [21, 22] ρ ρ2 ∧ (snI σ x p a < 100 - a → ρ2.1 21 (8 + p) = nI (stp σ 1000 x a (snI σ x p a + 1) (8 + p))))) := by
  refine callOK_of 1 (by decide +kernel) rfl (fun _ => Nat.le_of_ble_eq_true rfl) (ls := [some (.ref 0), some (.int (nI x)), some (.int (nI p)), some (.int (nI a)), none]) rfl ?_
  generalize hQ : (fun r ρ2 => ∃ v, r = some v ∧ (v = .int (v_soon σ x p a 0) ∧ Fr [21, 22] ρ ρ2 ∧ (snI σ x p a < 100 - a → ρ2.1 21 (8 + p) = nI (stp σ 1000 x a (snI σ x p a + 1) (8 + p)))) : Option Value → Rho → Prop) = Q
  refine w_al dX7_walkTo_0 rfl ?_
  refine w_gr dX7_walkTo_1 fl_X7_33 sh0 rfl ?_
  refine w_il dX7_walkTo_4 rfl ?_
  refine w_cVu dX7_walkTo_5 (vl_X7_208 _ rfl) sh20 (by decide) (c_X6_begin_20 ρ x (by omega)) rfl rfl (Nat.le_of_ble_eq_true rfl) (fun ρb hb9 => ?_)
  obtain ⟨hFb, hSb⟩ := hb9
  refine w_il dX7_walkTo_8 rfl ?_
  refine w_is (ls2 := [some (.ref 0), some (.int (nI x)), some (.int (nI p)), some (.int (nI a)), some (.int (nI a))]) dX7_walkTo_9 rfl ?_
  have L11 : ∀ (n11 : Nat) (i : Nat) (ρ1 : Rho), (i ≤ 100 - a) → (Fr [21, 22] ρ ρ1) → (∀ s, s < 16 → ρ1.1 21 s = nI (stp σ 1000 x a i s)) → (fi (onB σ x a p) (100 - a - i) i = snI σ x p a) → (100 - a - i) < n11 → MW mX7_walkTo 3 11 [some (.ref 0), some (.int (nI x)), some (.int (nI p)), some (.int (nI a)), some (.int (nI (a + i)))] [] ρ1 Q := by
    intro n11
    induction n11 with
    | zero =>
      intro i ρ1 hi hF1 hS1 hf hm11
      exact absurd hm11 (Nat.not_lt_zero _)
    | succ n11 ih11 =>
      intro i ρ1 hi hF1 hS1 hf hm11
      refine w_il dX7_walkTo_11 rfl ?_
      refine w_k dX7_walkTo_13 ?_
      refine w_icgeN dX7_walkTo_15 (by omega) (by omega) (fun h15 => ?_) (fun h15 => ?_)
      · --t
        refine w_k dX7_walkTo_59 ?_
        refine w_iret dX7_walkTo_60 rfl ?_
        rw [← hQ]
        have e : snI σ x p a = i := by rw [← hf, show 100 - a - i = 0 by omega]; rfl
        exact ⟨_, rfl, by rw [v_soon, e, if_neg (by omega)], hF1, fun h => absurd h (by omega)⟩
      · --f
        refine w_al dX7_walkTo_18 rfl ?_
        refine w_gr dX7_walkTo_19 fl_X7_33 sh0 rfl ?_
        refine w_al dX7_walkTo_22 rfl ?_
        refine w_gr dX7_walkTo_23 fl_X7_10 sh0 rfl ?_
        refine w_al dX7_walkTo_26 rfl ?_
        refine w_gr dX7_walkTo_27 fl_X7_19 sh0 rfl ?_
        refine w_gr dX7_walkTo_30 fl_X7_98 sh10 rfl ?_
        refine w_il dX7_walkTo_33 rfl ?_
        refine w_ialdV (v := (nI (Tn σ (a + i)))) dX7_walkTo_35 sh15 (by omega) ((CTn.fr hT hF1 (by decide)) _ (by omega)) ?_
        refine w_cVu dX7_walkTo_36 (vl_X7_209 _ rfl) sh20 (by decide) (c_X6_oneDay_20 ρ1 σ (stp σ 1000 x a i) (Tn σ (a + i)) (CLd.fr hL hF1 (by decide)) (Tn_lt _ _) hS1 (fun s hs => by have := stp_far σ x a i (by omega) s; omega)) rfl rfl (Nat.le_of_ble_eq_true rfl) (fun ρd hd9 => ?_)
        obtain ⟨hFd, hSd⟩ := hd9
        have wf := stp_far σ x a (i + 1) (by omega) (8 + p)
        refine w_al dX7_walkTo_39 rfl ?_
        refine w_gr dX7_walkTo_40 fl_X7_33 sh0 rfl ?_
        refine w_il dX7_walkTo_43 rfl ?_
        refine w_cVf dX7_walkTo_44 (vl_X7_212 _ rfl) sh20 (by decide) (c_X6_isOn_20 ρd p (stp σ 1000 x a (i + 1) (8 + p)) (by omega) (hSd (8 + p) (by omega)) (by omega)) rfl rfl (Nat.le_of_ble_eq_true rfl) ?_
        refine w_ifeqB dX7_walkTo_47 (fun h47 => ?_) (fun h47 => ?_)
        · --t
          refine w_iincN (ls2 := [some (.ref 0), some (.int (nI x)), some (.int (nI p)), some (.int (nI a)), some (.int (nI (a + i + 1)))]) dX7_walkTo_53 rfl rfl ?_
          refine w_goto dX7_walkTo_56 ?_
          exact ih11 (i + 1) ρd (by omega) (Fr.tr hF1 hFd) (hSd) (by rw [← hf, fi_n (i := i) (by omega) (decide_eq_false h47)]; rfl) (by omega)
        · --f
          refine w_il dX7_walkTo_50 rfl ?_
          refine w_iret dX7_walkTo_52 rfl ?_
          rw [← hQ]
          have e : snI σ x p a = i := by rw [← hf]; exact fi_y (by omega) (decide_eq_true h47)
          exact ⟨_, rfl, by rw [v_soon, e, if_pos (by omega), if_pos rfl], Fr.tr hF1 hFd, fun _ => by rw [e]; exact hSd (8 + p) (by omega)⟩
  exact L11 _ 0 ρb (by omega) ((Fr.sub hFb (S2 := [21, 22]) (by decide))) (hSb) (rfl) (Nat.lt_succ_self _)

set_option maxHeartbeats 4000000 in
theorem c_X7_soon (ρ : Rho) (σ : Sg) (p : Int32) (q : Int32) (d : Int32) (hC : CInv σ ρ) : CallOK 4 mX7_soon [.ref 0, .int p, .int q, .int d] ρ (fun r ρ2 => ∃ v, r = some v ∧ (v = .int (r_soon σ p q d) ∧ CInv (σ) ρ2 ∧ EqM ρ ρ2)) := by
  refine callOK_of 0 (by decide +kernel) rfl (fun _ => Nat.le_of_ble_eq_true rfl) (ls := [some (.ref 0), some (.int p), some (.int q), some (.int d)]) rfl ?_
  generalize hQ : (fun r ρ2 => ∃ v, r = some v ∧ (v = .int (r_soon σ p q d) ∧ CInv (σ) ρ2 ∧ EqM ρ ρ2) : Option Value → Rho → Prop) = Q
  refine w_il dX7_soon_0 rfl ?_
  refine w_k dX7_soon_1 ?_
  refine w_cSf dX7_soon_3 (sl_X7_61 _ rfl) (by decide) (c_X7_within ρ p (nI 7)) rfl rfl (Nat.le_of_ble_eq_true rfl) ?_
  refine w_ifeqB dX7_soon_6 (fun h6 => ?_) (fun h6 => ?_)
  · --t
    refine w_k dX7_soon_25 ?_
    refine w_iret dX7_soon_27 rfl ?_
    rw [← hQ]
    exact ⟨_, rfl, by rw [r_soon, if_neg (fun z => h6 z.1)], ⟨hC.1, hC.2.1, hC.2.2⟩, EqM.rf⟩
  · --f
    obtain ⟨x, hx, rfl⟩ := inR_nI h6 (by decide)
    refine w_il dX7_soon_9 rfl ?_
    refine w_k dX7_soon_10 ?_
    refine w_cSf dX7_soon_12 (sl_X7_61 _ rfl) (by decide) (c_X7_within ρ q (nI 7)) rfl rfl (Nat.le_of_ble_eq_true rfl) ?_
    refine w_ifeqB dX7_soon_15 (fun h15 => ?_) (fun h15 => ?_)
    · --t
      refine w_k dX7_soon_25 ?_
      refine w_iret dX7_soon_27 rfl ?_
      rw [← hQ]
      exact ⟨_, rfl, by rw [r_soon, if_neg (fun z => h15 z.2.1)], ⟨hC.1, hC.2.1, hC.2.2⟩, EqM.rf⟩
    · --f
      obtain ⟨y, hy, rfl⟩ := inR_nI h15 (by decide)
      refine w_il dX7_soon_18 rfl ?_
      refine w_cSf dX7_soon_19 (sl_X7_87 _ rfl) (by decide) (c_X7_isDay ρ d) rfl rfl (Nat.le_of_ble_eq_true rfl) ?_
      refine w_ifneB dX7_soon_22 (fun h22 => ?_) (fun h22 => ?_)
      · --t
        obtain ⟨a, ha, rfl⟩ := inR_nI h22 (by decide)
        refine w_al dX7_soon_28 rfl ?_
        refine w_il dX7_soon_29 rfl ?_
        refine w_il dX7_soon_30 rfl ?_
        refine w_il dX7_soon_31 rfl ?_
        refine w_cVr dX7_soon_32 (vl_X7_202 _ rfl) sh0 (by decide) (c_X7_walkTo ρ σ x y a hC.1 hC.2.1 hC.2.2 (by omega) (by omega) (by omega)) rfl rfl (Nat.le_of_ble_eq_true rfl) (fun vw ρw hw9 => ?_)
        obtain ⟨rfl, hFw, hSw⟩ := hw9
        refine w_iret dX7_soon_35 rfl ?_
        rw [← hQ]
        exact ⟨_, rfl, by rw [r_soon, if_pos ⟨h6, h15, h22⟩, nv_nI (a := x) (by omega), nv_nI (a := y) (by omega), nv_nI (a := a) (by omega)], ⟨(CP.fr hC.1 hFw (by decide)), (CLd.fr hC.2.1 hFw (by decide)), (CTn.fr hC.2.2 hFw (by decide))⟩, (Fr.eqM hFw (by decide))⟩
      · --f
        refine w_k dX7_soon_25 ?_
        refine w_iret dX7_soon_27 rfl ?_
        rw [← hQ]
        exact ⟨_, rfl, by rw [r_soon, if_neg (fun z => h22 z.2.2)], ⟨hC.1, hC.2.1, hC.2.2⟩, EqM.rf⟩

set_option maxHeartbeats 4000000 in
theorem c_X7_carried (ρ : Rho) (σ : Sg) (p : Int32) (q : Int32) (d : Int32) (hC : CInv σ ρ) : CallOK 4 mX7_carried [.ref 0, .int p, .int q, .int d] ρ (fun r ρ2 => ∃ v, r = some v ∧ (v = .int (r_carried σ p q d) ∧ CInv (σ) ρ2 ∧ EqM ρ ρ2)) := by
  refine callOK_of 0 (by decide +kernel) rfl (fun _ => Nat.le_of_ble_eq_true rfl) (ls := [some (.ref 0), some (.int p), some (.int q), some (.int d)]) rfl ?_
  generalize hQ : (fun r ρ2 => ∃ v, r = some v ∧ (v = .int (r_carried σ p q d) ∧ CInv (σ) ρ2 ∧ EqM ρ ρ2) : Option Value → Rho → Prop) = Q
  refine w_il dX7_carried_0 rfl ?_
  refine w_k dX7_carried_1 ?_
  refine w_cSf dX7_carried_3 (sl_X7_61 _ rfl) (by decide) (c_X7_within ρ p (nI 7)) rfl rfl (Nat.le_of_ble_eq_true rfl) ?_
  refine w_ifeqB dX7_carried_6 (fun h6 => ?_) (fun h6 => ?_)
  · --t
    refine w_k dX7_carried_25 ?_
    refine w_iret dX7_carried_27 rfl ?_
    rw [← hQ]
    exact ⟨_, rfl, by rw [r_carried, if_neg (fun z => h6 z.1)], ⟨hC.1, hC.2.1, hC.2.2⟩, EqM.rf⟩
  · --f
    obtain ⟨x, hx, rfl⟩ := inR_nI h6 (by decide)
    refine w_il dX7_carried_9 rfl ?_
    refine w_k dX7_carried_10 ?_
    refine w_cSf dX7_carried_12 (sl_X7_61 _ rfl) (by decide) (c_X7_within ρ q (nI 7)) rfl rfl (Nat.le_of_ble_eq_true rfl) ?_
    refine w_ifeqB dX7_carried_15 (fun h15 => ?_) (fun h15 => ?_)
    · --t
      refine w_k dX7_carried_25 ?_
      refine w_iret dX7_carried_27 rfl ?_
      rw [← hQ]
      exact ⟨_, rfl, by rw [r_carried, if_neg (fun z => h15 z.2.1)], ⟨hC.1, hC.2.1, hC.2.2⟩, EqM.rf⟩
    · --f
      obtain ⟨y, hy, rfl⟩ := inR_nI h15 (by decide)
      refine w_il dX7_carried_18 rfl ?_
      refine w_cSf dX7_carried_19 (sl_X7_87 _ rfl) (by decide) (c_X7_isDay ρ d) rfl rfl (Nat.le_of_ble_eq_true rfl) ?_
      refine w_ifneB dX7_carried_22 (fun h22 => ?_) (fun h22 => ?_)
      · --t
        obtain ⟨a, ha, rfl⟩ := inR_nI h22 (by decide)
        refine w_al dX7_carried_28 rfl ?_
        refine w_il dX7_carried_29 rfl ?_
        refine w_il dX7_carried_30 rfl ?_
        refine w_il dX7_carried_31 rfl ?_
        refine w_cVr dX7_carried_32 (vl_X7_202 _ rfl) sh0 (by decide) (c_X7_walkTo ρ σ x y a hC.1 hC.2.1 hC.2.2 (by omega) (by omega) (by omega)) rfl rfl (Nat.le_of_ble_eq_true rfl) (fun vw ρw hw9 => ?_)
        obtain ⟨rfl, hFw, hSw⟩ := hw9
        refine w_k dX7_carried_35 ?_
        refine w_icne dX7_carried_36 (fun h36 => ?_) (fun h36 => ?_)
        · --t
          refine w_al dX7_carried_43 rfl ?_
          refine w_gr dX7_carried_44 fl_X7_33 sh0 rfl ?_
          refine w_il dX7_carried_47 rfl ?_
          refine w_cVf dX7_carried_48 (vl_X7_205 _ rfl) sh20 (by decide) (c_X6_stepsTo ρw y (stp σ 1000 x a (snI σ x y a + 1) (8 + y)) (by omega) (hSw (v_soon_y h36))) rfl rfl (Nat.le_of_ble_eq_true rfl) ?_
          refine w_iret dX7_carried_51 rfl ?_
          rw [← hQ]
          exact ⟨_, rfl, by rw [r_carried, if_pos ⟨h6, h15, h22⟩, nv_nI (a := x) (by omega), nv_nI (a := y) (by omega), nv_nI (a := a) (by omega), v_soon, if_pos (v_soon_y h36), if_neg (by decide)], ⟨(CP.fr hC.1 hFw (by decide)), (CLd.fr hC.2.1 hFw (by decide)), (CTn.fr hC.2.2 hFw (by decide))⟩, (Fr.eqM hFw (by decide))⟩
        · --f
          refine w_k dX7_carried_39 ?_
          refine w_goto dX7_carried_40 ?_
          refine w_iret dX7_carried_51 rfl ?_
          rw [← hQ]
          exact ⟨_, rfl, by rw [r_carried, if_pos ⟨h6, h15, h22⟩, nv_nI (a := x) (by omega), nv_nI (a := y) (by omega), nv_nI (a := a) (by omega), v_soon, if_neg (v_soon_n h36 (by omega))], ⟨(CP.fr hC.1 hFw (by decide)), (CLd.fr hC.2.1 hFw (by decide)), (CTn.fr hC.2.2 hFw (by decide))⟩, (Fr.eqM hFw (by decide))⟩
      · --f
        refine w_k dX7_carried_25 ?_
        refine w_iret dX7_carried_27 rfl ?_
        rw [← hQ]
        exact ⟨_, rfl, by rw [r_carried, if_neg (fun z => h22 z.2.2)], ⟨hC.1, hC.2.1, hC.2.2⟩, EqM.rf⟩

set_option maxHeartbeats 4000000 in
theorem c_X7_meet (ρ : Rho) (σ : Sg) (p : Int32) (q : Int32) (d : Int32) (w : Int32) (hC : CInv σ ρ) : CallOK 3 mX7_meet [.ref 0, .int p, .int q, .int d, .int w] ρ (fun r ρ2 => ∃ v, r = some v ∧ (v = .int (r_meet σ p q d w) ∧ CInv (σ) ρ2 ∧ EqM ρ ρ2)) := by
  refine callOK_of 2 (by decide +kernel) rfl (fun _ => Nat.le_of_ble_eq_true rfl) (ls := [some (.ref 0), some (.int p), some (.int q), some (.int d), some (.int w), none, none]) rfl ?_
  generalize hQ : (fun r ρ2 => ∃ v, r = some v ∧ (v = .int (r_meet σ p q d w) ∧ CInv (σ) ρ2 ∧ EqM ρ ρ2) : Option Value → Rho → Prop) = Q
  refine w_il dX7_meet_0 rfl ?_
  refine w_k dX7_meet_1 ?_
  refine w_cSf dX7_meet_3 (sl_X7_61 _ rfl) (by decide) (c_X7_within ρ p (nI 7)) rfl rfl (Nat.le_of_ble_eq_true rfl) ?_
  refine w_ifeqB dX7_meet_6 (fun h6 => ?_) (fun h6 => ?_)
  · --t
    refine w_k dX7_meet_39 ?_
    refine w_iret dX7_meet_41 rfl ?_
    rw [← hQ]
    exact ⟨_, rfl, by rw [r_meet, if_neg (fun z => h6 z.1)], ⟨hC.1, hC.2.1, hC.2.2⟩, EqM.rf⟩
  · --f
    obtain ⟨x, hx, rfl⟩ := inR_nI h6 (by decide)
    refine w_il dX7_meet_9 rfl ?_
    refine w_k dX7_meet_10 ?_
    refine w_cSf dX7_meet_12 (sl_X7_61 _ rfl) (by decide) (c_X7_within ρ q (nI 7)) rfl rfl (Nat.le_of_ble_eq_true rfl) ?_
    refine w_ifeqB dX7_meet_15 (fun h15 => ?_) (fun h15 => ?_)
    · --t
      refine w_k dX7_meet_39 ?_
      refine w_iret dX7_meet_41 rfl ?_
      rw [← hQ]
      exact ⟨_, rfl, by rw [r_meet, if_neg (fun z => h15 z.2.1)], ⟨hC.1, hC.2.1, hC.2.2⟩, EqM.rf⟩
    · --f
      obtain ⟨y, hy, rfl⟩ := inR_nI h15 (by decide)
      refine w_il dX7_meet_18 rfl ?_
      refine w_il dX7_meet_19 rfl ?_
      refine w_iceqN dX7_meet_20 (by omega) (by omega) (fun h20 => ?_) (fun h20 => ?_)
      · --t
        refine w_k dX7_meet_39 ?_
        refine w_iret dX7_meet_41 rfl ?_
        rw [← hQ]
        exact ⟨_, rfl, by rw [r_meet, if_neg (fun z => z.2.2.1 (congrArg nI h20))], ⟨hC.1, hC.2.1, hC.2.2⟩, EqM.rf⟩
      · --f
        refine w_il dX7_meet_23 rfl ?_
        refine w_cSf dX7_meet_24 (sl_X7_87 _ rfl) (by decide) (c_X7_isDay ρ d) rfl rfl (Nat.le_of_ble_eq_true rfl) ?_
        refine w_ifeqB dX7_meet_27 (fun h27 => ?_) (fun h27 => ?_)
        · --t
          refine w_k dX7_meet_39 ?_
          refine w_iret dX7_meet_41 rfl ?_
          rw [← hQ]
          exact ⟨_, rfl, by rw [r_meet, if_neg (fun z => h27 z.2.2.2.1)], ⟨hC.1, hC.2.1, hC.2.2⟩, EqM.rf⟩
        · --f
          obtain ⟨a, ha, rfl⟩ := inR_nI h27 (by decide)
          refine w_il dX7_meet_30 rfl ?_
          refine w_k dX7_meet_32 ?_
          refine w_cSf dX7_meet_33 (sl_X7_61 _ rfl) (by decide) (c_X7_within ρ w (nI 1)) rfl rfl (Nat.le_of_ble_eq_true rfl) ?_
          refine w_ifneB dX7_meet_36 (fun h36 => ?_) (fun h36 => ?_)
          · --t
            obtain ⟨v, hv, rfl⟩ := inR_nI h36 (by decide)
            refine w_al dX7_meet_42 rfl ?_
            refine w_gr dX7_meet_43 fl_X7_33 sh0 rfl ?_
            refine w_il dX7_meet_46 rfl ?_
            refine w_cVu dX7_meet_47 (vl_X7_208 _ rfl) sh20 (by decide) (c_X6_begin_20 ρ x (by omega)) rfl rfl (Nat.le_of_ble_eq_true rfl) (fun ρb hb9 => ?_)
            obtain ⟨hFb, hSb⟩ := hb9
            refine w_al dX7_meet_50 rfl ?_
            refine w_gr dX7_meet_51 fl_X7_37 sh0 rfl ?_
            refine w_il dX7_meet_54 rfl ?_
            refine w_cVu dX7_meet_55 (vl_X7_208 _ rfl) sh23 (by decide) (c_X6_begin_23 ρb y (by omega)) rfl rfl (Nat.le_of_ble_eq_true rfl) (fun ρc hc9 => ?_)
            obtain ⟨hFc, hSc⟩ := hc9
            refine w_il dX7_meet_58 rfl ?_
            refine w_is (ls2 := [some (.ref 0), some (.int (nI x)), some (.int (nI y)), some (.int (nI a)), some (.int (nI v)), some (.int (nI a)), none]) dX7_meet_59 rfl ?_
            have L61 : ∀ (n61 : Nat) (i : Nat) (ρ1 : Rho), (i ≤ 100 - a) → (Fr [21, 22, 24, 25] ρ ρ1) → (∀ s, s < 16 → ρ1.1 21 s = nI (stp σ 1000 x a i s)) → (∀ s, s < 16 → ρ1.1 24 s = nI (stp σ 1000 y a i s)) → (fi (fun i => decide (mtP σ x y a i < 8)) (100 - a - i) i = mtD σ x y a) → (100 - a - i) < n61 → MW mX7_meet 3 61 [some (.ref 0), some (.int (nI x)), some (.int (nI y)), some (.int (nI a)), some (.int (nI v)), some (.int (nI (a + i))), none] [] ρ1 Q := by
              intro n61
              induction n61 with
              | zero =>
                intro i ρ1 hi hF1 hS1 hZ1 hf hm61
                exact absurd hm61 (Nat.not_lt_zero _)
              | succ n61 ih61 =>
                intro i ρ1 hi hF1 hS1 hZ1 hf hm61
                refine w_il dX7_meet_61 rfl ?_
                refine w_k dX7_meet_63 ?_
                refine w_icgeN dX7_meet_65 (by omega) (by omega) (fun h65 => ?_) (fun h65 => ?_)
                · --t
                  refine w_k dX7_meet_169 ?_
                  have e2 : mtD σ x y a = i := by rw [← hf, show 100 - a - i = 0 by omega]; rfl
                  refine w_iret dX7_meet_170 rfl ?_
                  rw [← hQ]
                  exact ⟨_, rfl, by rw [r_meet, if_pos ⟨h6, h15, (fun e => h20 ((nI_eq (by omega) (by omega)).mp e)), h27, h36⟩, nv_nI (a := x) (by omega), nv_nI (a := y) (by omega), nv_nI (a := a) (by omega), nv_nI (a := v) (by omega), v_meet, e2, if_neg (by omega)], ⟨(CP.fr hC.1 hF1 (by decide)), (CLd.fr hC.2.1 hF1 (by decide)), (CTn.fr hC.2.2 hF1 (by decide))⟩, (Fr.eqM hF1 (by decide))⟩
                · --f
                  refine w_al dX7_meet_68 rfl ?_
                  refine w_gr dX7_meet_69 fl_X7_33 sh0 rfl ?_
                  refine w_al dX7_meet_72 rfl ?_
                  refine w_gr dX7_meet_73 fl_X7_10 sh0 rfl ?_
                  refine w_al dX7_meet_76 rfl ?_
                  refine w_gr dX7_meet_77 fl_X7_19 sh0 rfl ?_
                  refine w_gr dX7_meet_80 fl_X7_98 sh10 rfl ?_
                  refine w_il dX7_meet_83 rfl ?_
                  refine w_ialdV (v := (nI (Tn σ (a + i)))) dX7_meet_85 sh15 (by omega) ((CTn.fr hC.2.2 hF1 (by decide)) _ (by omega)) ?_
                  refine w_cVu dX7_meet_86 (vl_X7_209 _ rfl) sh20 (by decide) (c_X6_oneDay_20 ρ1 σ (stp σ 1000 x a i) (Tn σ (a + i)) (CLd.fr hC.2.1 hF1 (by decide)) (Tn_lt _ _) hS1 (fun s hs => by have := stp_far σ x a i (by omega) s; omega)) rfl rfl (Nat.le_of_ble_eq_true rfl) (fun ρd hd9 => ?_)
                  obtain ⟨hFd, hSd⟩ := hd9
                  refine w_al dX7_meet_89 rfl ?_
                  refine w_gr dX7_meet_90 fl_X7_37 sh0 rfl ?_
                  refine w_al dX7_meet_93 rfl ?_
                  refine w_gr dX7_meet_94 fl_X7_10 sh0 rfl ?_
                  refine w_al dX7_meet_97 rfl ?_
                  refine w_gr dX7_meet_98 fl_X7_19 sh0 rfl ?_
                  refine w_gr dX7_meet_101 fl_X7_98 sh10 rfl ?_
                  refine w_il dX7_meet_104 rfl ?_
                  refine w_ialdV (v := (nI (Tn σ (a + i)))) dX7_meet_106 sh15 (by omega) ((CTn.fr hC.2.2 (Fr.tr hF1 (Fr.sub hFd (S2 := [21, 22, 24, 25]) (by decide))) (by decide)) _ (by omega)) ?_
                  refine w_cVu dX7_meet_107 (vl_X7_209 _ rfl) sh23 (by decide) (c_X6_oneDay_23 ρd σ (stp σ 1000 y a i) (Tn σ (a + i)) (CLd.fr hC.2.1 (Fr.tr hF1 (Fr.sub hFd (S2 := [21, 22, 24, 25]) (by decide))) (by decide)) (Tn_lt _ _) (fun s hs => by rw [(hFd 24 (by decide)).1]; exact hZ1 s hs) (fun s hs => by have := stp_far σ y a i (by omega) s; omega)) rfl rfl (Nat.le_of_ble_eq_true rfl) (fun ρe he9 => ?_)
                  obtain ⟨hFe, hSe⟩ := he9
                  have hFe2 : Fr [21, 22, 24, 25] ρ ρe := Fr.tr (Fr.tr hF1 (Fr.sub hFd (S2 := [21, 22, 24, 25]) (by decide))) (Fr.sub hFe (S2 := [21, 22, 24, 25]) (by decide))
                  have hSd2 : ∀ s, s < 16 → ρe.1 21 s = nI (stp σ 1000 x a (i + 1) s) := fun s hs => by rw [(hFe 21 (by decide)).1]; exact hSd s hs
                  have hSe2 : ∀ s, s < 16 → ρe.1 24 s = nI (stp σ 1000 y a (i + 1) s) := hSe
                  refine w_k dX7_meet_110 ?_
                  refine w_is (ls2 := [some (.ref 0), some (.int (nI x)), some (.int (nI y)), some (.int (nI a)), some (.int (nI v)), some (.int (nI (a + i))), some (.int (nI 0))]) dX7_meet_111 rfl ?_
                  have L113 : ∀ (n113 : Nat) (k : Nat), (k ≤ 8) → (fi (mtB σ x y a i) (8 - k) k = mtP σ x y a i) → (8 - k) < n113 → MW mX7_meet 3 113 [some (.ref 0), some (.int (nI x)), some (.int (nI y)), some (.int (nI a)), some (.int (nI v)), some (.int (nI (a + i))), some (.int (nI k))] [] ρe Q := by
                    intro n113
                    induction n113 with
                    | zero =>
                      intro k hk hk8 hm113
                      exact absurd hm113 (Nat.not_lt_zero _)
                    | succ n113 ih113 =>
                      intro k hk hk8 hm113
                      have wf := stp_far σ x a (i + 1) (by omega) (8 + k)
                      have wg := stp_far σ y a (i + 1) (by omega) (8 + k)
                      refine w_il dX7_meet_113 rfl ?_
                      refine w_k dX7_meet_115 ?_
                      refine w_icgeN dX7_meet_117 (by omega) (by omega) (fun h117 => ?_) (fun h117 => ?_)
                      · --t
                        refine w_iincN (ls2 := [some (.ref 0), some (.int (nI x)), some (.int (nI y)), some (.int (nI a)), some (.int (nI v)), some (.int (nI (a + i + 1))), some (.int (nI k))]) dX7_meet_163 rfl rfl ?_
                        refine w_goto dX7_meet_166 ?_
                        refine w_weak (ls2 := [some (.ref 0), some (.int (nI x)), some (.int (nI y)), some (.int (nI a)), some (.int (nI v)), some (.int (nI (a + i + 1))), none]) ⟨rfl, ⟨rfl, ⟨rfl, ⟨rfl, ⟨rfl, ⟨rfl, trivial⟩⟩⟩⟩⟩⟩ ?_
                        exact ih61 (i + 1) ρe (by omega) (hFe2) (hSd2) (hSe2) (by rw [← hf, fi_n (i := i) (by omega) (decide_eq_false (by rw [← hk8, show 8 - k = 0 by omega]; show ¬ k < 8; omega))]; rfl) (by omega)
                      · --f
                        refine w_al dX7_meet_120 rfl ?_
                        refine w_gr dX7_meet_121 fl_X7_33 sh0 rfl ?_
                        refine w_il dX7_meet_124 rfl ?_
                        refine w_cVf dX7_meet_126 (vl_X7_212 _ rfl) sh20 (by decide) (c_X6_isOn_20 ρe k (stp σ 1000 x a (i + 1) (8 + k)) (by omega) (hSd2 (8 + k) (by omega)) (by omega)) rfl rfl (Nat.le_of_ble_eq_true rfl) ?_
                        refine w_ifeqB dX7_meet_129 (fun h129 => ?_) (fun h129 => ?_)
                        · --t
                          refine w_iincN (ls2 := [some (.ref 0), some (.int (nI x)), some (.int (nI y)), some (.int (nI a)), some (.int (nI v)), some (.int (nI (a + i))), some (.int (nI (k + 1)))]) dX7_meet_157 rfl rfl ?_
                          refine w_goto dX7_meet_160 ?_
                          exact ih113 (k + 1) (by omega) (by rw [← hk8, fi_n (i := k) (by omega) (mtB_n1 h129)]; rfl) (by omega)
                        · --f
                          refine w_al dX7_meet_132 rfl ?_
                          refine w_gr dX7_meet_133 fl_X7_37 sh0 rfl ?_
                          refine w_il dX7_meet_136 rfl ?_
                          refine w_cVf dX7_meet_138 (vl_X7_212 _ rfl) sh23 (by decide) (c_X6_isOn_23 ρe k (stp σ 1000 y a (i + 1) (8 + k)) (by omega) (hSe2 (8 + k) (by omega)) (by omega)) rfl rfl (Nat.le_of_ble_eq_true rfl) ?_
                          refine w_ifeqB dX7_meet_141 (fun h141 => ?_) (fun h141 => ?_)
                          · --t
                            refine w_iincN (ls2 := [some (.ref 0), some (.int (nI x)), some (.int (nI y)), some (.int (nI a)), some (.int (nI v)), some (.int (nI (a + i))), some (.int (nI (k + 1)))]) dX7_meet_157 rfl rfl ?_
                            refine w_goto dX7_meet_160 ?_
                            exact ih113 (k + 1) (by omega) (by rw [← hk8, fi_n (i := k) (by omega) (mtB_n2 h141)]; rfl) (by omega)
                          · --f
                            refine w_il dX7_meet_144 rfl ?_
                            refine w_ifneN dX7_meet_146 (by omega) (fun h146 => ?_) (fun h146 => ?_)
                            · --t
                              refine w_il dX7_meet_154 rfl ?_
                              have e1 : mtP σ x y a i = k := by rw [← hk8]; exact fi_y (by omega) (mtB_y h129 h141)
                              have e2 : mtD σ x y a = i := by rw [← hf]; exact fi_y (by omega) (decide_eq_true (by omega))
                              refine w_iret dX7_meet_156 rfl ?_
                              rw [← hQ]
                              exact ⟨_, rfl, by rw [r_meet, if_pos ⟨h6, h15, (fun e => h20 ((nI_eq (by omega) (by omega)).mp e)), h27, h36⟩, nv_nI (a := x) (by omega), nv_nI (a := y) (by omega), nv_nI (a := a) (by omega), nv_nI (a := v) (by omega), v_meet, e2, if_pos (by omega), if_neg h146, e1], ⟨(CP.fr hC.1 hFe2 (by decide)), (CLd.fr hC.2.1 hFe2 (by decide)), (CTn.fr hC.2.2 hFe2 (by decide))⟩, (Fr.eqM hFe2 (by decide))⟩
                            · --f
                              refine w_il dX7_meet_149 rfl ?_
                              refine w_goto dX7_meet_151 ?_
                              have e1 : mtP σ x y a i = k := by rw [← hk8]; exact fi_y (by omega) (mtB_y h129 h141)
                              have e2 : mtD σ x y a = i := by rw [← hf]; exact fi_y (by omega) (decide_eq_true (by omega))
                              refine w_iret dX7_meet_156 rfl ?_
                              rw [← hQ]
                              exact ⟨_, rfl, by rw [r_meet, if_pos ⟨h6, h15, (fun e => h20 ((nI_eq (by omega) (by omega)).mp e)), h27, h36⟩, nv_nI (a := x) (by omega), nv_nI (a := y) (by omega), nv_nI (a := a) (by omega), nv_nI (a := v) (by omega), v_meet, e2, if_pos (by omega), if_pos h146], ⟨(CP.fr hC.1 hFe2 (by decide)), (CLd.fr hC.2.1 hFe2 (by decide)), (CTn.fr hC.2.2 hFe2 (by decide))⟩, (Fr.eqM hFe2 (by decide))⟩
                  exact L113 _ 0 (by omega) (rfl) (Nat.lt_succ_self _)
            exact L61 _ 0 ρc (by omega) ((Fr.tr (Fr.sub hFb (S2 := [21, 22, 24, 25]) (by decide)) (Fr.sub hFc (S2 := [21, 22, 24, 25]) (by decide)))) (fun s hs => by rw [(hFc 21 (by decide)).1]; exact hSb s hs) (hSc) (rfl) (Nat.lt_succ_self _)
          · --f
            refine w_k dX7_meet_39 ?_
            refine w_iret dX7_meet_41 rfl ?_
            rw [← hQ]
            exact ⟨_, rfl, by rw [r_meet, if_neg (fun z => h36 z.2.2.2.2)], ⟨hC.1, hC.2.1, hC.2.2⟩, EqM.rf⟩

set_option maxHeartbeats 4000000 in
theorem c_X8_isStep (ρ : Rho) (σ : Sg) (v s t : Nat) (hL : LL σ ρ) (hv : v < 16) (hs : s < 16) (ht : t < 8) : CallOK 1 mX8_isStep [.ref 47, .int (nI v), .int (nI s), .int (nI t)] ρ (fun r ρ2 => r = some (.int (b2i (stE σ t v s))) ∧ ρ2 = ρ) := by
  refine callOK_of 2 (by decide +kernel) rfl (fun _ => Nat.le_of_ble_eq_true rfl) (ls := [some (.ref 47), some (.int (nI v)), some (.int (nI s)), some (.int (nI t)), none, none]) rfl ?_
  generalize hQ : (fun r ρ2 => r = some (.int (b2i (stE σ t v s))) ∧ ρ2 = ρ : Option Value → Rho → Prop) = Q
  refine w_il dX8_isStep_0 rfl ?_
  refine w_k dX8_isStep_1 ?_
  refine w_icgeN dX8_isStep_3 (by omega) (by omega) (fun h3 => ?_) (fun h3 => ?_)
  · --t
    refine w_il dX8_isStep_38 rfl ?_
    refine w_k dX8_isStep_39 ?_
    refine w_icgeN dX8_isStep_41 (by omega) (by omega) (fun h41 => ?_) (fun h41 => ?_)
    · --t
      refine w_il dX8_isStep_63 rfl ?_
      refine w_k dX8_isStep_64 ?_
      refine w_icgeN dX8_isStep_66 (by omega) (by omega) (fun h66 => ?_) (fun h66 => ?_)
      · --t
        have wc := Cl_le σ (v - 8)
        have wd := Cl_le σ (s - 8)
        refine w_il dX8_isStep_88 rfl ?_
        refine w_k dX8_isStep_89 ?_
        refine w_isubN dX8_isStep_91 (by omega) ?_
        refine w_is (ls2 := [some (.ref 47), some (.int (nI v)), some (.int (nI s)), some (.int (nI t)), some (.int (nI (v - 8))), none]) dX8_isStep_92 rfl ?_
        refine w_il dX8_isStep_94 rfl ?_
        refine w_k dX8_isStep_95 ?_
        refine w_isubN dX8_isStep_97 (by omega) ?_
        refine w_is (ls2 := [some (.ref 47), some (.int (nI v)), some (.int (nI s)), some (.int (nI t)), some (.int (nI (v - 8))), some (.int (nI (s - 8)))]) dX8_isStep_98 rfl ?_
        refine w_il dX8_isStep_100 rfl ?_
        refine w_k dX8_isStep_102 ?_
        refine w_iaddN dX8_isStep_103 ?_
        refine w_k dX8_isStep_104 ?_
        refine w_iremN dX8_isStep_106 (by omega) (by omega) (by omega) ?_
        refine w_il dX8_isStep_107 rfl ?_
        refine w_icneN dX8_isStep_109 (by omega) (by omega) (fun h109 => ?_) (fun h109 => ?_)
        · --t
          refine w_il dX8_isStep_122 rfl ?_
          refine w_k dX8_isStep_124 ?_
          refine w_iaddN dX8_isStep_125 ?_
          refine w_k dX8_isStep_126 ?_
          refine w_iremN dX8_isStep_128 (by omega) (by omega) (by omega) ?_
          refine w_il dX8_isStep_129 rfl ?_
          refine w_icneN dX8_isStep_131 (by omega) (by omega) (fun h131 => ?_) (fun h131 => ?_)
          · --t
            refine w_al dX8_isStep_144 rfl ?_
            refine w_il dX8_isStep_145 rfl ?_
            refine w_il dX8_isStep_147 rfl ?_
            refine w_il dX8_isStep_149 rfl ?_
            refine w_cVf dX8_isStep_150 (vl_X8_154 _ rfl) sh47 (by decide) (c_X8_isOver ρ σ (v - 8) (s - 8) t hL (by omega) (by omega) (by omega)) rfl rfl (Nat.le_of_ble_eq_true rfl) ?_
            refine w_ifeqB dX8_isStep_153 (fun h153 => ?_) (fun h153 => ?_)
            · --t
              refine w_k dX8_isStep_160 ?_
              refine w_zret dX8_isStep_161 rfl rfl ?_
              rw [← hQ]
              exact ⟨congrArg (fun z => some (Value.int z)) (b2i_f (fun q => (fun q => q.elim (fun z => h109 z.1) (fun q => q.elim (fun z => h131 z.1) h153)) ((stE_4 h3 h66).mp q))).symm, rfl⟩
            · --f
              refine w_k dX8_isStep_156 ?_
              refine w_goto dX8_isStep_157 ?_
              refine w_zret dX8_isStep_161 rfl rfl ?_
              rw [← hQ]
              exact ⟨congrArg (fun z => some (Value.int z)) (b2i_t ((stE_4 h3 h66).mpr (Or.inr (Or.inr h153)))).symm, rfl⟩
          · --f
            refine w_al dX8_isStep_134 rfl ?_
            refine w_gr dX8_isStep_135 fl_X8_16 sh47 rfl ?_
            refine w_il dX8_isStep_138 rfl ?_
            refine w_ialdV (v := (nI (Cl σ (s - 8)))) dX8_isStep_140 sh50 (by omega) (hL.2.1 _ (by omega)) ?_
            refine w_ifeqN dX8_isStep_141 (by omega) (fun h141 => ?_) (fun h141 => ?_)
            · --t
              refine w_k dX8_isStep_156 ?_
              refine w_goto dX8_isStep_157 ?_
              refine w_zret dX8_isStep_161 rfl rfl ?_
              rw [← hQ]
              exact ⟨congrArg (fun z => some (Value.int z)) (b2i_t ((stE_4 h3 h66).mpr (Or.inr (Or.inl ⟨h131, h141⟩)))).symm, rfl⟩
            · --f
              refine w_al dX8_isStep_144 rfl ?_
              refine w_il dX8_isStep_145 rfl ?_
              refine w_il dX8_isStep_147 rfl ?_
              refine w_il dX8_isStep_149 rfl ?_
              refine w_cVf dX8_isStep_150 (vl_X8_154 _ rfl) sh47 (by decide) (c_X8_isOver ρ σ (v - 8) (s - 8) t hL (by omega) (by omega) (by omega)) rfl rfl (Nat.le_of_ble_eq_true rfl) ?_
              refine w_ifeqB dX8_isStep_153 (fun h153 => ?_) (fun h153 => ?_)
              · --t
                refine w_k dX8_isStep_160 ?_
                refine w_zret dX8_isStep_161 rfl rfl ?_
                rw [← hQ]
                exact ⟨congrArg (fun z => some (Value.int z)) (b2i_f (fun q => (fun q => q.elim (fun z => h109 z.1) (fun q => q.elim (fun z => h141 z.2) h153)) ((stE_4 h3 h66).mp q))).symm, rfl⟩
              · --f
                refine w_k dX8_isStep_156 ?_
                refine w_goto dX8_isStep_157 ?_
                refine w_zret dX8_isStep_161 rfl rfl ?_
                rw [← hQ]
                exact ⟨congrArg (fun z => some (Value.int z)) (b2i_t ((stE_4 h3 h66).mpr (Or.inr (Or.inr h153)))).symm, rfl⟩
        · --f
          refine w_al dX8_isStep_112 rfl ?_
          refine w_gr dX8_isStep_113 fl_X8_16 sh47 rfl ?_
          refine w_il dX8_isStep_116 rfl ?_
          refine w_ialdV (v := (nI (Cl σ (v - 8)))) dX8_isStep_118 sh50 (by omega) (hL.2.1 _ (by omega)) ?_
          refine w_ifeqN dX8_isStep_119 (by omega) (fun h119 => ?_) (fun h119 => ?_)
          · --t
            refine w_k dX8_isStep_156 ?_
            refine w_goto dX8_isStep_157 ?_
            refine w_zret dX8_isStep_161 rfl rfl ?_
            rw [← hQ]
            exact ⟨congrArg (fun z => some (Value.int z)) (b2i_t ((stE_4 h3 h66).mpr (Or.inl ⟨h109, h119⟩))).symm, rfl⟩
          · --f
            refine w_il dX8_isStep_122 rfl ?_
            refine w_k dX8_isStep_124 ?_
            refine w_iaddN dX8_isStep_125 ?_
            refine w_k dX8_isStep_126 ?_
            refine w_iremN dX8_isStep_128 (by omega) (by omega) (by omega) ?_
            refine w_il dX8_isStep_129 rfl ?_
            refine w_icneN dX8_isStep_131 (by omega) (by omega) (fun h131 => ?_) (fun h131 => ?_)
            · --t
              refine w_al dX8_isStep_144 rfl ?_
              refine w_il dX8_isStep_145 rfl ?_
              refine w_il dX8_isStep_147 rfl ?_
              refine w_il dX8_isStep_149 rfl ?_
              refine w_cVf dX8_isStep_150 (vl_X8_154 _ rfl) sh47 (by decide) (c_X8_isOver ρ σ (v - 8) (s - 8) t hL (by omega) (by omega) (by omega)) rfl rfl (Nat.le_of_ble_eq_true rfl) ?_
              refine w_ifeqB dX8_isStep_153 (fun h153 => ?_) (fun h153 => ?_)
              · --t
                refine w_k dX8_isStep_160 ?_
                refine w_zret dX8_isStep_161 rfl rfl ?_
                rw [← hQ]
                exact ⟨congrArg (fun z => some (Value.int z)) (b2i_f (fun q => (fun q => q.elim (fun z => h119 z.2) (fun q => q.elim (fun z => h131 z.1) h153)) ((stE_4 h3 h66).mp q))).symm, rfl⟩
              · --f
                refine w_k dX8_isStep_156 ?_
                refine w_goto dX8_isStep_157 ?_
                refine w_zret dX8_isStep_161 rfl rfl ?_
                rw [← hQ]
                exact ⟨congrArg (fun z => some (Value.int z)) (b2i_t ((stE_4 h3 h66).mpr (Or.inr (Or.inr h153)))).symm, rfl⟩
            · --f
              refine w_al dX8_isStep_134 rfl ?_
              refine w_gr dX8_isStep_135 fl_X8_16 sh47 rfl ?_
              refine w_il dX8_isStep_138 rfl ?_
              refine w_ialdV (v := (nI (Cl σ (s - 8)))) dX8_isStep_140 sh50 (by omega) (hL.2.1 _ (by omega)) ?_
              refine w_ifeqN dX8_isStep_141 (by omega) (fun h141 => ?_) (fun h141 => ?_)
              · --t
                refine w_k dX8_isStep_156 ?_
                refine w_goto dX8_isStep_157 ?_
                refine w_zret dX8_isStep_161 rfl rfl ?_
                rw [← hQ]
                exact ⟨congrArg (fun z => some (Value.int z)) (b2i_t ((stE_4 h3 h66).mpr (Or.inr (Or.inl ⟨h131, h141⟩)))).symm, rfl⟩
              · --f
                refine w_al dX8_isStep_144 rfl ?_
                refine w_il dX8_isStep_145 rfl ?_
                refine w_il dX8_isStep_147 rfl ?_
                refine w_il dX8_isStep_149 rfl ?_
                refine w_cVf dX8_isStep_150 (vl_X8_154 _ rfl) sh47 (by decide) (c_X8_isOver ρ σ (v - 8) (s - 8) t hL (by omega) (by omega) (by omega)) rfl rfl (Nat.le_of_ble_eq_true rfl) ?_
                refine w_ifeqB dX8_isStep_153 (fun h153 => ?_) (fun h153 => ?_)
                · --t
                  refine w_k dX8_isStep_160 ?_
                  refine w_zret dX8_isStep_161 rfl rfl ?_
                  rw [← hQ]
                  exact ⟨congrArg (fun z => some (Value.int z)) (b2i_f (fun q => (fun q => q.elim (fun z => h119 z.2) (fun q => q.elim (fun z => h141 z.2) h153)) ((stE_4 h3 h66).mp q))).symm, rfl⟩
                · --f
                  refine w_k dX8_isStep_156 ?_
                  refine w_goto dX8_isStep_157 ?_
                  refine w_zret dX8_isStep_161 rfl rfl ?_
                  rw [← hQ]
                  exact ⟨congrArg (fun z => some (Value.int z)) (b2i_t ((stE_4 h3 h66).mpr (Or.inr (Or.inr h153)))).symm, rfl⟩
      · --f
        refine w_il dX8_isStep_69 rfl ?_
        refine w_il dX8_isStep_70 rfl ?_
        refine w_iaddN dX8_isStep_71 ?_
        refine w_k dX8_isStep_72 ?_
        refine w_iremN dX8_isStep_74 (by omega) (by omega) (by omega) ?_
        refine w_il dX8_isStep_75 rfl ?_
        refine w_k dX8_isStep_76 ?_
        refine w_isubN dX8_isStep_78 (by omega) ?_
        refine w_icneN dX8_isStep_79 (by omega) (by omega) (fun h79 => ?_) (fun h79 => ?_)
        · --t
          refine w_k dX8_isStep_86 ?_
          refine w_zret dX8_isStep_87 rfl rfl ?_
          rw [← hQ]
          exact ⟨congrArg (fun z => some (Value.int z)) (b2i_f (fun q => (fun q => h79 q) ((stE_3 h3 h66).mp q))).symm, rfl⟩
        · --f
          refine w_k dX8_isStep_82 ?_
          refine w_goto dX8_isStep_83 ?_
          refine w_zret dX8_isStep_87 rfl rfl ?_
          rw [← hQ]
          exact ⟨congrArg (fun z => some (Value.int z)) (b2i_t ((stE_3 h3 h66).mpr (h79))).symm, rfl⟩
    · --f
      exfalso; omega
  · --f
    refine w_il dX8_isStep_6 rfl ?_
    refine w_k dX8_isStep_7 ?_
    refine w_icgeN dX8_isStep_9 (by omega) (by omega) (fun h9 => ?_) (fun h9 => ?_)
    · --t
      refine w_il dX8_isStep_38 rfl ?_
      refine w_k dX8_isStep_39 ?_
      refine w_icgeN dX8_isStep_41 (by omega) (by omega) (fun h41 => ?_) (fun h41 => ?_)
      · --t
        exfalso; omega
      · --f
        refine w_il dX8_isStep_44 rfl ?_
        refine w_il dX8_isStep_45 rfl ?_
        refine w_iaddN dX8_isStep_46 ?_
        refine w_k dX8_isStep_47 ?_
        refine w_iremN dX8_isStep_49 (by omega) (by omega) (by omega) ?_
        refine w_il dX8_isStep_50 rfl ?_
        refine w_k dX8_isStep_51 ?_
        refine w_isubN dX8_isStep_53 (by omega) ?_
        refine w_icneN dX8_isStep_54 (by omega) (by omega) (fun h54 => ?_) (fun h54 => ?_)
        · --t
          refine w_k dX8_isStep_61 ?_
          refine w_zret dX8_isStep_62 rfl rfl ?_
          rw [← hQ]
          exact ⟨congrArg (fun z => some (Value.int z)) (b2i_f (fun q => (fun q => h54 q) ((stE_2 h3 (by omega)).mp q))).symm, rfl⟩
        · --f
          refine w_k dX8_isStep_57 ?_
          refine w_goto dX8_isStep_58 ?_
          refine w_zret dX8_isStep_62 rfl rfl ?_
          rw [← hQ]
          exact ⟨congrArg (fun z => some (Value.int z)) (b2i_t ((stE_2 h3 (by omega)).mpr (h54))).symm, rfl⟩
    · --f
      refine w_il dX8_isStep_12 rfl ?_
      refine w_k dX8_isStep_13 ?_
      refine w_iaddN dX8_isStep_14 ?_
      refine w_k dX8_isStep_15 ?_
      refine w_iremN dX8_isStep_17 (by omega) (by omega) (by omega) ?_
      refine w_il dX8_isStep_18 rfl ?_
      refine w_iceqN dX8_isStep_19 (by omega) (by omega) (fun h19 => ?_) (fun h19 => ?_)
      · --t
        refine w_k dX8_isStep_32 ?_
        refine w_goto dX8_isStep_33 ?_
        refine w_zret dX8_isStep_37 rfl rfl ?_
        rw [← hQ]
        exact ⟨congrArg (fun z => some (Value.int z)) (b2i_t ((stE_1 h3 h9).mpr (Or.inl h19))).symm, rfl⟩
      · --f
        refine w_il dX8_isStep_22 rfl ?_
        refine w_k dX8_isStep_23 ?_
        refine w_iaddN dX8_isStep_24 ?_
        refine w_k dX8_isStep_25 ?_
        refine w_iremN dX8_isStep_27 (by omega) (by omega) (by omega) ?_
        refine w_il dX8_isStep_28 rfl ?_
        refine w_icneN dX8_isStep_29 (by omega) (by omega) (fun h29 => ?_) (fun h29 => ?_)
        · --t
          refine w_k dX8_isStep_36 ?_
          refine w_zret dX8_isStep_37 rfl rfl ?_
          rw [← hQ]
          exact ⟨congrArg (fun z => some (Value.int z)) (b2i_f (fun q => (fun q => q.elim h19 h29) ((stE_1 h3 h9).mp q))).symm, rfl⟩
        · --f
          refine w_k dX8_isStep_32 ?_
          refine w_goto dX8_isStep_33 ?_
          refine w_zret dX8_isStep_37 rfl rfl ?_
          rw [← hQ]
          exact ⟨congrArg (fun z => some (Value.int z)) (b2i_t ((stE_1 h3 h9).mpr (Or.inr h29))).symm, rfl⟩

set_option maxHeartbeats 4000000 in
theorem c_X8_begins (ρ : Rho) (w r : Nat) (hw : w < 2) (hr : r < 8) : CallOK 0 mX8_begins [.ref 47, .int (nI w), .int (nI r)] ρ (fun r9 ρ2 => r9 = none ∧ (Fr [60] ρ ρ2 ∧ (∀ q, q < 16 → ρ2.1 60 (16 * w + q) = nI (if q = r then 0 else 100000)) ∧ ∀ q, q < 16 * w ∨ 16 * w + 16 ≤ q → ρ2.1 60 q = ρ.1 60 q)) := by
  refine callOK_of 1 (by decide +kernel) rfl (fun _ => Nat.le_of_ble_eq_true rfl) (ls := [some (.ref 47), some (.int (nI w)), some (.int (nI r)), none]) rfl ?_
  generalize hQ : (fun r9 ρ2 => r9 = none ∧ (Fr [60] ρ ρ2 ∧ (∀ q, q < 16 → ρ2.1 60 (16 * w + q) = nI (if q = r then 0 else 100000)) ∧ ∀ q, q < 16 * w ∨ 16 * w + 16 ≤ q → ρ2.1 60 q = ρ.1 60 q) : Option Value → Rho → Prop) = Q
  refine w_k dX8_begins_0 ?_
  refine w_is (ls2 := [some (.ref 47), some (.int (nI w)), some (.int (nI r)), some (.int (nI 0))]) dX8_begins_1 rfl ?_
  have L2 : ∀ (n2 : Nat) (s : Nat) (ρ1 : Rho), (s ≤ 16) → (Fr [60] ρ ρ1) → (∀ q, q < s → ρ1.1 60 (16 * w + q) = nI (if q = r then 0 else 100000)) → (∀ q, q < 16 * w ∨ 16 * w + 16 ≤ q → ρ1.1 60 q = ρ.1 60 q) → (16 - s) < n2 → MW mX8_begins 0 2 [some (.ref 47), some (.int (nI w)), some (.int (nI r)), some (.int (nI s))] [] ρ1 Q := by
    intro n2
    induction n2 with
    | zero =>
      intro s ρ1 hs hF1 h1 h2 hm2
      exact absurd hm2 (Nat.not_lt_zero _)
    | succ n2 ih2 =>
      intro s ρ1 hs hF1 h1 h2 hm2
      refine w_il dX8_begins_2 rfl ?_
      refine w_k dX8_begins_3 ?_
      refine w_icgeN dX8_begins_5 (by omega) (by omega) (fun h5 => ?_) (fun h5 => ?_)
      · --t
        refine w_ret dX8_begins_36 rfl ?_
        rw [← hQ]
        obtain rfl : s = 16 := by omega
        exact ⟨rfl, hF1, h1, h2⟩
      · --f
        refine w_al dX8_begins_8 rfl ?_
        refine w_gr dX8_begins_9 fl_X8_47 sh47 rfl ?_
        refine w_k dX8_begins_12 ?_
        refine w_il dX8_begins_14 rfl ?_
        refine w_imulN dX8_begins_15 ?_
        refine w_il dX8_begins_16 rfl ?_
        refine w_iaddN dX8_begins_17 ?_
        refine w_il dX8_begins_18 rfl ?_
        refine w_il dX8_begins_19 rfl ?_
        refine w_icneN dX8_begins_20 (by omega) (by omega) (fun h20 => ?_) (fun h20 => ?_)
        · --t
          refine w_k dX8_begins_27 ?_
          refine w_iastN dX8_begins_29 sh60 (by omega) ?_
          refine w_iincN (ls2 := [some (.ref 47), some (.int (nI w)), some (.int (nI r)), some (.int (nI (s + 1)))]) dX8_begins_30 rfl rfl ?_
          refine w_goto dX8_begins_33 ?_
          exact ih2 (s + 1) (wI ρ1 60 (16 * w + s) (nI 100000)) (by omega) ((Fr.only hF1 only_wI (by decide))) (extB (f := fun q => nI (if q = r then 0 else 100000)) h1 (by rw [if_neg h20])) (fun q hq => by rw [rI_ne (by omega)]; exact h2 q hq) (by omega)
        · --f
          refine w_k dX8_begins_23 ?_
          refine w_goto dX8_begins_24 ?_
          refine w_iastN dX8_begins_29 sh60 (by omega) ?_
          refine w_iincN (ls2 := [some (.ref 47), some (.int (nI w)), some (.int (nI r)), some (.int (nI (s + 1)))]) dX8_begins_30 rfl rfl ?_
          refine w_goto dX8_begins_33 ?_
          exact ih2 (s + 1) (wI ρ1 60 (16 * w + s) (nI 0)) (by omega) ((Fr.only hF1 only_wI (by decide))) (extB (f := fun q => nI (if q = r then 0 else 100000)) h1 (by rw [if_pos h20])) (fun q hq => by rw [rI_ne (by omega)]; exact h2 q hq) (by omega)
  exact L2 _ 0 ρ (by omega) (Fr.rf) (fun q hq => absurd hq (Nat.not_lt_zero _)) (fun q hq => rfl) (Nat.lt_succ_self _)

set_option maxHeartbeats 4000000 in
theorem c_X8_goes (ρ : Rho) (σ : Sg) (w t : Nat) (f : Nat → Nat) (hD : Laid σ ρ) (hw : w < 2) (ht : t < 8) (hS : ∀ q, q < 16 → ρ.1 60 (16 * w + q) = nI (f q)) (hf : ∀ q, q < 16 → f q ≤ 100000) : CallOK 2 mX8_goes [.ref 47, .int (nI w), .int (nI t)] ρ (fun r9 ρ2 => r9 = none ∧ (Fr [60, 61] ρ ρ2 ∧ (∀ q, q < 16 → ρ2.1 60 (16 * w + q) = nI (mnE σ t f q 16)) ∧ ∀ q, q < 16 * w ∨ 16 * w + 16 ≤ q → ρ2.1 60 q = ρ.1 60 q)) := by
  refine callOK_of 4 (by decide +kernel) rfl (fun _ => Nat.le_of_ble_eq_true rfl) (ls := [some (.ref 47), some (.int (nI w)), some (.int (nI t)), none, none, none, none]) rfl ?_
  generalize hQ : (fun r9 ρ2 => r9 = none ∧ (Fr [60, 61] ρ ρ2 ∧ (∀ q, q < 16 → ρ2.1 60 (16 * w + q) = nI (mnE σ t f q 16)) ∧ ∀ q, q < 16 * w ∨ 16 * w + 16 ≤ q → ρ2.1 60 q = ρ.1 60 q) : Option Value → Rho → Prop) = Q
  refine w_k dX8_goes_0 ?_
  refine w_is (ls2 := [some (.ref 47), some (.int (nI w)), some (.int (nI t)), some (.int (nI 0)), none, none, none]) dX8_goes_1 rfl ?_
  have L2 : ∀ (n2 : Nat) (s : Nat) (ρ1 : Rho), (s ≤ 16) → (Fr [61] ρ ρ1) → (∀ q, q < s → ρ1.1 61 q = nI (mnE σ t f q 16)) → (16 - s) < n2 → MW mX8_goes 2 2 [some (.ref 47), some (.int (nI w)), some (.int (nI t)), some (.int (nI s)), none, none, none] [] ρ1 Q := by
    intro n2
    induction n2 with
    | zero =>
      intro s ρ1 hs hF1 h1 hm2
      exact absurd hm2 (Nat.not_lt_zero _)
    | succ n2 ih2 =>
      intro s ρ1 hs hF1 h1 hm2
      refine w_il dX8_goes_2 rfl ?_
      refine w_k dX8_goes_3 ?_
      refine w_icgeN dX8_goes_5 (by omega) (by omega) (fun h5 => ?_) (fun h5 => ?_)
      · --t
        refine w_k dX8_goes_100 ?_
        refine w_is (ls2 := [some (.ref 47), some (.int (nI w)), some (.int (nI t)), some (.int (nI 0)), none, none, none]) dX8_goes_101 rfl ?_
        have L102 : ∀ (n102 : Nat) (s : Nat) (ρ2 : Rho), (s ≤ 16) → (Fr [60, 61] ρ ρ2) → (∀ q, q < 16 → ρ2.1 61 q = nI (mnE σ t f q 16)) → (∀ q, q < s → ρ2.1 60 (16 * w + q) = nI (mnE σ t f q 16)) → (∀ q, q < 16 * w ∨ 16 * w + 16 ≤ q → ρ2.1 60 q = ρ.1 60 q) → (16 - s) < n102 → MW mX8_goes 2 102 [some (.ref 47), some (.int (nI w)), some (.int (nI t)), some (.int (nI s)), none, none, none] [] ρ2 Q := by
          intro n102
          induction n102 with
          | zero =>
            intro s ρ2 hs2 hF2 hT2 h2 h3 hm102
            exact absurd hm102 (Nat.not_lt_zero _)
          | succ n102 ih102 =>
            intro s ρ2 hs2 hF2 hT2 h2 h3 hm102
            refine w_il dX8_goes_102 rfl ?_
            refine w_k dX8_goes_103 ?_
            refine w_icgeN dX8_goes_105 (by omega) (by omega) (fun h105 => ?_) (fun h105 => ?_)
            · --t
              refine w_ret dX8_goes_131 rfl ?_
              rw [← hQ]
              obtain rfl : s = 16 := by omega
              exact ⟨rfl, hF2, h2, h3⟩
            · --f
              refine w_al dX8_goes_108 rfl ?_
              refine w_gr dX8_goes_109 fl_X8_47 sh47 rfl ?_
              refine w_k dX8_goes_112 ?_
              refine w_il dX8_goes_114 rfl ?_
              refine w_imulN dX8_goes_115 ?_
              refine w_il dX8_goes_116 rfl ?_
              refine w_iaddN dX8_goes_117 ?_
              refine w_al dX8_goes_118 rfl ?_
              refine w_gr dX8_goes_119 fl_X8_50 sh47 rfl ?_
              refine w_il dX8_goes_122 rfl ?_
              refine w_ialdV (v := (nI (mnE σ t f s 16))) dX8_goes_123 sh61 (by omega) (hT2 s (by omega)) ?_
              refine w_iastN dX8_goes_124 sh60 (by omega) ?_
              refine w_iincN (ls2 := [some (.ref 47), some (.int (nI w)), some (.int (nI t)), some (.int (nI (s + 1))), none, none, none]) dX8_goes_125 rfl rfl ?_
              refine w_goto dX8_goes_128 ?_
              exact ih102 (s + 1) (wI ρ2 60 (16 * w + s) (nI (mnE σ t f s 16))) (by omega) ((Fr.only hF2 only_wI (by decide))) (keepA (by decide) hT2) (extB (f := fun q => nI (mnE σ t f q 16)) h2 rfl) (fun q hq => by rw [rI_ne (by omega)]; exact h3 q hq) (by omega)
        exact L102 _ 0 ρ1 (by omega) (Fr.sub hF1 (by decide)) (by rw [show s = 16 by omega] at h1; exact h1) (fun q hq => absurd hq (Nat.not_lt_zero _)) (fun q _ => by rw [(hF1 60 (by decide)).1]) (Nat.lt_succ_self _)
      · --f
        refine w_al dX8_goes_8 rfl ?_
        refine w_gr dX8_goes_9 fl_X8_47 sh47 rfl ?_
        refine w_k dX8_goes_12 ?_
        refine w_il dX8_goes_14 rfl ?_
        refine w_imulN dX8_goes_15 ?_
        refine w_il dX8_goes_16 rfl ?_
        refine w_iaddN dX8_goes_17 ?_
        refine w_ialdV (v := (nI (f s))) dX8_goes_18 sh60 (by omega) (by rw [(hF1 60 (by decide)).1]; exact hS s (by omega)) ?_
        refine w_is (ls2 := [some (.ref 47), some (.int (nI w)), some (.int (nI t)), some (.int (nI s)), some (.int (nI (f s))), none, none]) dX8_goes_19 rfl ?_
        refine w_k dX8_goes_21 ?_
        refine w_is (ls2 := [some (.ref 47), some (.int (nI w)), some (.int (nI t)), some (.int (nI s)), some (.int (nI (f s))), some (.int (nI 0)), none]) dX8_goes_22 rfl ?_
        have L24 : ∀ (n24 : Nat) (k : Nat), (k ≤ 16) → (16 - k) < n24 → MW mX8_goes 2 24 [some (.ref 47), some (.int (nI w)), some (.int (nI t)), some (.int (nI s)), some (.int (nI (mnE σ t f s k))), some (.int (nI k)), none] [] ρ1 Q := by
          intro n24
          induction n24 with
          | zero =>
            intro k hk hm24
            exact absurd hm24 (Nat.not_lt_zero _)
          | succ n24 ih24 =>
            intro k hk hm24
            have w1 := mnE_le σ t f s k
            have w2 := hf s (by omega)
            have w3 := fun h => hf k h
            refine w_il dX8_goes_24 rfl ?_
            refine w_k dX8_goes_26 ?_
            refine w_icgeN dX8_goes_28 (by omega) (by omega) (fun h28 => ?_) (fun h28 => ?_)
            · --t
              refine w_al dX8_goes_86 rfl ?_
              refine w_gr dX8_goes_87 fl_X8_50 sh47 rfl ?_
              refine w_il dX8_goes_90 rfl ?_
              refine w_il dX8_goes_91 rfl ?_
              refine w_iastN dX8_goes_93 sh61 (by omega) ?_
              refine w_iincN (ls2 := [some (.ref 47), some (.int (nI w)), some (.int (nI t)), some (.int (nI (s + 1))), some (.int (nI (mnE σ t f s k))), some (.int (nI k)), none]) dX8_goes_94 rfl rfl ?_
              refine w_goto dX8_goes_97 ?_
              refine w_weak (ls2 := [some (.ref 47), some (.int (nI w)), some (.int (nI t)), some (.int (nI (s + 1))), none, none, none]) ⟨rfl, ⟨rfl, ⟨rfl, ⟨rfl, trivial⟩⟩⟩⟩ ?_
              exact ih2 (s + 1) (wI ρ1 61 s (nI (mnE σ t f s k))) (by omega) ((Fr.only hF1 only_wI (by decide))) (ext1 (f := fun q => nI (mnE σ t f q 16)) h1 (by rw [show k = 16 by omega])) (by omega)
            · --f
              have w4 := hf k (by omega)
              refine w_al dX8_goes_31 rfl ?_
              refine w_gr dX8_goes_32 fl_X8_47 sh47 rfl ?_
              refine w_k dX8_goes_35 ?_
              refine w_il dX8_goes_37 rfl ?_
              refine w_imulN dX8_goes_38 ?_
              refine w_il dX8_goes_39 rfl ?_
              refine w_iaddN dX8_goes_41 ?_
              refine w_ialdV (v := (nI (f k))) dX8_goes_42 sh60 (by omega) (by rw [(hF1 60 (by decide)).1]; exact hS k (by omega)) ?_
              refine w_k dX8_goes_43 ?_
              refine w_iaddN dX8_goes_44 ?_
              refine w_is (ls2 := [some (.ref 47), some (.int (nI w)), some (.int (nI t)), some (.int (nI s)), some (.int (nI (mnE σ t f s k))), some (.int (nI k)), some (.int (nI (f k + 1)))]) dX8_goes_45 rfl ?_
              refine w_il dX8_goes_47 rfl ?_
              refine w_il dX8_goes_49 rfl ?_
              refine w_icgeN dX8_goes_51 (by omega) (by omega) (fun h51 => ?_) (fun h51 => ?_)
              · --t
                refine w_il dX8_goes_76 rfl ?_
                refine w_is (ls2 := [some (.ref 47), some (.int (nI w)), some (.int (nI t)), some (.int (nI s)), some (.int (nI (mnE σ t f s k))), some (.int (nI k)), some (.int (nI (f k + 1)))]) dX8_goes_78 rfl ?_
                refine w_iincN (ls2 := [some (.ref 47), some (.int (nI w)), some (.int (nI t)), some (.int (nI s)), some (.int (nI (mnE σ t f s k))), some (.int (nI (k + 1))), some (.int (nI (f k + 1)))]) dX8_goes_80 rfl rfl ?_
                refine w_goto dX8_goes_83 ?_
                refine w_weak (ls2 := [some (.ref 47), some (.int (nI w)), some (.int (nI t)), some (.int (nI s)), some (.int (nI (mnE σ t f s k))), some (.int (nI (k + 1))), none]) ⟨rfl, ⟨rfl, ⟨rfl, ⟨rfl, ⟨rfl, ⟨rfl, trivial⟩⟩⟩⟩⟩⟩ ?_
                rw [← mnE_g h51]
                exact ih24 (k + 1) (by omega) (by omega)
              · --f
                refine w_il dX8_goes_54 rfl ?_
                refine w_il dX8_goes_56 rfl ?_
                refine w_iceqN dX8_goes_57 (by omega) (by omega) (fun h57 => ?_) (fun h57 => ?_)
                · --t
                  refine w_il dX8_goes_76 rfl ?_
                  refine w_is (ls2 := [some (.ref 47), some (.int (nI w)), some (.int (nI t)), some (.int (nI s)), some (.int (nI (mnE σ t f s k))), some (.int (nI k)), some (.int (nI (f k + 1)))]) dX8_goes_78 rfl ?_
                  refine w_iincN (ls2 := [some (.ref 47), some (.int (nI w)), some (.int (nI t)), some (.int (nI s)), some (.int (nI (mnE σ t f s k))), some (.int (nI (k + 1))), some (.int (nI (f k + 1)))]) dX8_goes_80 rfl rfl ?_
                  refine w_goto dX8_goes_83 ?_
                  refine w_weak (ls2 := [some (.ref 47), some (.int (nI w)), some (.int (nI t)), some (.int (nI s)), some (.int (nI (mnE σ t f s k))), some (.int (nI (k + 1))), none]) ⟨rfl, ⟨rfl, ⟨rfl, ⟨rfl, ⟨rfl, ⟨rfl, trivial⟩⟩⟩⟩⟩⟩ ?_
                  rw [← mnE_s h57]
                  exact ih24 (k + 1) (by omega) (by omega)
                · --f
                  refine w_al dX8_goes_60 rfl ?_
                  refine w_il dX8_goes_61 rfl ?_
                  refine w_il dX8_goes_63 rfl ?_
                  refine w_il dX8_goes_64 rfl ?_
                  refine w_cVf dX8_goes_65 (vl_X8_194 _ rfl) sh47 (by decide) (c_X8_isStep ρ1 σ k s t (Laid.fr hD hF1 (by decide)).1 (by omega) (by omega) (by omega)) rfl rfl (Nat.le_of_ble_eq_true rfl) ?_
                  refine w_ifeqB dX8_goes_68 (fun h68 => ?_) (fun h68 => ?_)
                  · --t
                    refine w_il dX8_goes_76 rfl ?_
                    refine w_is (ls2 := [some (.ref 47), some (.int (nI w)), some (.int (nI t)), some (.int (nI s)), some (.int (nI (mnE σ t f s k))), some (.int (nI k)), some (.int (nI (f k + 1)))]) dX8_goes_78 rfl ?_
                    refine w_iincN (ls2 := [some (.ref 47), some (.int (nI w)), some (.int (nI t)), some (.int (nI s)), some (.int (nI (mnE σ t f s k))), some (.int (nI (k + 1))), some (.int (nI (f k + 1)))]) dX8_goes_80 rfl rfl ?_
                    refine w_goto dX8_goes_83 ?_
                    refine w_weak (ls2 := [some (.ref 47), some (.int (nI w)), some (.int (nI t)), some (.int (nI s)), some (.int (nI (mnE σ t f s k))), some (.int (nI (k + 1))), none]) ⟨rfl, ⟨rfl, ⟨rfl, ⟨rfl, ⟨rfl, ⟨rfl, trivial⟩⟩⟩⟩⟩⟩ ?_
                    rw [← mnE_n h68]
                    exact ih24 (k + 1) (by omega) (by omega)
                  · --f
                    refine w_il dX8_goes_71 rfl ?_
                    refine w_goto dX8_goes_73 ?_
                    refine w_is (ls2 := [some (.ref 47), some (.int (nI w)), some (.int (nI t)), some (.int (nI s)), some (.int (nI (f k + 1))), some (.int (nI k)), some (.int (nI (f k + 1)))]) dX8_goes_78 rfl ?_
                    refine w_iincN (ls2 := [some (.ref 47), some (.int (nI w)), some (.int (nI t)), some (.int (nI s)), some (.int (nI (f k + 1))), some (.int (nI (k + 1))), some (.int (nI (f k + 1)))]) dX8_goes_80 rfl rfl ?_
                    refine w_goto dX8_goes_83 ?_
                    refine w_weak (ls2 := [some (.ref 47), some (.int (nI w)), some (.int (nI t)), some (.int (nI s)), some (.int (nI (f k + 1))), some (.int (nI (k + 1))), none]) ⟨rfl, ⟨rfl, ⟨rfl, ⟨rfl, ⟨rfl, ⟨rfl, trivial⟩⟩⟩⟩⟩⟩ ?_
                    rw [← mnE_y h68 h51]
                    exact ih24 (k + 1) (by omega) (by omega)
        exact L24 _ 0 (by omega) (Nat.lt_succ_self _)
  exact L2 _ 0 ρ (by omega) (Fr.rf) (fun q hq => absurd hq (Nat.not_lt_zero _)) (Nat.lt_succ_self _)

set_option maxHeartbeats 4000000 in
theorem c_X8_soonOf (ρ : Rho) (σ : Sg) (x : Nat) (p : Nat) (a : Nat) (w : Nat) (hM : MInv σ ρ) (hx : x < 8) (hp : p < 8) (ha : a < 100) (hw : w < 2) : CallOK 5 mX8_soonOf [.ref 47, .int (nI x), .int (nI p), .int (nI a), .int (nI w)] ρ (fun r ρ2 => ∃ v, r = some v ∧ (v = .int (v_soon σ x p a w) ∧ MInv σ ρ2 ∧ EqC ρ ρ2)) := by
  refine callOK_of 1 (by decide +kernel) rfl (fun _ => Nat.le_of_ble_eq_true rfl) (ls := [some (.ref 47), some (.int (nI x)), some (.int (nI p)), some (.int (nI a)), some (.int (nI w)), none]) rfl ?_
  generalize hQ : (fun r ρ2 => ∃ v, r = some v ∧ (v = .int (v_soon σ x p a w) ∧ MInv σ ρ2 ∧ EqC ρ ρ2) : Option Value → Rho → Prop) = Q
  refine w_al dX8_soonOf_0 rfl ?_
  refine w_cVu dX8_soonOf_1 (vl_X8_145 _ rfl) sh47 (by decide) (c_X8_lays ρ σ hM) rfl rfl (Nat.le_of_ble_eq_true rfl) (fun ρl1 hl1 => ?_)
  obtain ⟨hMl1, hEl1, hDl1⟩ := hl1
  refine w_al dX8_soonOf_4 rfl ?_
  refine w_k dX8_soonOf_5 ?_
  refine w_il dX8_soonOf_6 rfl ?_
  refine w_cVu dX8_soonOf_7 (vl_X8_197 _ rfl) sh47 (by decide) (c_X8_begins ρl1 0 x (by omega) (by omega)) rfl rfl (Nat.le_of_ble_eq_true rfl) (fun ρb2 hb9 => ?_)
  obtain ⟨hFb2, hSb2, hNb2⟩ := hb9
  refine w_il dX8_soonOf_10 rfl ?_
  refine w_is (ls2 := [some (.ref 47), some (.int (nI x)), some (.int (nI p)), some (.int (nI a)), some (.int (nI w)), some (.int (nI a))]) dX8_soonOf_11 rfl ?_
  have L13 : ∀ (n13 : Nat) (i : Nat) (ρ1 : Rho), (i ≤ 100 - a) → (MInv σ ρ1) → (EqC ρ ρ1) → (Laid σ ρ1) → (∀ q, q < 16 → ρ1.1 60 (16 * 0 + q) = nI (stp σ 100000 x a i q)) → (fi (onB σ x a p) (100 - a - i) i = snI σ x p a) → (100 - a - i) < n13 → MW mX8_soonOf 5 13 [some (.ref 47), some (.int (nI x)), some (.int (nI p)), some (.int (nI a)), some (.int (nI w)), some (.int (nI (a + i)))] [] ρ1 Q := by
    intro n13
    induction n13 with
    | zero =>
      intro i ρ1 hi hM1 hE1 hD1 hS1 hf hm13
      exact absurd hm13 (Nat.not_lt_zero _)
    | succ n13 ih13 =>
      intro i ρ1 hi hM1 hE1 hD1 hS1 hf hm13
      refine w_il dX8_soonOf_13 rfl ?_
      refine w_k dX8_soonOf_15 ?_
      refine w_icgeN dX8_soonOf_17 (by omega) (by omega) (fun h17 => ?_) (fun h17 => ?_)
      · --t
        refine w_k dX8_soonOf_72 ?_
        have e : snI σ x p a = i := by rw [← hf, show 100 - a - i = 0 by omega]; rfl
        refine w_iret dX8_soonOf_73 rfl ?_
        rw [← hQ]
        exact ⟨_, rfl, by rw [v_soon, e, if_neg (by omega)], hM1, hE1⟩
      · --f
        refine w_al dX8_soonOf_20 rfl ?_
        refine w_k dX8_soonOf_21 ?_
        refine w_al dX8_soonOf_22 rfl ?_
        refine w_gr dX8_soonOf_23 fl_X8_40 sh47 rfl ?_
        refine w_il dX8_soonOf_26 rfl ?_
        refine w_ialdV (v := (nI (Tn σ (a + i)))) dX8_soonOf_28 sh58 (by omega) (hD1.2 _ (by omega)) ?_
        refine w_cVu dX8_soonOf_29 (vl_X8_201 _ rfl) sh47 (by decide) (c_X8_goes ρ1 σ 0 (Tn σ (a + i)) (stp σ 100000 x a i) hD1 (by omega) (Tn_lt _ _) hS1 (fun s hs => by have := stp_far σ x a i (by omega) s; omega)) rfl rfl (Nat.le_of_ble_eq_true rfl) (fun ρg3 hg9 => ?_)
        obtain ⟨hFg3, hSg3, hNg3⟩ := hg9
        have wf := stp_far σ x a (i + 1) (by omega) (8 + p)
        refine w_al dX8_soonOf_32 rfl ?_
        refine w_gr dX8_soonOf_33 fl_X8_47 sh47 rfl ?_
        refine w_k dX8_soonOf_36 ?_
        refine w_il dX8_soonOf_38 rfl ?_
        refine w_iaddN dX8_soonOf_39 ?_
        refine w_ialdV (v := (nI (stp σ 100000 x a (i + 1) (8 + p)))) dX8_soonOf_40 sh60 (by omega) (by have := hSg3 (8 + p) (by omega); rwa [show 16 * 0 + (8 + p) = 8 + p by omega] at this) ?_
        refine w_k dX8_soonOf_41 ?_
        refine w_icgeN dX8_soonOf_43 (by omega) (by omega) (fun h43 => ?_) (fun h43 => ?_)
        · --t
          refine w_iincN (ls2 := [some (.ref 47), some (.int (nI x)), some (.int (nI p)), some (.int (nI a)), some (.int (nI w)), some (.int (nI (a + i + 1)))]) dX8_soonOf_66 rfl rfl ?_
          refine w_goto dX8_soonOf_69 ?_
          exact ih13 (i + 1) ρg3 (by omega) ((MInv.fr hM1 hFg3 (by decide))) ((EqC.tr hE1 (Fr.eqC hFg3 (by decide)))) ((Laid.fr hD1 hFg3 (by decide))) (hSg3) (by rw [← hf, fi_n (i := i) (by omega) (decide_eq_false (by omega))]; rfl) (by omega)
        · --f
          refine w_il dX8_soonOf_46 rfl ?_
          refine w_ifneN dX8_soonOf_48 (by omega) (fun h48 => ?_) (fun h48 => ?_)
          · --t
            refine w_al dX8_soonOf_56 rfl ?_
            refine w_gr dX8_soonOf_57 fl_X8_47 sh47 rfl ?_
            refine w_k dX8_soonOf_60 ?_
            refine w_il dX8_soonOf_62 rfl ?_
            refine w_iaddN dX8_soonOf_63 ?_
            refine w_ialdV (v := (nI (stp σ 100000 x a (i + 1) (8 + p)))) dX8_soonOf_64 sh60 (by omega) (by have := hSg3 (8 + p) (by omega); rwa [show 16 * 0 + (8 + p) = 8 + p by omega] at this) ?_
            have e : snI σ x p a = i := by rw [← hf]; exact fi_y (by omega) (decide_eq_true (by omega))
            refine w_iret dX8_soonOf_65 rfl ?_
            rw [← hQ]
            exact ⟨_, rfl, by rw [v_soon, e, if_pos (by omega), if_neg h48, show stp σ 100000 x a (i + 1) (8 + p) = stp σ 1000 x a (i + 1) (8 + p) by omega], (MInv.fr hM1 hFg3 (by decide)), (EqC.tr hE1 (Fr.eqC hFg3 (by decide)))⟩
          · --f
            refine w_il dX8_soonOf_51 rfl ?_
            refine w_goto dX8_soonOf_53 ?_
            have e : snI σ x p a = i := by rw [← hf]; exact fi_y (by omega) (decide_eq_true (by omega))
            refine w_iret dX8_soonOf_65 rfl ?_
            rw [← hQ]
            exact ⟨_, rfl, by rw [v_soon, e, if_pos (by omega), if_pos h48], (MInv.fr hM1 hFg3 (by decide)), (EqC.tr hE1 (Fr.eqC hFg3 (by decide)))⟩
  exact L13 _ 0 ρb2 (by omega) ((MInv.fr hMl1 hFb2 (by decide))) ((EqC.tr (EqC.tr EqC.rf hEl1) (Fr.eqC hFb2 (by decide)))) ((Laid.fr hDl1 hFb2 (by decide))) (hSb2) (rfl) (Nat.lt_succ_self _)

set_option maxHeartbeats 4000000 in
theorem c_X8_soon (ρ : Rho) (σ : Sg) (p : Int32) (q : Int32) (d : Int32) (hM : MInv σ ρ) : CallOK 6 mX8_soon [.ref 47, .int p, .int q, .int d] ρ (fun r ρ2 => ∃ v, r = some v ∧ (v = .int (r_soon σ p q d) ∧ MInv (σ) ρ2 ∧ EqC ρ ρ2)) := by
  refine callOK_of 0 (by decide +kernel) rfl (fun _ => Nat.le_of_ble_eq_true rfl) (ls := [some (.ref 47), some (.int p), some (.int q), some (.int d)]) rfl ?_
  generalize hQ : (fun r ρ2 => ∃ v, r = some v ∧ (v = .int (r_soon σ p q d) ∧ MInv (σ) ρ2 ∧ EqC ρ ρ2) : Option Value → Rho → Prop) = Q
  refine w_il dX8_soon_0 rfl ?_
  refine w_cSf dX8_soon_1 (sl_X8_118 _ rfl) (by decide) (c_X8_isEighth ρ p) rfl rfl (Nat.le_of_ble_eq_true rfl) ?_
  refine w_ifeqB dX8_soon_4 (fun h4 => ?_) (fun h4 => ?_)
  · --t
    refine w_k dX8_soon_32 ?_
    refine w_iret dX8_soon_34 rfl ?_
    rw [← hQ]
    exact ⟨_, rfl, by rw [r_soon, if_neg (fun z => h4 z.1)], hM, EqC.rf⟩
  · --f
    obtain ⟨x, hx, rfl⟩ := inR_nI h4 (by decide)
    refine w_il dX8_soon_7 rfl ?_
    refine w_cSf dX8_soon_8 (sl_X8_118 _ rfl) (by decide) (c_X8_isEighth ρ q) rfl rfl (Nat.le_of_ble_eq_true rfl) ?_
    refine w_ifeqB dX8_soon_11 (fun h11 => ?_) (fun h11 => ?_)
    · --t
      refine w_k dX8_soon_32 ?_
      refine w_iret dX8_soon_34 rfl ?_
      rw [← hQ]
      exact ⟨_, rfl, by rw [r_soon, if_neg (fun z => h11 z.2.1)], hM, EqC.rf⟩
    · --f
      obtain ⟨y, hy, rfl⟩ := inR_nI h11 (by decide)
      refine w_il dX8_soon_14 rfl ?_
      refine w_cSf dX8_soon_15 (sl_X8_148 _ rfl) (by decide) (c_X8_isDay ρ d) rfl rfl (Nat.le_of_ble_eq_true rfl) ?_
      refine w_ifeqB dX8_soon_18 (fun h18 => ?_) (fun h18 => ?_)
      · --t
        refine w_k dX8_soon_32 ?_
        refine w_iret dX8_soon_34 rfl ?_
        rw [← hQ]
        exact ⟨_, rfl, by rw [r_soon, if_neg (fun z => h18 z.2.2)], hM, EqC.rf⟩
      · --f
        obtain ⟨a, ha, rfl⟩ := inR_nI h18 (by decide)
        refine w_al dX8_soon_21 rfl ?_
        refine w_il dX8_soon_22 rfl ?_
        refine w_il dX8_soon_23 rfl ?_
        refine w_il dX8_soon_24 rfl ?_
        refine w_k dX8_soon_25 ?_
        refine w_cVr dX8_soon_26 (vl_X8_204 _ rfl) sh47 (by decide) (c_X8_soonOf ρ σ x y a 0 hM (by omega) (by omega) (by omega) (by omega)) rfl rfl (Nat.le_of_ble_eq_true rfl) (fun vh1 ρh1 hh1 => ?_)
        obtain ⟨rfl, hMh1, hEh1⟩ := hh1
        refine w_goto dX8_soon_29 ?_
        refine w_iret dX8_soon_34 rfl ?_
        rw [← hQ]
        exact ⟨_, rfl, by rw [r_soon, if_pos ⟨h4, h11, h18⟩, nv_nI (a := x) (by omega), nv_nI (a := y) (by omega), nv_nI (a := a) (by omega)], hMh1, (EqC.tr EqC.rf hEh1)⟩

set_option maxHeartbeats 4000000 in
theorem c_X8_carried (ρ : Rho) (σ : Sg) (p : Int32) (q : Int32) (d : Int32) (hM : MInv σ ρ) : CallOK 6 mX8_carried [.ref 47, .int p, .int q, .int d] ρ (fun r ρ2 => ∃ v, r = some v ∧ (v = .int (r_carried σ p q d) ∧ MInv (σ) ρ2 ∧ EqC ρ ρ2)) := by
  refine callOK_of 0 (by decide +kernel) rfl (fun _ => Nat.le_of_ble_eq_true rfl) (ls := [some (.ref 47), some (.int p), some (.int q), some (.int d)]) rfl ?_
  generalize hQ : (fun r ρ2 => ∃ v, r = some v ∧ (v = .int (r_carried σ p q d) ∧ MInv (σ) ρ2 ∧ EqC ρ ρ2) : Option Value → Rho → Prop) = Q
  refine w_il dX8_carried_0 rfl ?_
  refine w_cSf dX8_carried_1 (sl_X8_118 _ rfl) (by decide) (c_X8_isEighth ρ p) rfl rfl (Nat.le_of_ble_eq_true rfl) ?_
  refine w_ifeqB dX8_carried_4 (fun h4 => ?_) (fun h4 => ?_)
  · --t
    refine w_k dX8_carried_32 ?_
    refine w_iret dX8_carried_34 rfl ?_
    rw [← hQ]
    exact ⟨_, rfl, by rw [r_carried, if_neg (fun z => h4 z.1)], hM, EqC.rf⟩
  · --f
    obtain ⟨x, hx, rfl⟩ := inR_nI h4 (by decide)
    refine w_il dX8_carried_7 rfl ?_
    refine w_cSf dX8_carried_8 (sl_X8_118 _ rfl) (by decide) (c_X8_isEighth ρ q) rfl rfl (Nat.le_of_ble_eq_true rfl) ?_
    refine w_ifeqB dX8_carried_11 (fun h11 => ?_) (fun h11 => ?_)
    · --t
      refine w_k dX8_carried_32 ?_
      refine w_iret dX8_carried_34 rfl ?_
      rw [← hQ]
      exact ⟨_, rfl, by rw [r_carried, if_neg (fun z => h11 z.2.1)], hM, EqC.rf⟩
    · --f
      obtain ⟨y, hy, rfl⟩ := inR_nI h11 (by decide)
      refine w_il dX8_carried_14 rfl ?_
      refine w_cSf dX8_carried_15 (sl_X8_148 _ rfl) (by decide) (c_X8_isDay ρ d) rfl rfl (Nat.le_of_ble_eq_true rfl) ?_
      refine w_ifeqB dX8_carried_18 (fun h18 => ?_) (fun h18 => ?_)
      · --t
        refine w_k dX8_carried_32 ?_
        refine w_iret dX8_carried_34 rfl ?_
        rw [← hQ]
        exact ⟨_, rfl, by rw [r_carried, if_neg (fun z => h18 z.2.2)], hM, EqC.rf⟩
      · --f
        obtain ⟨a, ha, rfl⟩ := inR_nI h18 (by decide)
        refine w_al dX8_carried_21 rfl ?_
        refine w_il dX8_carried_22 rfl ?_
        refine w_il dX8_carried_23 rfl ?_
        refine w_il dX8_carried_24 rfl ?_
        refine w_k dX8_carried_25 ?_
        refine w_cVr dX8_carried_26 (vl_X8_204 _ rfl) sh47 (by decide) (c_X8_soonOf ρ σ x y a 1 hM (by omega) (by omega) (by omega) (by omega)) rfl rfl (Nat.le_of_ble_eq_true rfl) (fun vh1 ρh1 hh1 => ?_)
        obtain ⟨rfl, hMh1, hEh1⟩ := hh1
        refine w_goto dX8_carried_29 ?_
        refine w_iret dX8_carried_34 rfl ?_
        rw [← hQ]
        exact ⟨_, rfl, by rw [r_carried, if_pos ⟨h4, h11, h18⟩, nv_nI (a := x) (by omega), nv_nI (a := y) (by omega), nv_nI (a := a) (by omega)], hMh1, (EqC.tr EqC.rf hEh1)⟩

set_option maxHeartbeats 4000000 in
theorem c_X8_meetOf (ρ : Rho) (σ : Sg) (x : Nat) (y : Nat) (a : Nat) (u : Nat) (hM : MInv σ ρ) (hx : x < 8) (hy : y < 8) (ha : a < 100) (hu : u < 2) : CallOK 5 mX8_meetOf [.ref 47, .int (nI x), .int (nI y), .int (nI a), .int (nI u)] ρ (fun r ρ2 => ∃ v, r = some v ∧ (v = .int (v_meet σ x y a u) ∧ MInv σ ρ2 ∧ EqC ρ ρ2)) := by
  refine callOK_of 2 (by decide +kernel) rfl (fun _ => Nat.le_of_ble_eq_true rfl) (ls := [some (.ref 47), some (.int (nI x)), some (.int (nI y)), some (.int (nI a)), some (.int (nI u)), none, none]) rfl ?_
  generalize hQ : (fun r ρ2 => ∃ v, r = some v ∧ (v = .int (v_meet σ x y a u) ∧ MInv σ ρ2 ∧ EqC ρ ρ2) : Option Value → Rho → Prop) = Q
  refine w_al dX8_meetOf_0 rfl ?_
  refine w_cVu dX8_meetOf_1 (vl_X8_145 _ rfl) sh47 (by decide) (c_X8_lays ρ σ hM) rfl rfl (Nat.le_of_ble_eq_true rfl) (fun ρl1 hl1 => ?_)
  obtain ⟨hMl1, hEl1, hDl1⟩ := hl1
  refine w_al dX8_meetOf_4 rfl ?_
  refine w_k dX8_meetOf_5 ?_
  refine w_il dX8_meetOf_6 rfl ?_
  refine w_cVu dX8_meetOf_7 (vl_X8_197 _ rfl) sh47 (by decide) (c_X8_begins ρl1 0 x (by omega) (by omega)) rfl rfl (Nat.le_of_ble_eq_true rfl) (fun ρb2 hb9 => ?_)
  obtain ⟨hFb2, hSb2, hNb2⟩ := hb9
  refine w_al dX8_meetOf_10 rfl ?_
  refine w_k dX8_meetOf_11 ?_
  refine w_il dX8_meetOf_12 rfl ?_
  refine w_cVu dX8_meetOf_13 (vl_X8_197 _ rfl) sh47 (by decide) (c_X8_begins ρb2 1 y (by omega) (by omega)) rfl rfl (Nat.le_of_ble_eq_true rfl) (fun ρb3 hb9 => ?_)
  obtain ⟨hFb3, hSb3, hNb3⟩ := hb9
  refine w_il dX8_meetOf_16 rfl ?_
  refine w_is (ls2 := [some (.ref 47), some (.int (nI x)), some (.int (nI y)), some (.int (nI a)), some (.int (nI u)), some (.int (nI a)), none]) dX8_meetOf_17 rfl ?_
  have L19 : ∀ (n19 : Nat) (i : Nat) (ρ1 : Rho), (i ≤ 100 - a) → (MInv σ ρ1) → (EqC ρ ρ1) → (Laid σ ρ1) → (∀ q, q < 16 → ρ1.1 60 (16 * 0 + q) = nI (stp σ 100000 x a i q)) → (∀ q, q < 16 → ρ1.1 60 (16 * 1 + q) = nI (stp σ 100000 y a i q)) → (fi (fun i => decide (mtP σ x y a i < 8)) (100 - a - i) i = mtD σ x y a) → (100 - a - i) < n19 → MW mX8_meetOf 5 19 [some (.ref 47), some (.int (nI x)), some (.int (nI y)), some (.int (nI a)), some (.int (nI u)), some (.int (nI (a + i))), none] [] ρ1 Q := by
    intro n19
    induction n19 with
    | zero =>
      intro i ρ1 hi hM1 hE1 hD1 hS1 hZ1 hf hm19
      exact absurd hm19 (Nat.not_lt_zero _)
    | succ n19 ih19 =>
      intro i ρ1 hi hM1 hE1 hD1 hS1 hZ1 hf hm19
      refine w_il dX8_meetOf_19 rfl ?_
      refine w_k dX8_meetOf_21 ?_
      refine w_icgeN dX8_meetOf_23 (by omega) (by omega) (fun h23 => ?_) (fun h23 => ?_)
      · --t
        refine w_k dX8_meetOf_115 ?_
        have e2 : mtD σ x y a = i := by rw [← hf, show 100 - a - i = 0 by omega]; rfl
        refine w_iret dX8_meetOf_116 rfl ?_
        rw [← hQ]
        exact ⟨_, rfl, by rw [v_meet, e2, if_neg (by omega)], hM1, hE1⟩
      · --f
        refine w_al dX8_meetOf_26 rfl ?_
        refine w_k dX8_meetOf_27 ?_
        refine w_al dX8_meetOf_28 rfl ?_
        refine w_gr dX8_meetOf_29 fl_X8_40 sh47 rfl ?_
        refine w_il dX8_meetOf_32 rfl ?_
        refine w_ialdV (v := (nI (Tn σ (a + i)))) dX8_meetOf_34 sh58 (by omega) (hD1.2 _ (by omega)) ?_
        refine w_cVu dX8_meetOf_35 (vl_X8_201 _ rfl) sh47 (by decide) (c_X8_goes ρ1 σ 0 (Tn σ (a + i)) (stp σ 100000 x a i) hD1 (by omega) (Tn_lt _ _) hS1 (fun s hs => by have := stp_far σ x a i (by omega) s; omega)) rfl rfl (Nat.le_of_ble_eq_true rfl) (fun ρg4 hg9 => ?_)
        obtain ⟨hFg4, hSg4, hNg4⟩ := hg9
        refine w_al dX8_meetOf_38 rfl ?_
        refine w_k dX8_meetOf_39 ?_
        refine w_al dX8_meetOf_40 rfl ?_
        refine w_gr dX8_meetOf_41 fl_X8_40 sh47 rfl ?_
        refine w_il dX8_meetOf_44 rfl ?_
        refine w_ialdV (v := (nI (Tn σ (a + i)))) dX8_meetOf_46 sh58 (by omega) ((Laid.fr hD1 hFg4 (by decide)).2 _ (by omega)) ?_
        refine w_cVu dX8_meetOf_47 (vl_X8_201 _ rfl) sh47 (by decide) (c_X8_goes ρg4 σ 1 (Tn σ (a + i)) (stp σ 100000 y a i) (Laid.fr hD1 hFg4 (by decide)) (by omega) (Tn_lt _ _) (fun q hq => by rw [hNg4 _ (by omega)]; exact hZ1 q hq) (fun s hs => by have := stp_far σ y a i (by omega) s; omega)) rfl rfl (Nat.le_of_ble_eq_true rfl) (fun ρg5 hg9 => ?_)
        obtain ⟨hFg5, hSg5, hNg5⟩ := hg9
        have hSx : ∀ q, q < 16 → ρg5.1 60 (16 * 0 + q) = nI (stp σ 100000 x a (i + 1) q) := fun q hq => by rw [hNg5 _ (by omega)]; exact hSg4 q hq
        have hSy : ∀ q, q < 16 → ρg5.1 60 (16 * 1 + q) = nI (stp σ 100000 y a (i + 1) q) := hSg5
        refine w_k dX8_meetOf_50 ?_
        refine w_is (ls2 := [some (.ref 47), some (.int (nI x)), some (.int (nI y)), some (.int (nI a)), some (.int (nI u)), some (.int (nI (a + i))), some (.int (nI 0))]) dX8_meetOf_51 rfl ?_
        have L53 : ∀ (n53 : Nat) (k : Nat), (k ≤ 8) → (fi (mtB σ x y a i) (8 - k) k = mtP σ x y a i) → (8 - k) < n53 → MW mX8_meetOf 5 53 [some (.ref 47), some (.int (nI x)), some (.int (nI y)), some (.int (nI a)), some (.int (nI u)), some (.int (nI (a + i))), some (.int (nI k))] [] ρg5 Q := by
          intro n53
          induction n53 with
          | zero =>
            intro k hk hk8 hm53
            exact absurd hm53 (Nat.not_lt_zero _)
          | succ n53 ih53 =>
            intro k hk hk8 hm53
            have wf := stp_far σ x a (i + 1) (by omega) (8 + k)
            have wg := stp_far σ y a (i + 1) (by omega) (8 + k)
            refine w_il dX8_meetOf_53 rfl ?_
            refine w_k dX8_meetOf_55 ?_
            refine w_icgeN dX8_meetOf_57 (by omega) (by omega) (fun h57 => ?_) (fun h57 => ?_)
            · --t
              refine w_iincN (ls2 := [some (.ref 47), some (.int (nI x)), some (.int (nI y)), some (.int (nI a)), some (.int (nI u)), some (.int (nI (a + i + 1))), some (.int (nI k))]) dX8_meetOf_109 rfl rfl ?_
              refine w_goto dX8_meetOf_112 ?_
              refine w_weak (ls2 := [some (.ref 47), some (.int (nI x)), some (.int (nI y)), some (.int (nI a)), some (.int (nI u)), some (.int (nI (a + i + 1))), none]) ⟨rfl, ⟨rfl, ⟨rfl, ⟨rfl, ⟨rfl, ⟨rfl, trivial⟩⟩⟩⟩⟩⟩ ?_
              exact ih19 (i + 1) ρg5 (by omega) ((MInv.fr (MInv.fr hM1 hFg4 (by decide)) hFg5 (by decide))) ((EqC.tr (EqC.tr hE1 (Fr.eqC hFg4 (by decide))) (Fr.eqC hFg5 (by decide)))) ((Laid.fr (Laid.fr hD1 hFg4 (by decide)) hFg5 (by decide))) (hSx) (hSy) (by rw [← hf, fi_n (i := i) (by omega) (decide_eq_false (by rw [← hk8, show 8 - k = 0 by omega]; show ¬ k < 8; omega))]; rfl) (by omega)
            · --f
              refine w_al dX8_meetOf_60 rfl ?_
              refine w_gr dX8_meetOf_61 fl_X8_47 sh47 rfl ?_
              refine w_k dX8_meetOf_64 ?_
              refine w_il dX8_meetOf_66 rfl ?_
              refine w_iaddN dX8_meetOf_68 ?_
              refine w_ialdV (v := (nI (stp σ 100000 x a (i + 1) (8 + k)))) dX8_meetOf_69 sh60 (by omega) (by have := hSx (8 + k) (by omega); rwa [show 16 * 0 + (8 + k) = 8 + k by omega] at this) ?_
              refine w_k dX8_meetOf_70 ?_
              refine w_icgeN dX8_meetOf_72 (by omega) (by omega) (fun h72 => ?_) (fun h72 => ?_)
              · --t
                refine w_iincN (ls2 := [some (.ref 47), some (.int (nI x)), some (.int (nI y)), some (.int (nI a)), some (.int (nI u)), some (.int (nI (a + i))), some (.int (nI (k + 1)))]) dX8_meetOf_103 rfl rfl ?_
                refine w_goto dX8_meetOf_106 ?_
                exact ih53 (k + 1) (by omega) (by rw [← hk8, fi_n (i := k) (by omega) (mtB_n1 (by omega))]; rfl) (by omega)
              · --f
                refine w_al dX8_meetOf_75 rfl ?_
                refine w_gr dX8_meetOf_76 fl_X8_47 sh47 rfl ?_
                refine w_k dX8_meetOf_79 ?_
                refine w_il dX8_meetOf_81 rfl ?_
                refine w_iaddN dX8_meetOf_83 ?_
                refine w_ialdV (v := (nI (stp σ 100000 y a (i + 1) (8 + k)))) dX8_meetOf_84 sh60 (by omega) (by have := hSy (8 + k) (by omega); rwa [show 16 * 1 + (8 + k) = 24 + k by omega] at this) ?_
                refine w_k dX8_meetOf_85 ?_
                refine w_icgeN dX8_meetOf_87 (by omega) (by omega) (fun h87 => ?_) (fun h87 => ?_)
                · --t
                  refine w_iincN (ls2 := [some (.ref 47), some (.int (nI x)), some (.int (nI y)), some (.int (nI a)), some (.int (nI u)), some (.int (nI (a + i))), some (.int (nI (k + 1)))]) dX8_meetOf_103 rfl rfl ?_
                  refine w_goto dX8_meetOf_106 ?_
                  exact ih53 (k + 1) (by omega) (by rw [← hk8, fi_n (i := k) (by omega) (mtB_n2 (by omega))]; rfl) (by omega)
                · --f
                  refine w_il dX8_meetOf_90 rfl ?_
                  refine w_ifneN dX8_meetOf_92 (by omega) (fun h92 => ?_) (fun h92 => ?_)
                  · --t
                    refine w_il dX8_meetOf_100 rfl ?_
                    have e1 : mtP σ x y a i = k := by rw [← hk8]; exact fi_y (by omega) (mtB_y (by omega) (by omega))
                    have e2 : mtD σ x y a = i := by rw [← hf]; exact fi_y (by omega) (decide_eq_true (by omega))
                    refine w_iret dX8_meetOf_102 rfl ?_
                    rw [← hQ]
                    exact ⟨_, rfl, by rw [v_meet, e2, if_pos (by omega), if_neg h92, e1], (MInv.fr (MInv.fr hM1 hFg4 (by decide)) hFg5 (by decide)), (EqC.tr (EqC.tr hE1 (Fr.eqC hFg4 (by decide))) (Fr.eqC hFg5 (by decide)))⟩
                  · --f
                    refine w_il dX8_meetOf_95 rfl ?_
                    refine w_goto dX8_meetOf_97 ?_
                    have e1 : mtP σ x y a i = k := by rw [← hk8]; exact fi_y (by omega) (mtB_y (by omega) (by omega))
                    have e2 : mtD σ x y a = i := by rw [← hf]; exact fi_y (by omega) (decide_eq_true (by omega))
                    refine w_iret dX8_meetOf_102 rfl ?_
                    rw [← hQ]
                    exact ⟨_, rfl, by rw [v_meet, e2, if_pos (by omega), if_pos h92], (MInv.fr (MInv.fr hM1 hFg4 (by decide)) hFg5 (by decide)), (EqC.tr (EqC.tr hE1 (Fr.eqC hFg4 (by decide))) (Fr.eqC hFg5 (by decide)))⟩
        exact L53 _ 0 (by omega) (rfl) (Nat.lt_succ_self _)
  exact L19 _ 0 ρb3 (by omega) ((MInv.fr (MInv.fr hMl1 hFb2 (by decide)) hFb3 (by decide))) ((EqC.tr (EqC.tr (EqC.tr EqC.rf hEl1) (Fr.eqC hFb2 (by decide))) (Fr.eqC hFb3 (by decide)))) ((Laid.fr (Laid.fr hDl1 hFb2 (by decide)) hFb3 (by decide))) (fun q hq => by rw [hNb3 _ (by omega)]; exact hSb2 q hq) (hSb3) (rfl) (Nat.lt_succ_self _)

set_option maxHeartbeats 4000000 in
theorem c_X8_meet (ρ : Rho) (σ : Sg) (p : Int32) (q : Int32) (d : Int32) (w : Int32) (hM : MInv σ ρ) : CallOK 6 mX8_meet [.ref 47, .int p, .int q, .int d, .int w] ρ (fun r ρ2 => ∃ v, r = some v ∧ (v = .int (r_meet σ p q d w) ∧ MInv (σ) ρ2 ∧ EqC ρ ρ2)) := by
  refine callOK_of 0 (by decide +kernel) rfl (fun _ => Nat.le_of_ble_eq_true rfl) (ls := [some (.ref 47), some (.int p), some (.int q), some (.int d), some (.int w)]) rfl ?_
  generalize hQ : (fun r ρ2 => ∃ v, r = some v ∧ (v = .int (r_meet σ p q d w) ∧ MInv (σ) ρ2 ∧ EqC ρ ρ2) : Option Value → Rho → Prop) = Q
  refine w_il dX8_meet_0 rfl ?_
  refine w_cSf dX8_meet_1 (sl_X8_118 _ rfl) (by decide) (c_X8_isEighth ρ p) rfl rfl (Nat.le_of_ble_eq_true rfl) ?_
  refine w_ifeqB dX8_meet_4 (fun h4 => ?_) (fun h4 => ?_)
  · --t
    refine w_k dX8_meet_48 ?_
    refine w_iret dX8_meet_50 rfl ?_
    rw [← hQ]
    exact ⟨_, rfl, by rw [r_meet, if_neg (fun z => h4 z.1)], hM, EqC.rf⟩
  · --f
    obtain ⟨x, hx, rfl⟩ := inR_nI h4 (by decide)
    refine w_il dX8_meet_7 rfl ?_
    refine w_cSf dX8_meet_8 (sl_X8_118 _ rfl) (by decide) (c_X8_isEighth ρ q) rfl rfl (Nat.le_of_ble_eq_true rfl) ?_
    refine w_ifeqB dX8_meet_11 (fun h11 => ?_) (fun h11 => ?_)
    · --t
      refine w_k dX8_meet_48 ?_
      refine w_iret dX8_meet_50 rfl ?_
      rw [← hQ]
      exact ⟨_, rfl, by rw [r_meet, if_neg (fun z => h11 z.2.1)], hM, EqC.rf⟩
    · --f
      obtain ⟨y, hy, rfl⟩ := inR_nI h11 (by decide)
      refine w_il dX8_meet_14 rfl ?_
      refine w_il dX8_meet_15 rfl ?_
      refine w_iceqN dX8_meet_16 (by omega) (by omega) (fun h16 => ?_) (fun h16 => ?_)
      · --t
        refine w_k dX8_meet_48 ?_
        refine w_iret dX8_meet_50 rfl ?_
        rw [← hQ]
        exact ⟨_, rfl, by rw [r_meet, if_neg (fun z => z.2.2.1 (congrArg nI h16))], hM, EqC.rf⟩
      · --f
        refine w_il dX8_meet_19 rfl ?_
        refine w_cSf dX8_meet_20 (sl_X8_148 _ rfl) (by decide) (c_X8_isDay ρ d) rfl rfl (Nat.le_of_ble_eq_true rfl) ?_
        refine w_ifeqB dX8_meet_23 (fun h23 => ?_) (fun h23 => ?_)
        · --t
          refine w_k dX8_meet_48 ?_
          refine w_iret dX8_meet_50 rfl ?_
          rw [← hQ]
          exact ⟨_, rfl, by rw [r_meet, if_neg (fun z => h23 z.2.2.2.1)], hM, EqC.rf⟩
        · --f
          obtain ⟨a, ha, rfl⟩ := inR_nI h23 (by decide)
          refine w_il dX8_meet_26 rfl ?_
          refine w_k dX8_meet_28 ?_
          refine w_k dX8_meet_29 ?_
          refine w_cSf dX8_meet_30 (sl_X8_89 _ rfl) (by decide) (c_X8_in ρ w (nI 0) (nI 1)) rfl rfl (Nat.le_of_ble_eq_true rfl) ?_
          refine w_ifeqB dX8_meet_33 (fun h33 => ?_) (fun h33 => ?_)
          · --t
            refine w_k dX8_meet_48 ?_
            refine w_iret dX8_meet_50 rfl ?_
            rw [← hQ]
            exact ⟨_, rfl, by rw [r_meet, if_neg (fun z => h33 z.2.2.2.2)], hM, EqC.rf⟩
          · --f
            obtain ⟨v, hv, rfl⟩ := inR_nI h33 (by decide)
            refine w_al dX8_meet_36 rfl ?_
            refine w_il dX8_meet_37 rfl ?_
            refine w_il dX8_meet_38 rfl ?_
            refine w_il dX8_meet_39 rfl ?_
            refine w_il dX8_meet_40 rfl ?_
            refine w_cVr dX8_meet_42 (vl_X8_207 _ rfl) sh47 (by decide) (c_X8_meetOf ρ σ x y a v hM (by omega) (by omega) (by omega) (by omega)) rfl rfl (Nat.le_of_ble_eq_true rfl) (fun vh1 ρh1 hh1 => ?_)
            obtain ⟨rfl, hMh1, hEh1⟩ := hh1
            refine w_goto dX8_meet_45 ?_
            refine w_iret dX8_meet_50 rfl ?_
            rw [← hQ]
            exact ⟨_, rfl, by rw [r_meet, if_pos ⟨h4, h11, (fun e => h16 ((nI_eq (by omega) (by omega)).mp e)), h23, h33⟩, nv_nI (a := x) (by omega), nv_nI (a := y) (by omega), nv_nI (a := a) (by omega), nv_nI (a := v) (by omega)], hMh1, (EqC.tr EqC.rf hEh1)⟩
