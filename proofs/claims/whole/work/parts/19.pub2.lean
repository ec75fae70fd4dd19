theorem back_nI {g : Int32} {n : Nat} (h : inR g (nI 0) (nI n - nI 1)) (hn : n ≤ 60) : ∃ a, a < n ∧ g = nI a := by
  cases n with
  | zero =>
    exfalso
    have h1 := h.1
    have h2 := h.2
    have e : nI 0 - nI 1 = -1 := by decide
    rw [e] at h2
    rw [Int32.le_iff_toInt_le] at h1 h2
    have a1 : (nI 0).toInt = 0 := by decide
    have a2 : (-1 : Int32).toInt = -1 := by decide
    omega
  | succ n =>
    rw [pk_sub (by omega)] at h
    obtain ⟨a, ha, e⟩ := inR_nI h (by omega)
    exact ⟨a, by omega, e⟩
theorem addG_C {σ : Sg} {ρ : Rho} {d f t : Nat} (h : CP σ ρ) (hd : d < 100) (hf : f ≤ 1) (ht : t ≤ 999) (hg : σ.1 47 7 < 60) : CP (addG σ d f t) (wI (wI (wI (wI (wI (wI ρ 11 (σ.1 47 7) (nI d)) 12 (σ.1 47 7) (nI f)) 13 (σ.1 47 7) (nI t)) 14 (σ.1 47 7) (-1)) 10 5 (nI t)) 10 0 (nI (σ.1 47 7 + 1))) := by
  have c1 := CP.wN (a := 11) (b := 53) (i := σ.1 47 7) (v := d) h (by decide) (Wf.sN h.1 (by simp [okN] <;> omega))
  have c2 := CP.wN (a := 12) (b := 54) (i := σ.1 47 7) (v := f) c1 (by decide) (Wf.sN c1.1 (by simp [okN] <;> omega))
  have c3 := CP.wN (a := 13) (b := 55) (i := σ.1 47 7) (v := t) c2 (by decide) (Wf.sN c2.1 (by simp [okN] <;> omega))
  have c4 := CP.wZ (a := 14) (b := 56) (i := σ.1 47 7) (v := -1) c3 (by decide) (Wf.sZ c3.1 (fun e => absurd e (by decide)) (fun _ => Or.inl rfl))
  have c5 := CP.wS (a := 10) (s := 5) (b := 47) (i := 12) (v := t) c4 (by decide) (Wf.sN c4.1 (by simp [okN] <;> omega))
  exact CP.wS (a := 10) (s := 0) (b := 47) (i := 7) (v := σ.1 47 7 + 1) c5 (by decide) (Wf.sN c5.1 (by simp [okN] <;> omega))
theorem addG_M {σ : Sg} {ρ : Rho} {d f t : Nat} (h : MInv σ ρ) (hd : d < 100) (hf : f ≤ 1) (ht : t ≤ 999) (hg : σ.1 47 7 < 60) : MInv (addG σ d f t) (wI (wI (wI (wI (wI (wI ρ 53 (σ.1 47 7) (nI d)) 54 (σ.1 47 7) (nI f)) 55 (σ.1 47 7) (nI t)) 56 (σ.1 47 7) (-1)) 47 12 (nI t)) 47 7 (nI (σ.1 47 7 + 1))) := by
  have c1 := MInv.wN (k := 53) (i := σ.1 47 7) (v := d) h (by decide) (Wf.sN h.1 (by simp [okN] <;> omega))
  have c2 := MInv.wN (k := 54) (i := σ.1 47 7) (v := f) c1 (by decide) (Wf.sN c1.1 (by simp [okN] <;> omega))
  have c3 := MInv.wN (k := 55) (i := σ.1 47 7) (v := t) c2 (by decide) (Wf.sN c2.1 (by simp [okN] <;> omega))
  have c4 := MInv.wZ (k := 56) (i := σ.1 47 7) (v := -1) c3 (by decide) (Wf.sZ c3.1 (fun e => absurd e (by decide)) (fun _ => Or.inl rfl))
  have c5 := MInv.wS (i := 12) (v := t) c4 (by decide) (Wf.sN c4.1 (by simp [okN] <;> omega))
  exact MInv.wS (i := 7) (v := σ.1 47 7 + 1) c5 (by decide) (Wf.sN c5.1 (by simp [okN] <;> omega))
theorem addG_L {σ : Sg} {ρ : Rho} {d f t : Nat} (h : CLd σ ρ) : CLd (addG σ d f t) ρ := CLd.sN (CLd.sN (CLd.sZ (CLd.sN (CLd.sN (CLd.sN h (by omega)) (by omega)) (by omega))) (by omega)) (by omega)
set_option maxHeartbeats 4000000 in
theorem c_X7_sun (ρ : Rho) (σ : Sg) (p : Int32) (q : Int32) (hC : CInv σ ρ) : CallOK 1 mX7_sun [.ref 0, .int p, .int q] ρ (fun r ρ2 => ∃ v, r = some v ∧ (v = .int (r_sun σ p q) ∧ CInv (n_sun σ p q) ρ2 ∧ EqM ρ ρ2)) := by
  refine callOK_of 1 (by decide +kernel) rfl (fun _ => Nat.le_of_ble_eq_true rfl) (ls := [some (.ref 0), some (.int p), some (.int q), none]) rfl ?_
  generalize hQ : (fun r ρ2 => ∃ v, r = some v ∧ (v = .int (r_sun σ p q) ∧ CInv (n_sun σ p q) ρ2 ∧ EqM ρ ρ2) : Option Value → Rho → Prop) = Q
  refine w_il dX7_sun_0 rfl ?_
  refine w_k dX7_sun_1 ?_
  refine w_cSf dX7_sun_3 (sl_X7_61 _ rfl) (by decide) (c_X7_within ρ p (nI 7)) rfl rfl (Nat.le_of_ble_eq_true rfl) ?_
  refine w_ifeqB dX7_sun_6 (fun h6 => ?_) (fun h6 => ?_)
  · --t
    refine w_k dX7_sun_18 ?_
    refine w_iret dX7_sun_20 rfl ?_
    rw [← hQ]
    exact ⟨_, rfl, by rw [r_sun, if_neg (fun z => h6 z.1)], by rw [n_sun, if_neg (fun z => h6 z.1)]; exact ⟨hC.1, hC.2.1, hC.2.2⟩, EqM.rf⟩
  · --f
    obtain ⟨x, hx, rfl⟩ := inR_nI h6 (by decide)
    refine w_il dX7_sun_9 rfl ?_
    refine w_k dX7_sun_10 ?_
    refine w_cSf dX7_sun_12 (sl_X7_61 _ rfl) (by decide) (c_X7_within ρ q (nI 9)) rfl rfl (Nat.le_of_ble_eq_true rfl) ?_
    refine w_ifneB dX7_sun_15 (fun h15 => ?_) (fun h15 => ?_)
    · --t
      obtain ⟨y, hy, rfl⟩ := inR_nI h15 (by decide)
      refine w_al dX7_sun_21 rfl ?_
      refine w_gr dX7_sun_22 fl_X7_10 sh0 rfl ?_
      refine w_gr dX7_sun_25 fl_X7_84 sh1 rfl ?_
      refine w_il dX7_sun_28 rfl ?_
      refine w_ialdV (v := (nI (σ.1 52 x))) dX7_sun_29 sh5 (by omega) (hC.1.2.1 (5, 52) (by decide) _) ?_
      refine w_is (ls2 := [some (.ref 0), some (.int (nI x)), some (.int (nI y)), some (.int (nI (σ.1 52 x)))]) dX7_sun_30 rfl ?_
      refine w_al dX7_sun_31 rfl ?_
      refine w_gr dX7_sun_32 fl_X7_10 sh0 rfl ?_
      refine w_gr dX7_sun_35 fl_X7_84 sh1 rfl ?_
      refine w_il dX7_sun_38 rfl ?_
      refine w_il dX7_sun_39 rfl ?_
      refine w_iastN dX7_sun_40 sh5 (by omega) ?_
      refine w_il dX7_sun_41 rfl ?_
      refine w_iret dX7_sun_42 rfl ?_
      rw [← hQ]
      exact ⟨_, rfl, by rw [r_sun, if_pos ⟨h6, h15⟩, nv_nI (by omega)], by rw [n_sun, if_pos ⟨h6, h15⟩, nv_nI (by omega), nv_nI (by omega)]; exact ⟨CP.wN hC.1 (by decide) (Wf.sN hC.1.1 (by simp [okN] <;> omega)), CLd.sN (CLd.only hC.2.1 only_wI (by decide)) (by omega), CTn.sN (CTn.only hC.2.2 only_wI (by decide)) (by omega)⟩, (EqM.only EqM.rf only_wI (by decide))⟩
    · --f
      refine w_k dX7_sun_18 ?_
      refine w_iret dX7_sun_20 rfl ?_
      rw [← hQ]
      exact ⟨_, rfl, by rw [r_sun, if_neg (fun z => h15 z.2)], by rw [n_sun, if_neg (fun z => h15 z.2)]; exact ⟨hC.1, hC.2.1, hC.2.2⟩, EqM.rf⟩

set_option maxHeartbeats 4000000 in
theorem c_X8_sun (ρ : Rho) (σ : Sg) (p : Int32) (q : Int32) (hM : MInv σ ρ) : CallOK 2 mX8_sun [.ref 47, .int p, .int q] ρ (fun r ρ2 => ∃ v, r = some v ∧ (v = .int (r_sun σ p q) ∧ MInv (n_sun σ p q) ρ2 ∧ EqC ρ ρ2)) := by
  refine callOK_of 1 (by decide +kernel) rfl (fun _ => Nat.le_of_ble_eq_true rfl) (ls := [some (.ref 47), some (.int p), some (.int q), none]) rfl ?_
  generalize hQ : (fun r ρ2 => ∃ v, r = some v ∧ (v = .int (r_sun σ p q) ∧ MInv (n_sun σ p q) ρ2 ∧ EqC ρ ρ2) : Option Value → Rho → Prop) = Q
  refine w_il dX8_sun_0 rfl ?_
  refine w_cSf dX8_sun_1 (sl_X8_118 _ rfl) (by decide) (c_X8_isEighth ρ p) rfl rfl (Nat.le_of_ble_eq_true rfl) ?_
  refine w_ifeqB dX8_sun_4 (fun h4 => ?_) (fun h4 => ?_)
  · --t
    refine w_k dX8_sun_17 ?_
    refine w_iret dX8_sun_19 rfl ?_
    rw [← hQ]
    exact ⟨_, rfl, by rw [r_sun, if_neg (fun z => h4 z.1)], by rw [n_sun, if_neg (fun z => h4 z.1)]; exact hM, EqC.rf⟩
  · --f
    obtain ⟨x, hx, rfl⟩ := inR_nI h4 (by decide)
    refine w_il dX8_sun_7 rfl ?_
    refine w_k dX8_sun_8 ?_
    refine w_k dX8_sun_9 ?_
    refine w_cSf dX8_sun_11 (sl_X8_89 _ rfl) (by decide) (c_X8_in ρ q (nI 0) (nI 9)) rfl rfl (Nat.le_of_ble_eq_true rfl) ?_
    refine w_ifneB dX8_sun_14 (fun h14 => ?_) (fun h14 => ?_)
    · --t
      obtain ⟨y, hy, rfl⟩ := inR_nI h14 (by decide)
      refine w_al dX8_sun_20 rfl ?_
      refine w_gr dX8_sun_21 fl_X8_22 sh47 rfl ?_
      refine w_il dX8_sun_24 rfl ?_
      refine w_ialdV (v := (nI (σ.1 52 x))) dX8_sun_25 sh52 (by omega) (hM.2.1 52 (by decide) _) ?_
      refine w_is (ls2 := [some (.ref 47), some (.int (nI x)), some (.int (nI y)), some (.int (nI (σ.1 52 x)))]) dX8_sun_26 rfl ?_
      refine w_al dX8_sun_27 rfl ?_
      refine w_gr dX8_sun_28 fl_X8_22 sh47 rfl ?_
      refine w_il dX8_sun_31 rfl ?_
      refine w_il dX8_sun_32 rfl ?_
      refine w_iastN dX8_sun_33 sh52 (by omega) ?_
      refine w_il dX8_sun_34 rfl ?_
      refine w_iret dX8_sun_35 rfl ?_
      rw [← hQ]
      exact ⟨_, rfl, by rw [r_sun, if_pos ⟨h4, h14⟩, nv_nI (by omega)], by rw [n_sun, if_pos ⟨h4, h14⟩, nv_nI (by omega), nv_nI (by omega)]; exact MInv.wN hM (by decide) (Wf.sN hM.1 (by simp [okN] <;> omega)), (EqC.w EqC.rf (by decide))⟩
    · --f
      refine w_k dX8_sun_17 ?_
      refine w_iret dX8_sun_19 rfl ?_
      rw [← hQ]
      exact ⟨_, rfl, by rw [r_sun, if_neg (fun z => h14 z.2)], by rw [n_sun, if_neg (fun z => h14 z.2)]; exact hM, EqC.rf⟩

set_option maxHeartbeats 4000000 in
theorem c_X3_append (ρ : Rho) (σ : Sg) (b : Nat) (hC : CInv σ ρ) (hb : b < 256) : CallOK 5 mX3_append [.ref 1, .int (nI b)] ρ (fun r ρ2 => ∃ v, r = some v ∧ (v = .int (if σ.1 47 0 = 60 then -4 else nI (σ.1 47 0 + 1)) ∧ CInv (if σ.1 47 0 = 60 then σ else (sN (sN σ 48 (σ.1 47 0) b) 47 0 (σ.1 47 0 + 1))) ρ2 ∧ EqM ρ ρ2)) := by
  refine callOK_of 0 (by decide +kernel) rfl (fun _ => Nat.le_of_ble_eq_true rfl) (ls := [some (.ref 1), some (.int (nI b))]) rfl ?_
  generalize hQ : (fun r ρ2 => ∃ v, r = some v ∧ (v = .int (if σ.1 47 0 = 60 then -4 else nI (σ.1 47 0 + 1)) ∧ CInv (if σ.1 47 0 = 60 then σ else (sN (sN σ 48 (σ.1 47 0) b) 47 0 (σ.1 47 0 + 1))) ρ2 ∧ EqM ρ ρ2) : Option Value → Rho → Prop) = Q
  have w1 := hC.1.1.typed
  refine w_al dX3_append_0 rfl ?_
  refine w_giV (v := (nI (σ.1 47 0))) dX3_append_1 fl_X3_15 sh1 rfl (hC.1.2.2.2.1 (1, 1, 47, 0) (by decide)) ?_
  refine w_k dX3_append_4 ?_
  refine w_icltN dX3_append_6 (by omega) (by omega) (fun h6 => ?_) (fun h6 => ?_)
  · --t
    refine w_al dX3_append_12 rfl ?_
    refine w_gr dX3_append_13 fl_X3_9 sh1 rfl ?_
    refine w_al dX3_append_16 rfl ?_
    refine w_giV (v := (nI (σ.1 47 0))) dX3_append_17 fl_X3_15 sh1 rfl (hC.1.2.2.2.1 (1, 1, 47, 0) (by decide)) ?_
    refine w_il dX3_append_20 rfl ?_
    refine w_iastN dX3_append_21 sh2 (by omega) ?_
    refine w_al dX3_append_22 rfl ?_
    refine w_dup dX3_append_23 rfl ?_
    refine w_giV (v := (nI (σ.1 47 0))) dX3_append_24 fl_X3_15 sh1 rfl (rI_c (by decide) (hC.1.2.2.2.1 (1, 1, 47, 0) (by decide))) ?_
    refine w_k dX3_append_27 ?_
    refine w_iaddN dX3_append_28 ?_
    refine w_pi dX3_append_29 fp_X3_15 sh1 rfl rfl rfl ?_
    refine w_al dX3_append_32 rfl ?_
    refine w_cVu dX3_append_33 (vl_X3_46 _ rfl) sh1 (by decide) (c_X3_interpret (wI (wI ρ 2 (σ.1 47 0) (nI b)) 1 1 (nI (σ.1 47 0 + 1))) (sN (sN σ 48 (σ.1 47 0) b) 47 0 (σ.1 47 0 + 1)) (CP.wS (CP.wN hC.1 (by decide) (Wf.sN hC.1.1 (by simp [okN] <;> omega))) (by decide) (Wf.sN (Wf.sN hC.1.1 (by simp [okN] <;> omega)) (by simp [okN] <;> omega)))) rfl rfl (Nat.le_of_ble_eq_true rfl) (fun ρi hi => ?_)
    obtain ⟨hCi, hLi, hFi⟩ := hi
    refine w_al dX3_append_36 rfl ?_
    refine w_giV (v := (nI (σ.1 47 0 + 1))) dX3_append_37 fl_X3_15 sh1 rfl (by rw [hCi.2.2.2.1 (1, 1, 47, 0) (by decide)]; exact congrArg nI sN_eq) ?_
    refine w_iret dX3_append_40 rfl ?_
    rw [← hQ]
    have e : ¬ σ.1 47 0 = 60 := by omega
    exact ⟨_, rfl, by rw [if_neg e], by rw [if_neg e]; exact ⟨hCi, hLi, CTn.sN (CTn.sN (CTn.fr (CTn.only (CTn.only hC.2.2 only_wI (by decide)) only_wI (by decide)) hFi (by decide)) (by omega)) (by omega)⟩, (EqM.tr (EqM.only (EqM.only EqM.rf only_wI (by decide)) only_wI (by decide)) (Fr.eqM hFi (by decide)))⟩
  · --f
    refine w_k dX3_append_9 ?_
    refine w_iret dX3_append_11 rfl ?_
    rw [← hQ]
    have e : σ.1 47 0 = 60 := by omega
    exact ⟨_, rfl, by rw [if_pos e], by rw [if_pos e]; exact hC, EqM.rf⟩

set_option maxHeartbeats 4000000 in
theorem c_X7_type (ρ : Rho) (σ : Sg) (p : Int32) (hC : CInv σ ρ) : CallOK 6 mX7_type [.ref 0, .int p] ρ (fun r ρ2 => ∃ v, r = some v ∧ (v = .int (r_type σ p) ∧ CInv (n_type σ p) ρ2 ∧ EqM ρ ρ2)) := by
  refine callOK_of 0 (by decide +kernel) rfl (fun _ => Nat.le_of_ble_eq_true rfl) (ls := [some (.ref 0), some (.int p)]) rfl ?_
  generalize hQ : (fun r ρ2 => ∃ v, r = some v ∧ (v = .int (r_type σ p) ∧ CInv (n_type σ p) ρ2 ∧ EqM ρ ρ2) : Option Value → Rho → Prop) = Q
  refine w_il dX7_type_0 rfl ?_
  refine w_k dX7_type_1 ?_
  refine w_cSf dX7_type_4 (sl_X7_61 _ rfl) (by decide) (c_X7_within ρ p (nI 255)) rfl rfl (Nat.le_of_ble_eq_true rfl) ?_
  refine w_ifneB dX7_type_7 (fun h7 => ?_) (fun h7 => ?_)
  · --t
    obtain ⟨x, hx, rfl⟩ := inR_nI h7 (by decide)
    refine w_al dX7_type_13 rfl ?_
    refine w_gr dX7_type_14 fl_X7_10 sh0 rfl ?_
    refine w_il dX7_type_17 rfl ?_
    refine w_cVr dX7_type_18 (vl_X7_65 _ rfl) sh1 (by decide) (c_X3_append ρ σ x hC (by omega)) rfl rfl (Nat.le_of_ble_eq_true rfl) (fun va ρa ha9 => ?_)
    obtain ⟨rfl, hCa, hEa⟩ := ha9
    refine w_iret dX7_type_21 rfl ?_
    rw [← hQ]
    exact ⟨_, rfl, by rw [r_type, if_pos h7], by rw [n_type, if_pos h7, nv_nI (by omega)]; exact hCa, hEa⟩
  · --f
    refine w_k dX7_type_10 ?_
    refine w_iret dX7_type_12 rfl ?_
    rw [← hQ]
    exact ⟨_, rfl, by rw [r_type, if_neg (fun z => h7 z)], by rw [n_type, if_neg (fun z => h7 z)]; exact ⟨hC.1, hC.2.1, hC.2.2⟩, EqM.rf⟩

set_option maxHeartbeats 4000000 in
theorem c_X8_type (ρ : Rho) (σ : Sg) (p : Int32) (hM : MInv σ ρ) : CallOK 1 mX8_type [.ref 47, .int p] ρ (fun r ρ2 => ∃ v, r = some v ∧ (v = .int (r_type σ p) ∧ MInv (n_type σ p) ρ2 ∧ EqC ρ ρ2)) := by
  refine callOK_of 0 (by decide +kernel) rfl (fun _ => Nat.le_of_ble_eq_true rfl) (ls := [some (.ref 47), some (.int p)]) rfl ?_
  generalize hQ : (fun r ρ2 => ∃ v, r = some v ∧ (v = .int (r_type σ p) ∧ MInv (n_type σ p) ρ2 ∧ EqC ρ ρ2) : Option Value → Rho → Prop) = Q
  have w1 := hM.1.typed
  have w2 := hM.1.gales
  have w3 := hM.1.last
  refine w_il dX8_type_0 rfl ?_
  refine w_k dX8_type_1 ?_
  refine w_k dX8_type_2 ?_
  refine w_cSf dX8_type_5 (sl_X8_89 _ rfl) (by decide) (c_X8_in ρ p (nI 0) (nI 255)) rfl rfl (Nat.le_of_ble_eq_true rfl) ?_
  refine w_ifneB dX8_type_8 (fun h8 => ?_) (fun h8 => ?_)
  · --t
    obtain ⟨x, hx, rfl⟩ := inR_nI h8 (by decide)
    refine w_al dX8_type_14 rfl ?_
    refine w_giV (v := (nI (σ.1 47 0))) dX8_type_15 fl_X8_93 sh47 rfl (hM.2.2.2 0 (by decide)) ?_
    refine w_k dX8_type_18 ?_
    refine w_icneN dX8_type_20 (by omega) (by omega) (fun h20 => ?_) (fun h20 => ?_)
    · --t
      refine w_al dX8_type_26 rfl ?_
      refine w_gr dX8_type_27 fl_X8_7 sh47 rfl ?_
      refine w_al dX8_type_30 rfl ?_
      refine w_giV (v := (nI (σ.1 47 0))) dX8_type_31 fl_X8_93 sh47 rfl (hM.2.2.2 0 (by decide)) ?_
      refine w_il dX8_type_34 rfl ?_
      refine w_iastN dX8_type_35 sh48 (by omega) ?_
      refine w_al dX8_type_36 rfl ?_
      refine w_dup dX8_type_37 rfl ?_
      refine w_giV (v := (nI (σ.1 47 0))) dX8_type_38 fl_X8_93 sh47 rfl (rI_c (by decide) (hM.2.2.2 0 (by decide))) ?_
      refine w_k dX8_type_41 ?_
      refine w_iaddN dX8_type_42 ?_
      refine w_pi dX8_type_43 fp_X8_93 sh47 rfl rfl rfl ?_
      refine w_al dX8_type_46 rfl ?_
      refine w_giV (v := (nI (σ.1 47 0 + 1))) dX8_type_47 fl_X8_93 sh47 rfl (rI_eq) ?_
      refine w_iret dX8_type_50 rfl ?_
      rw [← hQ]
      exact ⟨_, rfl, by rw [r_type, if_pos h8, if_neg h20], by rw [n_type, if_pos h8, if_neg h20, nv_nI (by omega)]; exact MInv.wS (MInv.wN hM (by decide) (Wf.sN hM.1 (by simp [okN] <;> omega))) (by decide) (Wf.sN (Wf.sN hM.1 (by simp [okN] <;> omega)) (by simp [okN] <;> omega)), (EqC.w (EqC.w EqC.rf (by decide)) (by decide))⟩
    · --f
      refine w_k dX8_type_23 ?_
      refine w_iret dX8_type_25 rfl ?_
      rw [← hQ]
      exact ⟨_, rfl, by rw [r_type, if_pos h8, if_pos h20], by rw [n_type, if_pos h8, if_pos h20]; exact hM, EqC.rf⟩
  · --f
    refine w_k dX8_type_11 ?_
    refine w_iret dX8_type_13 rfl ?_
    rw [← hQ]
    exact ⟨_, rfl, by rw [r_type, if_neg (fun z => h8 z)], by rw [n_type, if_neg (fun z => h8 z)]; exact hM, EqC.rf⟩

set_option maxHeartbeats 4000000 in
theorem c_X3_empty (ρ : Rho) (σ : Sg) (hC : CInv σ ρ) : CallOK 5 mX3_empty [.ref 1] ρ (fun r ρ2 => ∃ v, r = some v ∧ (v = .int (nI (σ.1 47 0)) ∧ CInv (n_wipe σ) ρ2 ∧ EqM ρ ρ2)) := by
  refine callOK_of 1 (by decide +kernel) rfl (fun _ => Nat.le_of_ble_eq_true rfl) (ls := [some (.ref 1), none]) rfl ?_
  generalize hQ : (fun r ρ2 => ∃ v, r = some v ∧ (v = .int (nI (σ.1 47 0)) ∧ CInv (n_wipe σ) ρ2 ∧ EqM ρ ρ2) : Option Value → Rho → Prop) = Q
  refine w_al dX3_empty_0 rfl ?_
  refine w_giV (v := (nI (σ.1 47 0))) dX3_empty_1 fl_X3_15 sh1 rfl (hC.1.2.2.2.1 (1, 1, 47, 0) (by decide)) ?_
  refine w_is (ls2 := [some (.ref 1), some (.int (nI (σ.1 47 0)))]) dX3_empty_4 rfl ?_
  refine w_al dX3_empty_5 rfl ?_
  refine w_k dX3_empty_6 ?_
  refine w_pi dX3_empty_7 fp_X3_15 sh1 rfl rfl rfl ?_
  refine w_al dX3_empty_10 rfl ?_
  refine w_cVu dX3_empty_11 (vl_X3_46 _ rfl) sh1 (by decide) (c_X3_interpret (wI ρ 1 1 (nI 0)) (n_wipe σ) (CP.wS hC.1 (by decide) (Wf.sN hC.1.1 (by simp [okN] <;> omega)))) rfl rfl (Nat.le_of_ble_eq_true rfl) (fun ρi hi => ?_)
  obtain ⟨hCi, hLi, hFi⟩ := hi
  refine w_il dX3_empty_14 rfl ?_
  refine w_iret dX3_empty_15 rfl ?_
  rw [← hQ]
  exact ⟨_, rfl, rfl, ⟨hCi, hLi, CTn.sN (CTn.fr (CTn.only hC.2.2 only_wI (by decide)) hFi (by decide)) (by omega)⟩, (EqM.tr (EqM.only EqM.rf only_wI (by decide)) (Fr.eqM hFi (by decide)))⟩

set_option maxHeartbeats 4000000 in
theorem c_X7_wipe (ρ : Rho) (σ : Sg)  (hC : CInv σ ρ) : CallOK 6 mX7_wipe [.ref 0] ρ (fun r ρ2 => ∃ v, r = some v ∧ (v = .int (nI (σ.1 47 0)) ∧ CInv (n_wipe σ) ρ2 ∧ EqM ρ ρ2)) := by
  refine callOK_of 0 (by decide +kernel) rfl (fun _ => Nat.le_of_ble_eq_true rfl) (ls := [some (.ref 0)]) rfl ?_
  generalize hQ : (fun r ρ2 => ∃ v, r = some v ∧ (v = .int (nI (σ.1 47 0)) ∧ CInv (n_wipe σ) ρ2 ∧ EqM ρ ρ2) : Option Value → Rho → Prop) = Q
  refine w_al dX7_wipe_0 rfl ?_
  refine w_gr dX7_wipe_1 fl_X7_10 sh0 rfl ?_
  refine w_cVr dX7_wipe_4 (vl_X7_69 _ rfl) sh1 (by decide) (c_X3_empty ρ σ hC) rfl rfl (Nat.le_of_ble_eq_true rfl) (fun va ρa ha9 => ?_)
  obtain ⟨rfl, hCa, hEa⟩ := ha9
  refine w_iret dX7_wipe_7 rfl ?_
  rw [← hQ]
  exact ⟨_, rfl, rfl, hCa, hEa⟩

set_option maxHeartbeats 4000000 in
theorem c_X8_wipe (ρ : Rho) (σ : Sg)  (hM : MInv σ ρ) : CallOK 0 mX8_wipe [.ref 47] ρ (fun r ρ2 => ∃ v, r = some v ∧ (v = .int (nI (σ.1 47 0)) ∧ MInv (n_wipe σ) ρ2 ∧ EqC ρ ρ2)) := by
  refine callOK_of 1 (by decide +kernel) rfl (fun _ => Nat.le_of_ble_eq_true rfl) (ls := [some (.ref 47), none]) rfl ?_
  generalize hQ : (fun r ρ2 => ∃ v, r = some v ∧ (v = .int (nI (σ.1 47 0)) ∧ MInv (n_wipe σ) ρ2 ∧ EqC ρ ρ2) : Option Value → Rho → Prop) = Q
  refine w_al dX8_wipe_0 rfl ?_
  refine w_giV (v := (nI (σ.1 47 0))) dX8_wipe_1 fl_X8_93 sh47 rfl (hM.2.2.2 0 (by decide)) ?_
  refine w_is (ls2 := [some (.ref 47), some (.int (nI (σ.1 47 0)))]) dX8_wipe_4 rfl ?_
  refine w_al dX8_wipe_5 rfl ?_
  refine w_k dX8_wipe_6 ?_
  refine w_pi dX8_wipe_7 fp_X8_93 sh47 rfl rfl rfl ?_
  refine w_il dX8_wipe_10 rfl ?_
  refine w_iret dX8_wipe_11 rfl ?_
  rw [← hQ]
  exact ⟨_, rfl, rfl, MInv.wS hM (by decide) (Wf.sN hM.1 (by simp [okN] <;> omega)), (EqC.w EqC.rf (by decide))⟩

set_option maxHeartbeats 4000000 in
theorem c_X3_joins (ρ : Rho) (σ : Sg) (k x y : Nat) (hL : CLd σ ρ) (hk : k < NB σ) (hx : x < 8) (hy : y < 8) : CallOK 0 mX3_joins [.ref 1, .int (nI k), .int (nI x), .int (nI y)] ρ (fun r ρ2 => r = some (.int (b2i ((Br σ (4 * k) = x ∧ Br σ (4 * k + 1) = y) ∨ (Br σ (4 * k) = y ∧ Br σ (4 * k + 1) = x)))) ∧ ρ2 = ρ) := by
  refine callOK_of 0 (by decide +kernel) rfl (fun _ => Nat.le_of_ble_eq_true rfl) (ls := [some (.ref 1), some (.int (nI k)), some (.int (nI x)), some (.int (nI y))]) rfl ?_
  generalize hQ : (fun r ρ2 => r = some (.int (b2i ((Br σ (4 * k) = x ∧ Br σ (4 * k + 1) = y) ∨ (Br σ (4 * k) = y ∧ Br σ (4 * k + 1) = x)))) ∧ ρ2 = ρ : Option Value → Rho → Prop) = Q
  have wb := (NB_ok σ).2 k hk
  have wn := (NB_ok σ).1
  have wa := wb.1
  have wc := wb.2.1
  have wd := wb.2.2.2.2.1
  have we := wb.2.2.2.1
  have wf := wb.2.2.2.2.2
  refine w_al dX3_joins_0 rfl ?_
  refine w_gr dX3_joins_1 fl_X3_34 sh1 rfl ?_
  refine w_il dX3_joins_4 rfl ?_
  refine w_ialdV (v := (nI (Br σ (4 * k)))) dX3_joins_5 sh6 (by omega) ((hL.2.2.2.1 _ (by omega)).1) ?_
  refine w_il dX3_joins_6 rfl ?_
  refine w_icneN dX3_joins_7 (by omega) (by omega) (fun h7 => ?_) (fun h7 => ?_)
  · --t
    refine w_al dX3_joins_20 rfl ?_
    refine w_gr dX3_joins_21 fl_X3_34 sh1 rfl ?_
    refine w_il dX3_joins_24 rfl ?_
    refine w_ialdV (v := (nI (Br σ (4 * k)))) dX3_joins_25 sh6 (by omega) ((hL.2.2.2.1 _ (by omega)).1) ?_
    refine w_il dX3_joins_26 rfl ?_
    refine w_icneN dX3_joins_27 (by omega) (by omega) (fun h27 => ?_) (fun h27 => ?_)
    · --t
      refine w_k dX3_joins_44 ?_
      refine w_zret dX3_joins_45 rfl rfl ?_
      rw [← hQ]
      exact ⟨congrArg (fun z => some (Value.int z)) (b2i_f (fun z => z.elim (fun q => h7 q.1) (fun q => h27 q.1))).symm, rfl⟩
    · --f
      refine w_al dX3_joins_30 rfl ?_
      refine w_gr dX3_joins_31 fl_X3_37 sh1 rfl ?_
      refine w_il dX3_joins_34 rfl ?_
      refine w_ialdV (v := (nI (Br σ (4 * k + 1)))) dX3_joins_35 sh7 (by omega) ((hL.2.2.2.1 _ (by omega)).2.1) ?_
      refine w_il dX3_joins_36 rfl ?_
      refine w_icneN dX3_joins_37 (by omega) (by omega) (fun h37 => ?_) (fun h37 => ?_)
      · --t
        refine w_k dX3_joins_44 ?_
        refine w_zret dX3_joins_45 rfl rfl ?_
        rw [← hQ]
        exact ⟨congrArg (fun z => some (Value.int z)) (b2i_f (fun z => z.elim (fun q => h7 q.1) (fun q => h37 q.2))).symm, rfl⟩
      · --f
        refine w_k dX3_joins_40 ?_
        refine w_goto dX3_joins_41 ?_
        refine w_zret dX3_joins_45 rfl rfl ?_
        rw [← hQ]
        exact ⟨congrArg (fun z => some (Value.int z)) (b2i_t (Or.inr ⟨h27, h37⟩)).symm, rfl⟩
  · --f
    refine w_al dX3_joins_10 rfl ?_
    refine w_gr dX3_joins_11 fl_X3_37 sh1 rfl ?_
    refine w_il dX3_joins_14 rfl ?_
    refine w_ialdV (v := (nI (Br σ (4 * k + 1)))) dX3_joins_15 sh7 (by omega) ((hL.2.2.2.1 _ (by omega)).2.1) ?_
    refine w_il dX3_joins_16 rfl ?_
    refine w_iceqN dX3_joins_17 (by omega) (by omega) (fun h17 => ?_) (fun h17 => ?_)
    · --t
      refine w_k dX3_joins_40 ?_
      refine w_goto dX3_joins_41 ?_
      refine w_zret dX3_joins_45 rfl rfl ?_
      rw [← hQ]
      exact ⟨congrArg (fun z => some (Value.int z)) (b2i_t (Or.inl ⟨h7, h17⟩)).symm, rfl⟩
    · --f
      refine w_al dX3_joins_20 rfl ?_
      refine w_gr dX3_joins_21 fl_X3_34 sh1 rfl ?_
      refine w_il dX3_joins_24 rfl ?_
      refine w_ialdV (v := (nI (Br σ (4 * k)))) dX3_joins_25 sh6 (by omega) ((hL.2.2.2.1 _ (by omega)).1) ?_
      refine w_il dX3_joins_26 rfl ?_
      refine w_icneN dX3_joins_27 (by omega) (by omega) (fun h27 => ?_) (fun h27 => ?_)
      · --t
        refine w_k dX3_joins_44 ?_
        refine w_zret dX3_joins_45 rfl rfl ?_
        rw [← hQ]
        exact ⟨congrArg (fun z => some (Value.int z)) (b2i_f (fun z => z.elim (fun q => h17 q.2) (fun q => h27 q.1))).symm, rfl⟩
      · --f
        refine w_al dX3_joins_30 rfl ?_
        refine w_gr dX3_joins_31 fl_X3_37 sh1 rfl ?_
        refine w_il dX3_joins_34 rfl ?_
        refine w_ialdV (v := (nI (Br σ (4 * k + 1)))) dX3_joins_35 sh7 (by omega) ((hL.2.2.2.1 _ (by omega)).2.1) ?_
        refine w_il dX3_joins_36 rfl ?_
        refine w_icneN dX3_joins_37 (by omega) (by omega) (fun h37 => ?_) (fun h37 => ?_)
        · --t
          refine w_k dX3_joins_44 ?_
          refine w_zret dX3_joins_45 rfl rfl ?_
          rw [← hQ]
          exact ⟨congrArg (fun z => some (Value.int z)) (b2i_f (fun z => z.elim (fun q => h17 q.2) (fun q => h37 q.2))).symm, rfl⟩
        · --f
          refine w_k dX3_joins_40 ?_
          refine w_goto dX3_joins_41 ?_
          refine w_zret dX3_joins_45 rfl rfl ?_
          rw [← hQ]
          exact ⟨congrArg (fun z => some (Value.int z)) (b2i_t (Or.inr ⟨h27, h37⟩)).symm, rfl⟩

set_option maxHeartbeats 4000000 in
theorem c_X3_meetsAt (ρ : Rho) (σ : Sg) (k t : Nat) (hL : CLd σ ρ) (hk : k < NB σ) (ht : t < 8) : CallOK 0 mX3_meetsAt [.ref 1, .int (nI k), .int (nI t)] ρ (fun r ρ2 => r = some (.int (b2i (t % Br σ (4 * k + 2) = Br σ (4 * k + 3)))) ∧ ρ2 = ρ) := by
  refine callOK_of 1 (by decide +kernel) rfl (fun _ => Nat.le_of_ble_eq_true rfl) (ls := [some (.ref 1), some (.int (nI k)), some (.int (nI t)), none]) rfl ?_
  generalize hQ : (fun r ρ2 => r = some (.int (b2i (t % Br σ (4 * k + 2) = Br σ (4 * k + 3)))) ∧ ρ2 = ρ : Option Value → Rho → Prop) = Q
  have wb := (NB_ok σ).2 k hk
  have wn := (NB_ok σ).1
  have wa := wb.1
  have wc := wb.2.1
  have wd := wb.2.2.2.2.1
  have we := wb.2.2.2.1
  have wf := wb.2.2.2.2.2
  have wz := Nat.mod_le t (Br σ (4 * k + 2))
  refine w_al dX3_meetsAt_0 rfl ?_
  refine w_gr dX3_meetsAt_1 fl_X3_40 sh1 rfl ?_
  refine w_il dX3_meetsAt_4 rfl ?_
  refine w_ialdV (v := (nI (Br σ (4 * k + 2)))) dX3_meetsAt_5 sh8 (by omega) ((hL.2.2.2.1 _ (by omega)).2.2.1) ?_
  refine w_is (ls2 := [some (.ref 1), some (.int (nI k)), some (.int (nI t)), some (.int (nI (Br σ (4 * k + 2))))]) dX3_meetsAt_6 rfl ?_
  refine w_il dX3_meetsAt_7 rfl ?_
  refine w_ifleN dX3_meetsAt_8 (by omega) (fun h8 => ?_) (fun h8 => ?_)
  · --t
    exfalso; omega
  · --f
    refine w_il dX3_meetsAt_11 rfl ?_
    refine w_il dX3_meetsAt_12 rfl ?_
    refine w_iremN dX3_meetsAt_13 (by omega) (by omega) (by omega) ?_
    refine w_al dX3_meetsAt_14 rfl ?_
    refine w_gr dX3_meetsAt_15 fl_X3_43 sh1 rfl ?_
    refine w_il dX3_meetsAt_18 rfl ?_
    refine w_ialdV (v := (nI (Br σ (4 * k + 3)))) dX3_meetsAt_19 sh9 (by omega) ((hL.2.2.2.1 _ (by omega)).2.2.2) ?_
    refine w_icneN dX3_meetsAt_20 (by omega) (by omega) (fun h20 => ?_) (fun h20 => ?_)
    · --t
      refine w_k dX3_meetsAt_27 ?_
      refine w_zret dX3_meetsAt_28 rfl rfl ?_
      rw [← hQ]
      exact ⟨congrArg (fun z => some (Value.int z)) (b2i_f h20).symm, rfl⟩
    · --f
      refine w_k dX3_meetsAt_23 ?_
      refine w_goto dX3_meetsAt_24 ?_
      refine w_zret dX3_meetsAt_28 rfl rfl ?_
      rw [← hQ]
      exact ⟨congrArg (fun z => some (Value.int z)) (b2i_t h20).symm, rfl⟩

set_option maxHeartbeats 4000000 in
theorem c_X7_bridge (ρ : Rho) (σ : Sg) (p : Int32) (q : Int32) (d : Int32) (hC : CInv σ ρ) : CallOK 2 mX7_bridge [.ref 0, .int p, .int q, .int d] ρ (fun r ρ2 => ∃ v, r = some v ∧ (v = .int (r_bridge σ p q d) ∧ CInv (σ) ρ2 ∧ EqM ρ ρ2)) := by
  refine callOK_of 1 (by decide +kernel) rfl (fun _ => Nat.le_of_ble_eq_true rfl) (ls := [some (.ref 0), some (.int p), some (.int q), some (.int d), none]) rfl ?_
  generalize hQ : (fun r ρ2 => ∃ v, r = some v ∧ (v = .int (r_bridge σ p q d) ∧ CInv (σ) ρ2 ∧ EqM ρ ρ2) : Option Value → Rho → Prop) = Q
  have wn := (NB_ok σ).1
  refine w_il dX7_bridge_0 rfl ?_
  refine w_k dX7_bridge_1 ?_
  refine w_cSf dX7_bridge_3 (sl_X7_61 _ rfl) (by decide) (c_X7_within ρ p (nI 7)) rfl rfl (Nat.le_of_ble_eq_true rfl) ?_
  refine w_ifeqB dX7_bridge_6 (fun h6 => ?_) (fun h6 => ?_)
  · --t
    refine w_k dX7_bridge_30 ?_
    refine w_iret dX7_bridge_32 rfl ?_
    rw [← hQ]
    exact ⟨_, rfl, by rw [r_bridge, if_neg (fun z => h6 z.1)], ⟨hC.1, hC.2.1, hC.2.2⟩, EqM.rf⟩
  · --f
    obtain ⟨x, hx, rfl⟩ := inR_nI h6 (by decide)
    refine w_il dX7_bridge_9 rfl ?_
    refine w_k dX7_bridge_10 ?_
    refine w_cSf dX7_bridge_12 (sl_X7_61 _ rfl) (by decide) (c_X7_within ρ q (nI 7)) rfl rfl (Nat.le_of_ble_eq_true rfl) ?_
    refine w_ifeqB dX7_bridge_15 (fun h15 => ?_) (fun h15 => ?_)
    · --t
      refine w_k dX7_bridge_30 ?_
      refine w_iret dX7_bridge_32 rfl ?_
      rw [← hQ]
      exact ⟨_, rfl, by rw [r_bridge, if_neg (fun z => h15 z.2.1)], ⟨hC.1, hC.2.1, hC.2.2⟩, EqM.rf⟩
    · --f
      obtain ⟨y, hy, rfl⟩ := inR_nI h15 (by decide)
      refine w_il dX7_bridge_18 rfl ?_
      refine w_il dX7_bridge_19 rfl ?_
      refine w_iceqN dX7_bridge_20 (by omega) (by omega) (fun h20 => ?_) (fun h20 => ?_)
      · --t
        refine w_k dX7_bridge_30 ?_
        refine w_iret dX7_bridge_32 rfl ?_
        rw [← hQ]
        exact ⟨_, rfl, by rw [r_bridge, if_neg (fun z => z.2.2.1 (by rw [h20]))], ⟨hC.1, hC.2.1, hC.2.2⟩, EqM.rf⟩
      · --f
        refine w_il dX7_bridge_23 rfl ?_
        refine w_cSf dX7_bridge_24 (sl_X7_87 _ rfl) (by decide) (c_X7_isDay ρ d) rfl rfl (Nat.le_of_ble_eq_true rfl) ?_
        refine w_ifneB dX7_bridge_27 (fun h27 => ?_) (fun h27 => ?_)
        · --t
          obtain ⟨d1, hd1, rfl⟩ := inR_nI h27 (by decide)
          refine w_k dX7_bridge_33 ?_
          refine w_is (ls2 := [some (.ref 0), some (.int (nI x)), some (.int (nI y)), some (.int (nI d1)), some (.int (nI 0))]) dX7_bridge_34 rfl ?_
          have L36 : ∀ (n36 : Nat) (k : Nat), (k ≤ NB σ) → (∀ q, q < k → ¬ ovK σ x y (Tn σ d1) q) → (NB σ - k) < n36 → MW mX7_bridge 2 36 [some (.ref 0), some (.int (nI x)), some (.int (nI y)), some (.int (nI d1)), some (.int (nI k))] [] ρ Q := by
            intro n36
            induction n36 with
            | zero =>
              intro k hk ho hm36
              exact absurd hm36 (Nat.not_lt_zero _)
            | succ n36 ih36 =>
              intro k hk ho hm36
              refine w_il dX7_bridge_36 rfl ?_
              refine w_al dX7_bridge_38 rfl ?_
              refine w_gr dX7_bridge_39 fl_X7_10 sh0 rfl ?_
              refine w_giV (v := (nI (NB σ))) dX7_bridge_42 fl_X7_91 sh1 rfl (hC.2.1.2.2.1) ?_
              refine w_icgeN dX7_bridge_45 (by omega) (by omega) (fun h45 => ?_) (fun h45 => ?_)
              · --t
                refine w_k dX7_bridge_97 ?_
                refine w_iret dX7_bridge_98 rfl ?_
                rw [← hQ]
                exact ⟨_, rfl, by rw [r_bridge, if_pos ⟨h6, h15, nI_ne (by omega) (by omega) h20, h27⟩, nv_nI (by omega), nv_nI (by omega), nv_nI (by omega), b2i_f (fun z => absurd (z.symm.trans (ovN_f _ (fun q hq => ho q (by omega)))) (by decide))]; rfl, ⟨hC.1, hC.2.1, hC.2.2⟩, EqM.rf⟩
              · --f
                refine w_il dX7_bridge_48 rfl ?_
                refine w_k dX7_bridge_50 ?_
                refine w_icgeN dX7_bridge_51 (by omega) (by omega) (fun h51 => ?_) (fun h51 => ?_)
                · --t
                  exfalso; omega
                · --f
                  refine w_al dX7_bridge_54 rfl ?_
                  refine w_gr dX7_bridge_55 fl_X7_10 sh0 rfl ?_
                  refine w_il dX7_bridge_58 rfl ?_
                  refine w_il dX7_bridge_60 rfl ?_
                  refine w_il dX7_bridge_61 rfl ?_
                  refine w_cVf dX7_bridge_62 (vl_X7_94 _ rfl) sh1 (by decide) (c_X3_joins ρ σ k x y hC.2.1 (by omega) (by omega) (by omega)) rfl rfl (Nat.le_of_ble_eq_true rfl) ?_
                  refine w_ifeqB dX7_bridge_65 (fun h65 => ?_) (fun h65 => ?_)
                  · --t
                    refine w_iincN (ls2 := [some (.ref 0), some (.int (nI x)), some (.int (nI y)), some (.int (nI d1)), some (.int (nI (k + 1)))]) dX7_bridge_91 rfl rfl ?_
                    refine w_goto dX7_bridge_94 ?_
                    exact ih36 (k + 1) (by omega) (fun q hq z => (Nat.lt_succ_iff_lt_or_eq.mp hq).elim (fun h => ho q h z) (fun h => by subst h; exact h65 z.1)) (by omega)
                  · --f
                    have wt := Tn_lt σ d1
                    refine w_al dX7_bridge_68 rfl ?_
                    refine w_gr dX7_bridge_69 fl_X7_10 sh0 rfl ?_
                    refine w_il dX7_bridge_72 rfl ?_
                    refine w_al dX7_bridge_74 rfl ?_
                    refine w_gr dX7_bridge_75 fl_X7_19 sh0 rfl ?_
                    refine w_gr dX7_bridge_78 fl_X7_98 sh10 rfl ?_
                    refine w_il dX7_bridge_81 rfl ?_
                    refine w_ialdV (v := (nI (Tn σ d1))) dX7_bridge_82 sh15 (by omega) (hC.2.2 _ (by omega)) ?_
                    refine w_cVf dX7_bridge_83 (vl_X7_101 _ rfl) sh1 (by decide) (c_X3_meetsAt ρ σ k (Tn σ d1) hC.2.1 (by omega) (by omega)) rfl rfl (Nat.le_of_ble_eq_true rfl) ?_
                    refine w_ifeqB dX7_bridge_86 (fun h86 => ?_) (fun h86 => ?_)
                    · --t
                      refine w_iincN (ls2 := [some (.ref 0), some (.int (nI x)), some (.int (nI y)), some (.int (nI d1)), some (.int (nI (k + 1)))]) dX7_bridge_91 rfl rfl ?_
                      refine w_goto dX7_bridge_94 ?_
                      exact ih36 (k + 1) (by omega) (fun q hq z => (Nat.lt_succ_iff_lt_or_eq.mp hq).elim (fun h => ho q h z) (fun h => by subst h; exact h86 z.2)) (by omega)
                    · --f
                      refine w_k dX7_bridge_89 ?_
                      refine w_iret dX7_bridge_90 rfl ?_
                      rw [← hQ]
                      exact ⟨_, rfl, by rw [r_bridge, if_pos ⟨h6, h15, nI_ne (by omega) (by omega) h20, h27⟩, nv_nI (by omega), nv_nI (by omega), nv_nI (by omega), b2i_t (ovN_t ⟨h65, h86⟩ _ (by omega))]; rfl, ⟨hC.1, hC.2.1, hC.2.2⟩, EqM.rf⟩
          exact L36 _ 0 (by omega) (fun q hq => absurd hq (Nat.not_lt_zero _)) (Nat.lt_succ_self _)
        · --f
          refine w_k dX7_bridge_30 ?_
          refine w_iret dX7_bridge_32 rfl ?_
          rw [← hQ]
          exact ⟨_, rfl, by rw [r_bridge, if_neg (fun z => h27 z.2.2.2)], ⟨hC.1, hC.2.1, hC.2.2⟩, EqM.rf⟩

set_option maxHeartbeats 4000000 in
theorem c_X8_isOver (ρ : Rho) (σ : Sg) (x y t : Nat) (hL : LL σ ρ) (hx : x < 8) (hy : y < 8) (ht : t < 8) : CallOK 0 mX8_isOver [.ref 47, .int (nI x), .int (nI y), .int (nI t)] ρ (fun r ρ2 => r = some (.int (b2i (Ovr σ x y t))) ∧ ρ2 = ρ) := by
  refine callOK_of 3 (by decide +kernel) rfl (fun _ => Nat.le_of_ble_eq_true rfl) (ls := [some (.ref 47), some (.int (nI x)), some (.int (nI y)), some (.int (nI t)), none, none, none]) rfl ?_
  generalize hQ : (fun r ρ2 => r = some (.int (b2i (Ovr σ x y t))) ∧ ρ2 = ρ : Option Value → Rho → Prop) = Q
  have wn := (NB_ok σ).1
  refine w_k dX8_isOver_0 ?_
  refine w_is (ls2 := [some (.ref 47), some (.int (nI x)), some (.int (nI y)), some (.int (nI t)), some (.int (nI 0)), none, none]) dX8_isOver_1 rfl ?_
  have L3 : ∀ (n3 : Nat) (k : Nat), (k ≤ NB σ) → (∀ q, q < k → ¬ ovK σ x y t q) → (NB σ - k) < n3 → MW mX8_isOver 0 3 [some (.ref 47), some (.int (nI x)), some (.int (nI y)), some (.int (nI t)), some (.int (nI k)), none, none] [] ρ Q := by
    intro n3
    induction n3 with
    | zero =>
      intro k hk ho hm3
      exact absurd hm3 (Nat.not_lt_zero _)
    | succ n3 ih3 =>
      intro k hk ho hm3
      refine w_il dX8_isOver_3 rfl ?_
      refine w_al dX8_isOver_5 rfl ?_
      refine w_giV (v := (nI (NB σ))) dX8_isOver_6 fl_X8_97 sh47 rfl (hL.2.2.1) ?_
      refine w_icgeN dX8_isOver_9 (by omega) (by omega) (fun h9 => ?_) (fun h9 => ?_)
      · --t
        refine w_k dX8_isOver_109 ?_
        refine w_zret dX8_isOver_110 rfl rfl ?_
        rw [← hQ]
        exact ⟨congrArg (fun z => some (Value.int z)) (b2i_f (fun z => absurd (z.symm.trans (ovN_f _ (fun q hq => ho q (by omega)))) (by decide))).symm, rfl⟩
      · --f
        have wb := (NB_ok σ).2 k (by omega)
        have wa := wb.1
        have wc := wb.2.1
        have wd := wb.2.2.2.2.1
        have we := wb.2.2.2.1
        have wf := wb.2.2.2.2.2
        have wz := Nat.mod_le t (Br σ (4 * k + 2))
        refine w_k dX8_isOver_12 ?_
        refine w_il dX8_isOver_13 rfl ?_
        refine w_imulN dX8_isOver_15 ?_
        refine w_is (ls2 := [some (.ref 47), some (.int (nI x)), some (.int (nI y)), some (.int (nI t)), some (.int (nI k)), some (.int (nI (4 * k))), none]) dX8_isOver_16 rfl ?_
        refine w_al dX8_isOver_18 rfl ?_
        refine w_gr dX8_isOver_19 fl_X8_19 sh47 rfl ?_
        refine w_il dX8_isOver_22 rfl ?_
        refine w_ialdV (v := (nI (Br σ (4 * k)))) dX8_isOver_24 sh51 (by omega) (hL.2.2.2 _ (by omega)) ?_
        refine w_il dX8_isOver_25 rfl ?_
        refine w_icneN dX8_isOver_26 (by omega) (by omega) (fun h26 => ?_) (fun h26 => ?_)
        · --t
          refine w_al dX8_isOver_42 rfl ?_
          refine w_gr dX8_isOver_43 fl_X8_19 sh47 rfl ?_
          refine w_il dX8_isOver_46 rfl ?_
          refine w_ialdV (v := (nI (Br σ (4 * k)))) dX8_isOver_48 sh51 (by omega) (hL.2.2.2 _ (by omega)) ?_
          refine w_il dX8_isOver_49 rfl ?_
          refine w_icneN dX8_isOver_50 (by omega) (by omega) (fun h50 => ?_) (fun h50 => ?_)
          · --t
            refine w_k dX8_isOver_70 ?_
            refine w_is (ls2 := [some (.ref 47), some (.int (nI x)), some (.int (nI y)), some (.int (nI t)), some (.int (nI k)), some (.int (nI (4 * k))), some (.int (nI 0))]) dX8_isOver_71 rfl ?_
            refine w_il dX8_isOver_73 rfl ?_
            refine w_ifeqN dX8_isOver_75 (by omega) (fun h75 => ?_) (fun h75 => ?_)
            · --t
              refine w_iincN (ls2 := [some (.ref 47), some (.int (nI x)), some (.int (nI y)), some (.int (nI t)), some (.int (nI (k + 1))), some (.int (nI (4 * k))), some (.int (nI 0))]) dX8_isOver_103 rfl rfl ?_
              refine w_goto dX8_isOver_106 ?_
              refine w_weak (ls2 := [some (.ref 47), some (.int (nI x)), some (.int (nI y)), some (.int (nI t)), some (.int (nI (k + 1))), none, none]) ⟨rfl, ⟨rfl, ⟨rfl, ⟨rfl, ⟨rfl, trivial⟩⟩⟩⟩⟩ ?_
              exact ih3 (k + 1) (by omega) (fun q hq z => (Nat.lt_succ_iff_lt_or_eq.mp hq).elim (fun h => ho q h z) (fun h => by subst h; exact z.1.elim (fun q => h26 q.1) (fun q => h50 q.1))) (by omega)
            · --f
              exact absurd rfl h75
          · --f
            refine w_al dX8_isOver_53 rfl ?_
            refine w_gr dX8_isOver_54 fl_X8_19 sh47 rfl ?_
            refine w_il dX8_isOver_57 rfl ?_
            refine w_k dX8_isOver_59 ?_
            refine w_iaddN dX8_isOver_60 ?_
            refine w_ialdV (v := (nI (Br σ (4 * k + 1)))) dX8_isOver_61 sh51 (by omega) (hL.2.2.2 _ (by omega)) ?_
            refine w_il dX8_isOver_62 rfl ?_
            refine w_icneN dX8_isOver_63 (by omega) (by omega) (fun h63 => ?_) (fun h63 => ?_)
            · --t
              refine w_k dX8_isOver_70 ?_
              refine w_is (ls2 := [some (.ref 47), some (.int (nI x)), some (.int (nI y)), some (.int (nI t)), some (.int (nI k)), some (.int (nI (4 * k))), some (.int (nI 0))]) dX8_isOver_71 rfl ?_
              refine w_il dX8_isOver_73 rfl ?_
              refine w_ifeqN dX8_isOver_75 (by omega) (fun h75 => ?_) (fun h75 => ?_)
              · --t
                refine w_iincN (ls2 := [some (.ref 47), some (.int (nI x)), some (.int (nI y)), some (.int (nI t)), some (.int (nI (k + 1))), some (.int (nI (4 * k))), some (.int (nI 0))]) dX8_isOver_103 rfl rfl ?_
                refine w_goto dX8_isOver_106 ?_
                refine w_weak (ls2 := [some (.ref 47), some (.int (nI x)), some (.int (nI y)), some (.int (nI t)), some (.int (nI (k + 1))), none, none]) ⟨rfl, ⟨rfl, ⟨rfl, ⟨rfl, ⟨rfl, trivial⟩⟩⟩⟩⟩ ?_
                exact ih3 (k + 1) (by omega) (fun q hq z => (Nat.lt_succ_iff_lt_or_eq.mp hq).elim (fun h => ho q h z) (fun h => by subst h; exact z.1.elim (fun q => h26 q.1) (fun q => h63 q.2))) (by omega)
              · --f
                exact absurd rfl h75
            · --f
              refine w_k dX8_isOver_66 ?_
              refine w_goto dX8_isOver_67 ?_
              refine w_is (ls2 := [some (.ref 47), some (.int (nI x)), some (.int (nI y)), some (.int (nI t)), some (.int (nI k)), some (.int (nI (4 * k))), some (.int (nI 1))]) dX8_isOver_71 rfl ?_
              refine w_il dX8_isOver_73 rfl ?_
              refine w_ifeqN dX8_isOver_75 (by omega) (fun h75 => ?_) (fun h75 => ?_)
              · --t
                exact absurd h75 (by decide)
              · --f
                refine w_il dX8_isOver_78 rfl ?_
                refine w_al dX8_isOver_79 rfl ?_
                refine w_gr dX8_isOver_80 fl_X8_19 sh47 rfl ?_
                refine w_il dX8_isOver_83 rfl ?_
                refine w_k dX8_isOver_85 ?_
                refine w_iaddN dX8_isOver_86 ?_
                refine w_ialdV (v := (nI (Br σ (4 * k + 2)))) dX8_isOver_87 sh51 (by omega) (hL.2.2.2 _ (by omega)) ?_
                refine w_iremN dX8_isOver_88 (by omega) (by omega) (by omega) ?_
                refine w_al dX8_isOver_89 rfl ?_
                refine w_gr dX8_isOver_90 fl_X8_19 sh47 rfl ?_
                refine w_il dX8_isOver_93 rfl ?_
                refine w_k dX8_isOver_95 ?_
                refine w_iaddN dX8_isOver_96 ?_
                refine w_ialdV (v := (nI (Br σ (4 * k + 3)))) dX8_isOver_97 sh51 (by omega) (hL.2.2.2 _ (by omega)) ?_
                refine w_icneN dX8_isOver_98 (by omega) (by omega) (fun h98 => ?_) (fun h98 => ?_)
                · --t
                  refine w_iincN (ls2 := [some (.ref 47), some (.int (nI x)), some (.int (nI y)), some (.int (nI t)), some (.int (nI (k + 1))), some (.int (nI (4 * k))), some (.int (nI 1))]) dX8_isOver_103 rfl rfl ?_
                  refine w_goto dX8_isOver_106 ?_
                  refine w_weak (ls2 := [some (.ref 47), some (.int (nI x)), some (.int (nI y)), some (.int (nI t)), some (.int (nI (k + 1))), none, none]) ⟨rfl, ⟨rfl, ⟨rfl, ⟨rfl, ⟨rfl, trivial⟩⟩⟩⟩⟩ ?_
                  exact ih3 (k + 1) (by omega) (fun q hq z => (Nat.lt_succ_iff_lt_or_eq.mp hq).elim (fun h => ho q h z) (fun h => by subst h; exact h98 z.2)) (by omega)
                · --f
                  refine w_k dX8_isOver_101 ?_
                  refine w_zret dX8_isOver_102 rfl rfl ?_
                  rw [← hQ]
                  exact ⟨congrArg (fun z => some (Value.int z)) (b2i_t (ovN_t ⟨Or.inr ⟨h50, h63⟩, h98⟩ _ (by omega))).symm, rfl⟩
        · --f
          refine w_al dX8_isOver_29 rfl ?_
          refine w_gr dX8_isOver_30 fl_X8_19 sh47 rfl ?_
          refine w_il dX8_isOver_33 rfl ?_
          refine w_k dX8_isOver_35 ?_
          refine w_iaddN dX8_isOver_36 ?_
          refine w_ialdV (v := (nI (Br σ (4 * k + 1)))) dX8_isOver_37 sh51 (by omega) (hL.2.2.2 _ (by omega)) ?_
          refine w_il dX8_isOver_38 rfl ?_
          refine w_iceqN dX8_isOver_39 (by omega) (by omega) (fun h39 => ?_) (fun h39 => ?_)
          · --t
            refine w_k dX8_isOver_66 ?_
            refine w_goto dX8_isOver_67 ?_
            refine w_is (ls2 := [some (.ref 47), some (.int (nI x)), some (.int (nI y)), some (.int (nI t)), some (.int (nI k)), some (.int (nI (4 * k))), some (.int (nI 1))]) dX8_isOver_71 rfl ?_
            refine w_il dX8_isOver_73 rfl ?_
            refine w_ifeqN dX8_isOver_75 (by omega) (fun h75 => ?_) (fun h75 => ?_)
            · --t
              exact absurd h75 (by decide)
            · --f
              refine w_il dX8_isOver_78 rfl ?_
              refine w_al dX8_isOver_79 rfl ?_
              refine w_gr dX8_isOver_80 fl_X8_19 sh47 rfl ?_
              refine w_il dX8_isOver_83 rfl ?_
              refine w_k dX8_isOver_85 ?_
              refine w_iaddN dX8_isOver_86 ?_
              refine w_ialdV (v := (nI (Br σ (4 * k + 2)))) dX8_isOver_87 sh51 (by omega) (hL.2.2.2 _ (by omega)) ?_
              refine w_iremN dX8_isOver_88 (by omega) (by omega) (by omega) ?_
              refine w_al dX8_isOver_89 rfl ?_
              refine w_gr dX8_isOver_90 fl_X8_19 sh47 rfl ?_
              refine w_il dX8_isOver_93 rfl ?_
              refine w_k dX8_isOver_95 ?_
              refine w_iaddN dX8_isOver_96 ?_
              refine w_ialdV (v := (nI (Br σ (4 * k + 3)))) dX8_isOver_97 sh51 (by omega) (hL.2.2.2 _ (by omega)) ?_
              refine w_icneN dX8_isOver_98 (by omega) (by omega) (fun h98 => ?_) (fun h98 => ?_)
              · --t
                refine w_iincN (ls2 := [some (.ref 47), some (.int (nI x)), some (.int (nI y)), some (.int (nI t)), some (.int (nI (k + 1))), some (.int (nI (4 * k))), some (.int (nI 1))]) dX8_isOver_103 rfl rfl ?_
                refine w_goto dX8_isOver_106 ?_
                refine w_weak (ls2 := [some (.ref 47), some (.int (nI x)), some (.int (nI y)), some (.int (nI t)), some (.int (nI (k + 1))), none, none]) ⟨rfl, ⟨rfl, ⟨rfl, ⟨rfl, ⟨rfl, trivial⟩⟩⟩⟩⟩ ?_
                exact ih3 (k + 1) (by omega) (fun q hq z => (Nat.lt_succ_iff_lt_or_eq.mp hq).elim (fun h => ho q h z) (fun h => by subst h; exact h98 z.2)) (by omega)
              · --f
                refine w_k dX8_isOver_101 ?_
                refine w_zret dX8_isOver_102 rfl rfl ?_
                rw [← hQ]
                exact ⟨congrArg (fun z => some (Value.int z)) (b2i_t (ovN_t ⟨Or.inl ⟨h26, h39⟩, h98⟩ _ (by omega))).symm, rfl⟩
          · --f
            refine w_al dX8_isOver_42 rfl ?_
            refine w_gr dX8_isOver_43 fl_X8_19 sh47 rfl ?_
            refine w_il dX8_isOver_46 rfl ?_
            refine w_ialdV (v := (nI (Br σ (4 * k)))) dX8_isOver_48 sh51 (by omega) (hL.2.2.2 _ (by omega)) ?_
            refine w_il dX8_isOver_49 rfl ?_
            refine w_icneN dX8_isOver_50 (by omega) (by omega) (fun h50 => ?_) (fun h50 => ?_)
            · --t
              refine w_k dX8_isOver_70 ?_
              refine w_is (ls2 := [some (.ref 47), some (.int (nI x)), some (.int (nI y)), some (.int (nI t)), some (.int (nI k)), some (.int (nI (4 * k))), some (.int (nI 0))]) dX8_isOver_71 rfl ?_
              refine w_il dX8_isOver_73 rfl ?_
              refine w_ifeqN dX8_isOver_75 (by omega) (fun h75 => ?_) (fun h75 => ?_)
              · --t
                refine w_iincN (ls2 := [some (.ref 47), some (.int (nI x)), some (.int (nI y)), some (.int (nI t)), some (.int (nI (k + 1))), some (.int (nI (4 * k))), some (.int (nI 0))]) dX8_isOver_103 rfl rfl ?_
                refine w_goto dX8_isOver_106 ?_
                refine w_weak (ls2 := [some (.ref 47), some (.int (nI x)), some (.int (nI y)), some (.int (nI t)), some (.int (nI (k + 1))), none, none]) ⟨rfl, ⟨rfl, ⟨rfl, ⟨rfl, ⟨rfl, trivial⟩⟩⟩⟩⟩ ?_
                exact ih3 (k + 1) (by omega) (fun q hq z => (Nat.lt_succ_iff_lt_or_eq.mp hq).elim (fun h => ho q h z) (fun h => by subst h; exact z.1.elim (fun q => h39 q.2) (fun q => h50 q.1))) (by omega)
              · --f
                exact absurd rfl h75
            · --f
              refine w_al dX8_isOver_53 rfl ?_
              refine w_gr dX8_isOver_54 fl_X8_19 sh47 rfl ?_
              refine w_il dX8_isOver_57 rfl ?_
              refine w_k dX8_isOver_59 ?_
              refine w_iaddN dX8_isOver_60 ?_
              refine w_ialdV (v := (nI (Br σ (4 * k + 1)))) dX8_isOver_61 sh51 (by omega) (hL.2.2.2 _ (by omega)) ?_
              refine w_il dX8_isOver_62 rfl ?_
              refine w_icneN dX8_isOver_63 (by omega) (by omega) (fun h63 => ?_) (fun h63 => ?_)
              · --t
                refine w_k dX8_isOver_70 ?_
                refine w_is (ls2 := [some (.ref 47), some (.int (nI x)), some (.int (nI y)), some (.int (nI t)), some (.int (nI k)), some (.int (nI (4 * k))), some (.int (nI 0))]) dX8_isOver_71 rfl ?_
                refine w_il dX8_isOver_73 rfl ?_
                refine w_ifeqN dX8_isOver_75 (by omega) (fun h75 => ?_) (fun h75 => ?_)
                · --t
                  refine w_iincN (ls2 := [some (.ref 47), some (.int (nI x)), some (.int (nI y)), some (.int (nI t)), some (.int (nI (k + 1))), some (.int (nI (4 * k))), some (.int (nI 0))]) dX8_isOver_103 rfl rfl ?_
                  refine w_goto dX8_isOver_106 ?_
                  refine w_weak (ls2 := [some (.ref 47), some (.int (nI x)), some (.int (nI y)), some (.int (nI t)), some (.int (nI (k + 1))), none, none]) ⟨rfl, ⟨rfl, ⟨rfl, ⟨rfl, ⟨rfl, trivial⟩⟩⟩⟩⟩ ?_
                  exact ih3 (k + 1) (by omega) (fun q hq z => (Nat.lt_succ_iff_lt_or_eq.mp hq).elim (fun h => ho q h z) (fun h => by subst h; exact z.1.elim (fun q => h39 q.2) (fun q => h63 q.2))) (by omega)
                · --f
                  exact absurd rfl h75
              · --f
                refine w_k dX8_isOver_66 ?_
                refine w_goto dX8_isOver_67 ?_
                refine w_is (ls2 := [some (.ref 47), some (.int (nI x)), some (.int (nI y)), some (.int (nI t)), some (.int (nI k)), some (.int (nI (4 * k))), some (.int (nI 1))]) dX8_isOver_71 rfl ?_
                refine w_il dX8_isOver_73 rfl ?_
                refine w_ifeqN dX8_isOver_75 (by omega) (fun h75 => ?_) (fun h75 => ?_)
                · --t
                  exact absurd h75 (by decide)
                · --f
                  refine w_il dX8_isOver_78 rfl ?_
                  refine w_al dX8_isOver_79 rfl ?_
                  refine w_gr dX8_isOver_80 fl_X8_19 sh47 rfl ?_
                  refine w_il dX8_isOver_83 rfl ?_
                  refine w_k dX8_isOver_85 ?_
                  refine w_iaddN dX8_isOver_86 ?_
                  refine w_ialdV (v := (nI (Br σ (4 * k + 2)))) dX8_isOver_87 sh51 (by omega) (hL.2.2.2 _ (by omega)) ?_
                  refine w_iremN dX8_isOver_88 (by omega) (by omega) (by omega) ?_
                  refine w_al dX8_isOver_89 rfl ?_
                  refine w_gr dX8_isOver_90 fl_X8_19 sh47 rfl ?_
                  refine w_il dX8_isOver_93 rfl ?_
                  refine w_k dX8_isOver_95 ?_
                  refine w_iaddN dX8_isOver_96 ?_
                  refine w_ialdV (v := (nI (Br σ (4 * k + 3)))) dX8_isOver_97 sh51 (by omega) (hL.2.2.2 _ (by omega)) ?_
                  refine w_icneN dX8_isOver_98 (by omega) (by omega) (fun h98 => ?_) (fun h98 => ?_)
                  · --t
                    refine w_iincN (ls2 := [some (.ref 47), some (.int (nI x)), some (.int (nI y)), some (.int (nI t)), some (.int (nI (k + 1))), some (.int (nI (4 * k))), some (.int (nI 1))]) dX8_isOver_103 rfl rfl ?_
                    refine w_goto dX8_isOver_106 ?_
                    refine w_weak (ls2 := [some (.ref 47), some (.int (nI x)), some (.int (nI y)), some (.int (nI t)), some (.int (nI (k + 1))), none, none]) ⟨rfl, ⟨rfl, ⟨rfl, ⟨rfl, ⟨rfl, trivial⟩⟩⟩⟩⟩ ?_
                    exact ih3 (k + 1) (by omega) (fun q hq z => (Nat.lt_succ_iff_lt_or_eq.mp hq).elim (fun h => ho q h z) (fun h => by subst h; exact h98 z.2)) (by omega)
                  · --f
                    refine w_k dX8_isOver_101 ?_
                    refine w_zret dX8_isOver_102 rfl rfl ?_
                    rw [← hQ]
                    exact ⟨congrArg (fun z => some (Value.int z)) (b2i_t (ovN_t ⟨Or.inr ⟨h50, h63⟩, h98⟩ _ (by omega))).symm, rfl⟩
  exact L3 _ 0 (by omega) (fun q hq => absurd hq (Nat.not_lt_zero _)) (Nat.lt_succ_self _)

set_option maxHeartbeats 4000000 in
theorem c_X8_bridge (ρ : Rho) (σ : Sg) (p : Int32) (q : Int32) (d : Int32) (hM : MInv σ ρ) : CallOK 5 mX8_bridge [.ref 47, .int p, .int q, .int d] ρ (fun r ρ2 => ∃ v, r = some v ∧ (v = .int (r_bridge σ p q d) ∧ MInv (σ) ρ2 ∧ EqC ρ ρ2)) := by
  refine callOK_of 0 (by decide +kernel) rfl (fun _ => Nat.le_of_ble_eq_true rfl) (ls := [some (.ref 47), some (.int p), some (.int q), some (.int d)]) rfl ?_
  generalize hQ : (fun r ρ2 => ∃ v, r = some v ∧ (v = .int (r_bridge σ p q d) ∧ MInv (σ) ρ2 ∧ EqC ρ ρ2) : Option Value → Rho → Prop) = Q
  refine w_il dX8_bridge_0 rfl ?_
  refine w_cSf dX8_bridge_1 (sl_X8_118 _ rfl) (by decide) (c_X8_isEighth ρ p) rfl rfl (Nat.le_of_ble_eq_true rfl) ?_
  refine w_ifeqB dX8_bridge_4 (fun h4 => ?_) (fun h4 => ?_)
  · --t
    refine w_k dX8_bridge_26 ?_
    refine w_iret dX8_bridge_28 rfl ?_
    rw [← hQ]
    exact ⟨_, rfl, by rw [r_bridge, if_neg (fun z => h4 z.1)], hM, EqC.rf⟩
  · --f
    obtain ⟨x, hx, rfl⟩ := inR_nI h4 (by decide)
    refine w_il dX8_bridge_7 rfl ?_
    refine w_cSf dX8_bridge_8 (sl_X8_118 _ rfl) (by decide) (c_X8_isEighth ρ q) rfl rfl (Nat.le_of_ble_eq_true rfl) ?_
    refine w_ifeqB dX8_bridge_11 (fun h11 => ?_) (fun h11 => ?_)
    · --t
      refine w_k dX8_bridge_26 ?_
      refine w_iret dX8_bridge_28 rfl ?_
      rw [← hQ]
      exact ⟨_, rfl, by rw [r_bridge, if_neg (fun z => h11 z.2.1)], hM, EqC.rf⟩
    · --f
      obtain ⟨y, hy, rfl⟩ := inR_nI h11 (by decide)
      refine w_il dX8_bridge_14 rfl ?_
      refine w_il dX8_bridge_15 rfl ?_
      refine w_iceqN dX8_bridge_16 (by omega) (by omega) (fun h16 => ?_) (fun h16 => ?_)
      · --t
        refine w_k dX8_bridge_26 ?_
        refine w_iret dX8_bridge_28 rfl ?_
        rw [← hQ]
        exact ⟨_, rfl, by rw [r_bridge, if_neg (fun z => z.2.2.1 (by rw [h16]))], hM, EqC.rf⟩
      · --f
        refine w_il dX8_bridge_19 rfl ?_
        refine w_cSf dX8_bridge_20 (sl_X8_148 _ rfl) (by decide) (c_X8_isDay ρ d) rfl rfl (Nat.le_of_ble_eq_true rfl) ?_
        refine w_ifneB dX8_bridge_23 (fun h23 => ?_) (fun h23 => ?_)
        · --t
          obtain ⟨d1, hd1, rfl⟩ := inR_nI h23 (by decide)
          have wt := Tn_lt σ d1
          refine w_al dX8_bridge_29 rfl ?_
          refine w_cVu dX8_bridge_30 (vl_X8_145 _ rfl) sh47 (by decide) (c_X8_lays ρ σ hM) rfl rfl (Nat.le_of_ble_eq_true rfl) (fun ρl1 hl1 => ?_)
          obtain ⟨hMl1, hEl1, hDl1⟩ := hl1
          refine w_al dX8_bridge_33 rfl ?_
          refine w_il dX8_bridge_34 rfl ?_
          refine w_il dX8_bridge_35 rfl ?_
          refine w_al dX8_bridge_36 rfl ?_
          refine w_gr dX8_bridge_37 fl_X8_40 sh47 rfl ?_
          refine w_il dX8_bridge_40 rfl ?_
          refine w_ialdV (v := (nI (Tn σ d1))) dX8_bridge_41 sh58 (by omega) (hDl1.2 _ (by omega)) ?_
          refine w_cVf dX8_bridge_42 (vl_X8_154 _ rfl) sh47 (by decide) (c_X8_isOver ρl1 σ x y (Tn σ d1) hDl1.1 (by omega) (by omega) (by omega)) rfl rfl (Nat.le_of_ble_eq_true rfl) ?_
          refine w_ifeqB dX8_bridge_45 (fun h45 => ?_) (fun h45 => ?_)
          · --t
            refine w_k dX8_bridge_52 ?_
            refine w_iret dX8_bridge_53 rfl ?_
            rw [← hQ]
            exact ⟨_, rfl, by rw [r_bridge, if_pos ⟨h4, h11, nI_ne (by omega) (by omega) h16, h23⟩, nv_nI (by omega), nv_nI (by omega), nv_nI (by omega), b2i_f h45]; rfl, hMl1, (EqC.tr EqC.rf hEl1)⟩
          · --f
            refine w_k dX8_bridge_48 ?_
            refine w_goto dX8_bridge_49 ?_
            refine w_iret dX8_bridge_53 rfl ?_
            rw [← hQ]
            exact ⟨_, rfl, by rw [r_bridge, if_pos ⟨h4, h11, nI_ne (by omega) (by omega) h16, h23⟩, nv_nI (by omega), nv_nI (by omega), nv_nI (by omega), b2i_t h45]; rfl, hMl1, (EqC.tr EqC.rf hEl1)⟩
        · --f
          refine w_k dX8_bridge_26 ?_
          refine w_iret dX8_bridge_28 rfl ?_
          rw [← hQ]
          exact ⟨_, rfl, by rw [r_bridge, if_neg (fun z => h23 z.2.2.2)], hM, EqC.rf⟩

set_option maxHeartbeats 4000000 in
theorem c_X1_mayBeTold (ρ : Rho) (σ : Sg) (t : Int32) (hP : CP σ ρ) : CallOK 0 mX1_mayBeTold [.ref 10, .int t] ρ (fun r ρ2 => r = some (.int (b2i (inR t (nI (σ.1 47 12)) (nI 999)))) ∧ ρ2 = ρ) := by
  refine callOK_of 0 (by decide +kernel) rfl (fun _ => Nat.le_of_ble_eq_true rfl) (ls := [some (.ref 10), some (.int t)]) rfl ?_
  generalize hQ : (fun r ρ2 => r = some (.int (b2i (inR t (nI (σ.1 47 12)) (nI 999)))) ∧ ρ2 = ρ : Option Value → Rho → Prop) = Q
  refine w_il dX1_mayBeTold_0 rfl ?_
  refine w_al dX1_mayBeTold_1 rfl ?_
  refine w_giV (v := (nI (σ.1 47 12))) dX1_mayBeTold_2 fl_X1_28 sh10 rfl (hP.2.2.2.1 (10, 5, 47, 12) (by decide)) ?_
  refine w_iclt dX1_mayBeTold_5 (fun h5 => ?_) (fun h5 => ?_)
  · --t
    refine w_k dX1_mayBeTold_19 ?_
    refine w_zret dX1_mayBeTold_20 rfl rfl ?_
    rw [← hQ]
    exact ⟨congrArg (fun z => some (Value.int z)) (b2i_f (fun q => Int32.not_lt.mpr q.1 h5)).symm, rfl⟩
  · --f
    refine w_il dX1_mayBeTold_8 rfl ?_
    refine w_k dX1_mayBeTold_9 ?_
    refine w_icgt dX1_mayBeTold_12 (fun h12 => ?_) (fun h12 => ?_)
    · --t
      refine w_k dX1_mayBeTold_19 ?_
      refine w_zret dX1_mayBeTold_20 rfl rfl ?_
      rw [← hQ]
      exact ⟨congrArg (fun z => some (Value.int z)) (b2i_f (fun q => Int32.not_lt.mpr q.2 h12)).symm, rfl⟩
    · --f
      refine w_k dX1_mayBeTold_15 ?_
      refine w_goto dX1_mayBeTold_16 ?_
      refine w_zret dX1_mayBeTold_20 rfl rfl ?_
      rw [← hQ]
      exact ⟨congrArg (fun z => some (Value.int z)) (b2i_t ⟨Int32.not_lt.mp h5, Int32.not_lt.mp h12⟩).symm, rfl⟩

set_option maxHeartbeats 4000000 in
theorem c_X1_add (ρ : Rho) (σ : Sg) (d f t : Nat) (hP : CP σ ρ) (hd : d < 100) (hf : f ≤ 1) (ht : t ≤ 999) (hg : σ.1 47 7 < 60) : CallOK 0 mX1_add [.ref 10, .int (nI d), .int (nI f), .int (nI t)] ρ (fun r ρ2 => ∃ v, r = some v ∧ (v = .int (nI 1) ∧ CP (addG σ d f t) ρ2 ∧ Fr [10, 11, 12, 13, 14] ρ ρ2)) := by
  refine callOK_of 0 (by decide +kernel) rfl (fun _ => Nat.le_of_ble_eq_true rfl) (ls := [some (.ref 10), some (.int (nI d)), some (.int (nI f)), some (.int (nI t))]) rfl ?_
  generalize hQ : (fun r ρ2 => ∃ v, r = some v ∧ (v = .int (nI 1) ∧ CP (addG σ d f t) ρ2 ∧ Fr [10, 11, 12, 13, 14] ρ ρ2) : Option Value → Rho → Prop) = Q
  refine w_al dX1_add_0 rfl ?_
  refine w_giV (v := (nI (σ.1 47 7))) dX1_add_1 fl_X1_9 sh10 rfl (hP.2.2.2.1 (10, 0, 47, 7) (by decide)) ?_
  refine w_k dX1_add_4 ?_
  refine w_icltN dX1_add_6 (by omega) (by omega) (fun h6 => ?_) (fun h6 => ?_)
  · --t
    refine w_al dX1_add_11 rfl ?_
    refine w_gr dX1_add_12 fl_X1_15 sh10 rfl ?_
    refine w_al dX1_add_15 rfl ?_
    refine w_giV (v := (nI (σ.1 47 7))) dX1_add_16 fl_X1_9 sh10 rfl (hP.2.2.2.1 (10, 0, 47, 7) (by decide)) ?_
    refine w_il dX1_add_19 rfl ?_
    refine w_iastN dX1_add_20 sh11 (by omega) ?_
    refine w_al dX1_add_21 rfl ?_
    refine w_gr dX1_add_22 fl_X1_19 sh10 rfl ?_
    refine w_al dX1_add_25 rfl ?_
    refine w_giV (v := (nI (σ.1 47 7))) dX1_add_26 fl_X1_9 sh10 rfl (rI_c (by decide) (hP.2.2.2.1 (10, 0, 47, 7) (by decide))) ?_
    refine w_il dX1_add_29 rfl ?_
    refine w_iastN dX1_add_30 sh12 (by omega) ?_
    refine w_al dX1_add_31 rfl ?_
    refine w_gr dX1_add_32 fl_X1_22 sh10 rfl ?_
    refine w_al dX1_add_35 rfl ?_
    refine w_giV (v := (nI (σ.1 47 7))) dX1_add_36 fl_X1_9 sh10 rfl (rI_c (by decide) (rI_c (by decide) (hP.2.2.2.1 (10, 0, 47, 7) (by decide)))) ?_
    refine w_il dX1_add_39 rfl ?_
    refine w_iastN dX1_add_40 sh13 (by omega) ?_
    refine w_al dX1_add_41 rfl ?_
    refine w_gr dX1_add_42 fl_X1_25 sh10 rfl ?_
    refine w_al dX1_add_45 rfl ?_
    refine w_giV (v := (nI (σ.1 47 7))) dX1_add_46 fl_X1_9 sh10 rfl (rI_c (by decide) (rI_c (by decide) (rI_c (by decide) (hP.2.2.2.1 (10, 0, 47, 7) (by decide))))) ?_
    refine w_k dX1_add_49 ?_
    refine w_iastN dX1_add_50 sh14 (by omega) ?_
    refine w_al dX1_add_51 rfl ?_
    refine w_il dX1_add_52 rfl ?_
    refine w_pi dX1_add_53 fp_X1_28 sh10 rfl rfl rfl ?_
    refine w_al dX1_add_56 rfl ?_
    refine w_dup dX1_add_57 rfl ?_
    refine w_giV (v := (nI (σ.1 47 7))) dX1_add_58 fl_X1_9 sh10 rfl (rI_s (by decide) (rI_c (by decide) (rI_c (by decide) (rI_c (by decide) (rI_c (by decide) (hP.2.2.2.1 (10, 0, 47, 7) (by decide))))))) ?_
    refine w_k dX1_add_61 ?_
    refine w_iaddN dX1_add_62 ?_
    refine w_pi dX1_add_63 fp_X1_9 sh10 rfl rfl rfl ?_
    refine w_k dX1_add_66 ?_
    refine w_zret dX1_add_67 rfl rfl ?_
    rw [← hQ]
    exact ⟨_, rfl, rfl, addG_C hP hd hf ht hg, (Fr.only (Fr.only (Fr.only (Fr.only (Fr.only (Fr.only Fr.rf only_wI (by decide)) only_wI (by decide)) only_wI (by decide)) only_wI (by decide)) only_wI (by decide)) only_wI (by decide))⟩
  · --f
    exfalso; omega

set_option maxHeartbeats 4000000 in
theorem c_X1_addF (ρ : Rho) (σ : Sg) (d f t : Int32) (hP : CP σ ρ) (hg : σ.1 47 7 = 60) : CallOK 0 mX1_add [.ref 10, .int d, .int f, .int t] ρ (fun r ρ2 => r = some (.int (nI 0)) ∧ ρ2 = ρ) := by
  refine callOK_of 0 (by decide +kernel) rfl (fun _ => Nat.le_of_ble_eq_true rfl) (ls := [some (.ref 10), some (.int d), some (.int f), some (.int t)]) rfl ?_
  generalize hQ : (fun r ρ2 => r = some (.int (nI 0)) ∧ ρ2 = ρ : Option Value → Rho → Prop) = Q
  refine w_al dX1_add_0 rfl ?_
  refine w_giV (v := (nI (σ.1 47 7))) dX1_add_1 fl_X1_9 sh10 rfl (hP.2.2.2.1 (10, 0, 47, 7) (by decide)) ?_
  refine w_k dX1_add_4 ?_
  refine w_icltN dX1_add_6 (by omega) (by omega) (fun h6 => ?_) (fun h6 => ?_)
  · --t
    exfalso; omega
  · --f
    refine w_k dX1_add_9 ?_
    refine w_zret dX1_add_10 rfl rfl ?_
    rw [← hQ]
    exact ⟨rfl, rfl⟩

set_option maxHeartbeats 4000000 in
theorem c_X7_gale (ρ : Rho) (σ : Sg) (d : Int32) (f : Int32) (t : Int32) (hC : CInv σ ρ) : CallOK 2 mX7_gale [.ref 0, .int d, .int f, .int t] ρ (fun r ρ2 => ∃ v, r = some v ∧ (v = .int (r_gale σ d f t) ∧ CInv (n_gale σ d f t) ρ2 ∧ EqM ρ ρ2)) := by
  refine callOK_of 0 (by decide +kernel) rfl (fun _ => Nat.le_of_ble_eq_true rfl) (ls := [some (.ref 0), some (.int d), some (.int f), some (.int t)]) rfl ?_
  generalize hQ : (fun r ρ2 => ∃ v, r = some v ∧ (v = .int (r_gale σ d f t) ∧ CInv (n_gale σ d f t) ρ2 ∧ EqM ρ ρ2) : Option Value → Rho → Prop) = Q
  have w1 := hC.1.1.typed
  have w2 := hC.1.1.gales
  have w3 := hC.1.1.last
  refine w_il dX7_gale_0 rfl ?_
  refine w_cSf dX7_gale_1 (sl_X7_87 _ rfl) (by decide) (c_X7_isDay ρ d) rfl rfl (Nat.le_of_ble_eq_true rfl) ?_
  refine w_ifeqB dX7_gale_4 (fun h4 => ?_) (fun h4 => ?_)
  · --t
    refine w_k dX7_gale_26 ?_
    refine w_iret dX7_gale_28 rfl ?_
    rw [← hQ]
    exact ⟨_, rfl, by rw [r_gale, if_neg (fun z => h4 z.1)], by rw [n_gale, if_neg (fun z => h4 z.1)]; exact ⟨hC.1, hC.2.1, hC.2.2⟩, EqM.rf⟩
  · --f
    obtain ⟨x, hx, rfl⟩ := inR_nI h4 (by decide)
    refine w_il dX7_gale_7 rfl ?_
    refine w_k dX7_gale_8 ?_
    refine w_cSf dX7_gale_9 (sl_X7_61 _ rfl) (by decide) (c_X7_within ρ f (nI 1)) rfl rfl (Nat.le_of_ble_eq_true rfl) ?_
    refine w_ifeqB dX7_gale_12 (fun h12 => ?_) (fun h12 => ?_)
    · --t
      refine w_k dX7_gale_26 ?_
      refine w_iret dX7_gale_28 rfl ?_
      rw [← hQ]
      exact ⟨_, rfl, by rw [r_gale, if_neg (fun z => h12 z.2.1)], by rw [n_gale, if_neg (fun z => h12 z.2.1)]; exact ⟨hC.1, hC.2.1, hC.2.2⟩, EqM.rf⟩
    · --f
      obtain ⟨y, hy, rfl⟩ := inR_nI h12 (by decide)
      refine w_al dX7_gale_15 rfl ?_
      refine w_gr dX7_gale_16 fl_X7_19 sh0 rfl ?_
      refine w_il dX7_gale_19 rfl ?_
      refine w_cVf dX7_gale_20 (vl_X7_104 _ rfl) sh10 (by decide) (c_X1_mayBeTold ρ σ t hC.1) rfl rfl (Nat.le_of_ble_eq_true rfl) ?_
      refine w_ifneB dX7_gale_23 (fun h23 => ?_) (fun h23 => ?_)
      · --t
        obtain ⟨z, hz0, hz, rfl⟩ := inR_nI2 h23 (by omega) (by omega)
        refine w_al dX7_gale_29 rfl ?_
        refine w_gr dX7_gale_30 fl_X7_19 sh0 rfl ?_
        refine w_il dX7_gale_33 rfl ?_
        refine w_il dX7_gale_34 rfl ?_
        refine w_il dX7_gale_35 rfl ?_
        rcases Nat.lt_or_ge (σ.1 47 7) 60 with hg | hg
        · --case
          refine w_cVr dX7_gale_36 (vl_X7_107 _ rfl) sh10 (by decide) (c_X1_add ρ σ x y z hC.1 (by omega) (by omega) (by omega) (by omega)) rfl rfl (Nat.le_of_ble_eq_true rfl) (fun va ρa ha9 => ?_)
          obtain ⟨rfl, hPa, hFa⟩ := ha9
          refine w_ifneN dX7_gale_39 (by omega) (fun h39 => ?_) (fun h39 => ?_)
          · --t
            refine w_al dX7_gale_45 rfl ?_
            refine w_gr dX7_gale_46 fl_X7_19 sh0 rfl ?_
            refine w_cVu dX7_gale_49 (vl_X7_110 _ rfl) sh10 (by decide) (c_X1_reckonTurns ρa (addG σ x y z) hPa) rfl rfl (Nat.le_of_ble_eq_true rfl) (fun ρt ht9 => ?_)
            obtain ⟨hPt, hTt, hFt⟩ := ht9
            refine w_al dX7_gale_52 rfl ?_
            refine w_gr dX7_gale_53 fl_X7_19 sh0 rfl ?_
            refine w_giV (v := (nI (σ.1 47 7 + 1))) dX7_gale_56 fl_X7_113 sh10 rfl (by rw [hPt.2.2.2.1 (10, 0, 47, 7) (by decide)]; exact congrArg nI sN_eq) ?_
            refine w_k dX7_gale_59 ?_
            refine w_isubN dX7_gale_60 (by omega) ?_
            refine w_iret dX7_gale_61 rfl ?_
            rw [← hQ]
            exact ⟨_, rfl, by rw [r_gale, if_pos ⟨h4, h12, h23⟩, if_neg (by omega)]; rfl, by rw [n_gale, if_pos ⟨h4, h12, h23⟩, if_neg (by omega), nv_nI (by omega), nv_nI (by omega), nv_nI (by omega)]; exact ⟨hPt, addG_L (CLd.fr hC.2.1 (Fr.tr (Fr.sub hFa (by decide)) (Fr.sub hFt (by decide)) : Fr [10, 11, 12, 13, 14, 15] ρ ρt) (by decide)), hTt⟩, (EqM.tr (EqM.tr EqM.rf (Fr.eqM hFa (by decide))) (Fr.eqM hFt (by decide)))⟩
          · --f
            exact absurd h39 (by decide)
        · --case
          refine w_cVf dX7_gale_36 (vl_X7_107 _ rfl) sh10 (by decide) (c_X1_addF ρ σ (nI x) (nI y) (nI z) hC.1 (by omega)) rfl rfl (Nat.le_of_ble_eq_true rfl) ?_
          refine w_ifneN dX7_gale_39 (by omega) (fun h39 => ?_) (fun h39 => ?_)
          · --t
            exact absurd rfl h39
          · --f
            refine w_k dX7_gale_42 ?_
            refine w_iret dX7_gale_44 rfl ?_
            rw [← hQ]
            exact ⟨_, rfl, by rw [r_gale, if_pos ⟨h4, h12, h23⟩, if_pos (by omega)], by rw [n_gale, if_pos ⟨h4, h12, h23⟩, if_pos (by omega)]; exact hC, EqM.rf⟩
      · --f
        refine w_k dX7_gale_26 ?_
        refine w_iret dX7_gale_28 rfl ?_
        rw [← hQ]
        exact ⟨_, rfl, by rw [r_gale, if_neg (fun z => h23 z.2.2)], by rw [n_gale, if_neg (fun z => h23 z.2.2)]; exact ⟨hC.1, hC.2.1, hC.2.2⟩, EqM.rf⟩

set_option maxHeartbeats 4000000 in
theorem c_X8_galeMore (ρ : Rho) (σ : Sg) (d : Int32) (f : Int32) (t : Int32) (hM : MInv σ ρ) : CallOK 1 mX8_galeMore [.ref 47, .int d, .int f, .int t] ρ (fun r ρ2 => ∃ v, r = some v ∧ (v = .int (r_gale σ d f t) ∧ MInv (n_gale σ d f t) ρ2 ∧ EqC ρ ρ2)) := by
  refine callOK_of 0 (by decide +kernel) rfl (fun _ => Nat.le_of_ble_eq_true rfl) (ls := [some (.ref 47), some (.int d), some (.int f), some (.int t)]) rfl ?_
  generalize hQ : (fun r ρ2 => ∃ v, r = some v ∧ (v = .int (r_gale σ d f t) ∧ MInv (n_gale σ d f t) ρ2 ∧ EqC ρ ρ2) : Option Value → Rho → Prop) = Q
  have w1 := hM.1.typed
  have w2 := hM.1.gales
  have w3 := hM.1.last
  refine w_il dX8_galeMore_0 rfl ?_
  refine w_k dX8_galeMore_1 ?_
  refine w_k dX8_galeMore_2 ?_
  refine w_cSf dX8_galeMore_4 (sl_X8_89 _ rfl) (by decide) (c_X8_in ρ d (nI 0) (nI 99)) rfl rfl (Nat.le_of_ble_eq_true rfl) ?_
  refine w_ifeqB dX8_galeMore_7 (fun h7 => ?_) (fun h7 => ?_)
  · --t
    refine w_k dX8_galeMore_33 ?_
    refine w_iret dX8_galeMore_35 rfl ?_
    rw [← hQ]
    exact ⟨_, rfl, by rw [r_gale, if_neg (fun z => h7 z.1)], by rw [n_gale, if_neg (fun z => h7 z.1)]; exact hM, EqC.rf⟩
  · --f
    obtain ⟨x, hx, rfl⟩ := inR_nI h7 (by decide)
    refine w_il dX8_galeMore_10 rfl ?_
    refine w_k dX8_galeMore_11 ?_
    refine w_k dX8_galeMore_12 ?_
    refine w_cSf dX8_galeMore_13 (sl_X8_89 _ rfl) (by decide) (c_X8_in ρ f (nI 0) (nI 1)) rfl rfl (Nat.le_of_ble_eq_true rfl) ?_
    refine w_ifeqB dX8_galeMore_16 (fun h16 => ?_) (fun h16 => ?_)
    · --t
      refine w_k dX8_galeMore_33 ?_
      refine w_iret dX8_galeMore_35 rfl ?_
      rw [← hQ]
      exact ⟨_, rfl, by rw [r_gale, if_neg (fun z => h16 z.2.1)], by rw [n_gale, if_neg (fun z => h16 z.2.1)]; exact hM, EqC.rf⟩
    · --f
      obtain ⟨y, hy, rfl⟩ := inR_nI h16 (by decide)
      refine w_il dX8_galeMore_19 rfl ?_
      refine w_al dX8_galeMore_20 rfl ?_
      refine w_giV (v := (nI (σ.1 47 12))) dX8_galeMore_21 fl_X8_126 sh47 rfl (hM.2.2.2 12 (by decide)) ?_
      refine w_k dX8_galeMore_24 ?_
      refine w_cSf dX8_galeMore_27 (sl_X8_89 _ rfl) (by decide) (c_X8_in ρ t (nI (σ.1 47 12)) (nI 999)) rfl rfl (Nat.le_of_ble_eq_true rfl) ?_
      refine w_ifneB dX8_galeMore_30 (fun h30 => ?_) (fun h30 => ?_)
      · --t
        obtain ⟨z, hz0, hz, rfl⟩ := inR_nI2 h30 (by omega) (by omega)
        refine w_al dX8_galeMore_36 rfl ?_
        refine w_giV (v := (nI (σ.1 47 7))) dX8_galeMore_37 fl_X8_129 sh47 rfl (hM.2.2.2 7 (by decide)) ?_
        refine w_k dX8_galeMore_40 ?_
        refine w_icneN dX8_galeMore_42 (by omega) (by omega) (fun h42 => ?_) (fun h42 => ?_)
        · --t
          refine w_al dX8_galeMore_48 rfl ?_
          refine w_gr dX8_galeMore_49 fl_X8_25 sh47 rfl ?_
          refine w_al dX8_galeMore_52 rfl ?_
          refine w_giV (v := (nI (σ.1 47 7))) dX8_galeMore_53 fl_X8_129 sh47 rfl (hM.2.2.2 7 (by decide)) ?_
          refine w_il dX8_galeMore_56 rfl ?_
          refine w_iastN dX8_galeMore_57 sh53 (by omega) ?_
          refine w_al dX8_galeMore_58 rfl ?_
          refine w_gr dX8_galeMore_59 fl_X8_28 sh47 rfl ?_
          refine w_al dX8_galeMore_62 rfl ?_
          refine w_giV (v := (nI (σ.1 47 7))) dX8_galeMore_63 fl_X8_129 sh47 rfl (rI_c (by decide) (hM.2.2.2 7 (by decide))) ?_
          refine w_il dX8_galeMore_66 rfl ?_
          refine w_iastN dX8_galeMore_67 sh54 (by omega) ?_
          refine w_al dX8_galeMore_68 rfl ?_
          refine w_gr dX8_galeMore_69 fl_X8_31 sh47 rfl ?_
          refine w_al dX8_galeMore_72 rfl ?_
          refine w_giV (v := (nI (σ.1 47 7))) dX8_galeMore_73 fl_X8_129 sh47 rfl (rI_c (by decide) (rI_c (by decide) (hM.2.2.2 7 (by decide)))) ?_
          refine w_il dX8_galeMore_76 rfl ?_
          refine w_iastN dX8_galeMore_77 sh55 (by omega) ?_
          refine w_al dX8_galeMore_78 rfl ?_
          refine w_gr dX8_galeMore_79 fl_X8_34 sh47 rfl ?_
          refine w_al dX8_galeMore_82 rfl ?_
          refine w_giV (v := (nI (σ.1 47 7))) dX8_galeMore_83 fl_X8_129 sh47 rfl (rI_c (by decide) (rI_c (by decide) (rI_c (by decide) (hM.2.2.2 7 (by decide))))) ?_
          refine w_k dX8_galeMore_86 ?_
          refine w_iastN dX8_galeMore_87 sh56 (by omega) ?_
          refine w_al dX8_galeMore_88 rfl ?_
          refine w_il dX8_galeMore_89 rfl ?_
          refine w_pi dX8_galeMore_90 fp_X8_126 sh47 rfl rfl rfl ?_
          refine w_al dX8_galeMore_93 rfl ?_
          refine w_dup dX8_galeMore_94 rfl ?_
          refine w_giV (v := (nI (σ.1 47 7))) dX8_galeMore_95 fl_X8_129 sh47 rfl (rI_s (by decide) (rI_c (by decide) (rI_c (by decide) (rI_c (by decide) (rI_c (by decide) (hM.2.2.2 7 (by decide))))))) ?_
          refine w_k dX8_galeMore_98 ?_
          refine w_iaddN dX8_galeMore_99 ?_
          refine w_pi dX8_galeMore_100 fp_X8_129 sh47 rfl rfl rfl ?_
          refine w_al dX8_galeMore_103 rfl ?_
          refine w_giV (v := (nI (σ.1 47 7 + 1))) dX8_galeMore_104 fl_X8_129 sh47 rfl (rI_eq) ?_
          refine w_k dX8_galeMore_107 ?_
          refine w_isubN dX8_galeMore_108 (by omega) ?_
          refine w_iret dX8_galeMore_109 rfl ?_
          rw [← hQ]
          exact ⟨_, rfl, by rw [r_gale, if_pos ⟨h7, h16, h30⟩, if_neg h42]; rfl, by rw [n_gale, if_pos ⟨h7, h16, h30⟩, if_neg h42, nv_nI (by omega), nv_nI (by omega), nv_nI (by omega)]; exact addG_M hM (by omega) (by omega) (by omega) (by omega), (EqC.w (EqC.w (EqC.w (EqC.w (EqC.w (EqC.w EqC.rf (by decide)) (by decide)) (by decide)) (by decide)) (by decide)) (by decide))⟩
        · --f
          refine w_k dX8_galeMore_45 ?_
          refine w_iret dX8_galeMore_47 rfl ?_
          rw [← hQ]
          exact ⟨_, rfl, by rw [r_gale, if_pos ⟨h7, h16, h30⟩, if_pos h42], by rw [n_gale, if_pos ⟨h7, h16, h30⟩, if_pos h42]; exact hM, EqC.rf⟩
      · --f
        refine w_k dX8_galeMore_33 ?_
        refine w_iret dX8_galeMore_35 rfl ?_
        rw [← hQ]
        exact ⟨_, rfl, by rw [r_gale, if_neg (fun z => h30 z.2.2)], by rw [n_gale, if_neg (fun z => h30 z.2.2)]; exact hM, EqC.rf⟩

set_option maxHeartbeats 4000000 in
theorem c_X8_gale (ρ : Rho) (σ : Sg) (d : Int32) (f : Int32) (t : Int32) (hM : MInv σ ρ) : CallOK 2 mX8_gale [.ref 47, .int d, .int f, .int t] ρ (fun r ρ2 => ∃ v, r = some v ∧ (v = .int (r_gale σ d f t) ∧ MInv (n_gale σ d f t) ρ2 ∧ EqC ρ ρ2)) := by
  refine callOK_of 0 (by decide +kernel) rfl (fun _ => Nat.le_of_ble_eq_true rfl) (ls := [some (.ref 47), some (.int d), some (.int f), some (.int t)]) rfl ?_
  generalize hQ : (fun r ρ2 => ∃ v, r = some v ∧ (v = .int (r_gale σ d f t) ∧ MInv (n_gale σ d f t) ρ2 ∧ EqC ρ ρ2) : Option Value → Rho → Prop) = Q
  refine w_al dX8_gale_0 rfl ?_
  refine w_il dX8_gale_1 rfl ?_
  refine w_il dX8_gale_2 rfl ?_
  refine w_il dX8_gale_3 rfl ?_
  refine w_cVr dX8_gale_4 (vl_X8_132 _ rfl) sh47 (by decide) (c_X8_galeMore ρ σ d f t hM) rfl rfl (Nat.le_of_ble_eq_true rfl) (fun vg1 ρg1 hg1 => ?_)
  obtain ⟨rfl, hMg1, hEg1⟩ := hg1
  refine w_iret dX8_gale_7 rfl ?_
  rw [← hQ]
  exact ⟨_, rfl, rfl, hMg1, (EqC.tr EqC.rf hEg1)⟩

set_option maxHeartbeats 4000000 in
theorem c_X1_isTaken (ρ : Rho) (σ : Sg) (k : Nat) (hP : CP σ ρ) (hk : k < 60) : CallOK 0 mX1_isTaken [.ref 10, .int (nI k)] ρ (fun r ρ2 => r = some (.int (b2i (σ.2 56 k ≠ -1))) ∧ ρ2 = ρ) := by
  refine callOK_of 0 (by decide +kernel) rfl (fun _ => Nat.le_of_ble_eq_true rfl) (ls := [some (.ref 10), some (.int (nI k))]) rfl ?_
  generalize hQ : (fun r ρ2 => r = some (.int (b2i (σ.2 56 k ≠ -1))) ∧ ρ2 = ρ : Option Value → Rho → Prop) = Q
  refine w_al dX1_isTaken_0 rfl ?_
  refine w_gr dX1_isTaken_1 fl_X1_25 sh10 rfl ?_
  refine w_il dX1_isTaken_4 rfl ?_
  refine w_ialdV (v := (σ.2 56 k)) dX1_isTaken_5 sh14 (by omega) (hP.2.2.1 (14, 56) (by decide) _) ?_
  refine w_k dX1_isTaken_6 ?_
  refine w_iceq dX1_isTaken_7 (fun h7 => ?_) (fun h7 => ?_)
  · --t
    refine w_k dX1_isTaken_14 ?_
    refine w_zret dX1_isTaken_15 rfl rfl ?_
    rw [← hQ]
    exact ⟨congrArg (fun z => some (Value.int z)) (b2i_f (fun q => q h7)).symm, rfl⟩
  · --f
    refine w_k dX1_isTaken_10 ?_
    refine w_goto dX1_isTaken_11 ?_
    refine w_zret dX1_isTaken_15 rfl rfl ?_
    rw [← hQ]
    exact ⟨congrArg (fun z => some (Value.int z)) (b2i_t h7).symm, rfl⟩

set_option maxHeartbeats 4000000 in
theorem c_X1_remove (ρ : Rho) (σ : Sg) (k t : Nat) (hP : CP σ ρ) (hk : k < 60) (ht : t ≤ 999) : CallOK 0 mX1_remove [.ref 10, .int (nI k), .int (nI t)] ρ (fun r ρ2 => r = none ∧ (CP (sN (sZ σ 56 k (nI t)) 47 12 t) ρ2 ∧ Fr [10, 14] ρ ρ2)) := by
  refine callOK_of 0 (by decide +kernel) rfl (fun _ => Nat.le_of_ble_eq_true rfl) (ls := [some (.ref 10), some (.int (nI k)), some (.int (nI t))]) rfl ?_
  generalize hQ : (fun r ρ2 => r = none ∧ (CP (sN (sZ σ 56 k (nI t)) 47 12 t) ρ2 ∧ Fr [10, 14] ρ ρ2) : Option Value → Rho → Prop) = Q
  refine w_al dX1_remove_0 rfl ?_
  refine w_gr dX1_remove_1 fl_X1_25 sh10 rfl ?_
  refine w_il dX1_remove_4 rfl ?_
  refine w_il dX1_remove_5 rfl ?_
  refine w_iastN dX1_remove_6 sh14 (by omega) ?_
  refine w_al dX1_remove_7 rfl ?_
  refine w_il dX1_remove_8 rfl ?_
  refine w_pi dX1_remove_9 fp_X1_28 sh10 rfl rfl rfl ?_
  refine w_ret dX1_remove_12 rfl ?_
  rw [← hQ]
  exact ⟨rfl, CP.wS (CP.wZ hP (by decide) (Wf.sZ hP.1 (fun e => absurd e (by decide)) (fun _ => Or.inr ⟨t, ht, rfl⟩))) (by decide) (Wf.sN (Wf.sZ hP.1 (fun e => absurd e (by decide)) (fun _ => Or.inr ⟨t, ht, rfl⟩)) (by simp [okN] <;> omega)), (Fr.only (Fr.only Fr.rf only_wI (by decide)) only_wI (by decide))⟩

set_option maxHeartbeats 4000000 in
theorem c_X7_takeBack (ρ : Rho) (σ : Sg) (g : Int32) (t : Int32) (hC : CInv σ ρ) : CallOK 2 mX7_takeBack [.ref 0, .int g, .int t] ρ (fun r ρ2 => ∃ v, r = some v ∧ (v = .int (r_back σ g t) ∧ CInv (n_back σ g t) ρ2 ∧ EqM ρ ρ2)) := by
  refine callOK_of 0 (by decide +kernel) rfl (fun _ => Nat.le_of_ble_eq_true rfl) (ls := [some (.ref 0), some (.int g), some (.int t)]) rfl ?_
  generalize hQ : (fun r ρ2 => ∃ v, r = some v ∧ (v = .int (r_back σ g t) ∧ CInv (n_back σ g t) ρ2 ∧ EqM ρ ρ2) : Option Value → Rho → Prop) = Q
  have w1 := hC.1.1.typed
  have w2 := hC.1.1.gales
  have w3 := hC.1.1.last
  refine w_il dX7_takeBack_0 rfl ?_
  refine w_al dX7_takeBack_1 rfl ?_
  refine w_gr dX7_takeBack_2 fl_X7_19 sh0 rfl ?_
  refine w_giV (v := (nI (σ.1 47 7))) dX7_takeBack_5 fl_X7_113 sh10 rfl (hC.1.2.2.2.1 (10, 0, 47, 7) (by decide)) ?_
  refine w_k dX7_takeBack_8 ?_
  refine w_isub dX7_takeBack_9 ?_
  refine w_cSf dX7_takeBack_10 (sl_X7_61 _ rfl) (by decide) (c_X7_within ρ g ((nI (σ.1 47 7)) - (nI 1))) rfl rfl (Nat.le_of_ble_eq_true rfl) ?_
  refine w_ifeqB dX7_takeBack_13 (fun h13 => ?_) (fun h13 => ?_)
  · --t
    refine w_k dX7_takeBack_27 ?_
    refine w_iret dX7_takeBack_29 rfl ?_
    rw [← hQ]
    exact ⟨_, rfl, by rw [r_back, if_neg (fun z => h13 z.1)], by rw [n_back, if_neg (fun z => h13 z.1)]; exact ⟨hC.1, hC.2.1, hC.2.2⟩, EqM.rf⟩
  · --f
    obtain ⟨x, hx, rfl⟩ := back_nI h13 w2
    refine w_al dX7_takeBack_16 rfl ?_
    refine w_gr dX7_takeBack_17 fl_X7_19 sh0 rfl ?_
    refine w_il dX7_takeBack_20 rfl ?_
    refine w_cVf dX7_takeBack_21 (vl_X7_104 _ rfl) sh10 (by decide) (c_X1_mayBeTold ρ σ t hC.1) rfl rfl (Nat.le_of_ble_eq_true rfl) ?_
    refine w_ifneB dX7_takeBack_24 (fun h24 => ?_) (fun h24 => ?_)
    · --t
      obtain ⟨z, hz0, hz, rfl⟩ := inR_nI2 h24 (by omega) (by omega)
      refine w_al dX7_takeBack_30 rfl ?_
      refine w_gr dX7_takeBack_31 fl_X7_19 sh0 rfl ?_
      refine w_il dX7_takeBack_34 rfl ?_
      refine w_cVf dX7_takeBack_35 (vl_X7_136 _ rfl) sh10 (by decide) (c_X1_isTaken ρ σ x hC.1 (by omega)) rfl rfl (Nat.le_of_ble_eq_true rfl) ?_
      refine w_ifeqB dX7_takeBack_38 (fun h38 => ?_) (fun h38 => ?_)
      · --t
        refine w_al dX7_takeBack_44 rfl ?_
        refine w_gr dX7_takeBack_45 fl_X7_19 sh0 rfl ?_
        refine w_il dX7_takeBack_48 rfl ?_
        refine w_il dX7_takeBack_49 rfl ?_
        refine w_cVu dX7_takeBack_50 (vl_X7_139 _ rfl) sh10 (by decide) (c_X1_remove ρ σ x z hC.1 (by omega) (by omega)) rfl rfl (Nat.le_of_ble_eq_true rfl) (fun ρa ha9 => ?_)
        obtain ⟨hPa, hFa⟩ := ha9
        refine w_al dX7_takeBack_53 rfl ?_
        refine w_gr dX7_takeBack_54 fl_X7_19 sh0 rfl ?_
        refine w_cVu dX7_takeBack_57 (vl_X7_110 _ rfl) sh10 (by decide) (c_X1_reckonTurns ρa (sN (sZ σ 56 x (nI z)) 47 12 z) hPa) rfl rfl (Nat.le_of_ble_eq_true rfl) (fun ρt ht9 => ?_)
        obtain ⟨hPt, hTt, hFt⟩ := ht9
        refine w_k dX7_takeBack_60 ?_
        refine w_iret dX7_takeBack_61 rfl ?_
        rw [← hQ]
        exact ⟨_, rfl, by rw [r_back, if_pos ⟨h13, h24⟩, nv_nI (by omega), if_pos (Decidable.byContradiction h38)], by rw [n_back, if_pos ⟨h13, h24⟩, nv_nI (a := x) (by omega), if_pos (Decidable.byContradiction h38), nv_nI (by omega)]; exact ⟨hPt, CLd.sN (CLd.sZ (CLd.fr hC.2.1 (Fr.tr (Fr.sub hFa (by decide)) (Fr.sub hFt (by decide)) : Fr [10, 14, 15] ρ ρt) (by decide))) (by omega), hTt⟩, (EqM.tr (EqM.tr EqM.rf (Fr.eqM hFa (by decide))) (Fr.eqM hFt (by decide)))⟩
      · --f
        refine w_k dX7_takeBack_41 ?_
        refine w_iret dX7_takeBack_43 rfl ?_
        rw [← hQ]
        exact ⟨_, rfl, by rw [r_back, if_pos ⟨h13, h24⟩, nv_nI (by omega), if_neg h38], by rw [n_back, if_pos ⟨h13, h24⟩, nv_nI (by omega), if_neg h38]; exact hC, EqM.rf⟩
    · --f
      refine w_k dX7_takeBack_27 ?_
      refine w_iret dX7_takeBack_29 rfl ?_
      rw [← hQ]
      exact ⟨_, rfl, by rw [r_back, if_neg (fun z => h24 z.2)], by rw [n_back, if_neg (fun z => h24 z.2)]; exact ⟨hC.1, hC.2.1, hC.2.2⟩, EqM.rf⟩

set_option maxHeartbeats 4000000 in
theorem c_X8_takeBack (ρ : Rho) (σ : Sg) (g : Int32) (t : Int32) (hM : MInv σ ρ) : CallOK 1 mX8_takeBack [.ref 47, .int g, .int t] ρ (fun r ρ2 => ∃ v, r = some v ∧ (v = .int (r_back σ g t) ∧ MInv (n_back σ g t) ρ2 ∧ EqC ρ ρ2)) := by
  refine callOK_of 0 (by decide +kernel) rfl (fun _ => Nat.le_of_ble_eq_true rfl) (ls := [some (.ref 47), some (.int g), some (.int t)]) rfl ?_
  generalize hQ : (fun r ρ2 => ∃ v, r = some v ∧ (v = .int (r_back σ g t) ∧ MInv (n_back σ g t) ρ2 ∧ EqC ρ ρ2) : Option Value → Rho → Prop) = Q
  have w1 := hM.1.typed
  have w2 := hM.1.gales
  have w3 := hM.1.last
  refine w_il dX8_takeBack_0 rfl ?_
  refine w_k dX8_takeBack_1 ?_
  refine w_al dX8_takeBack_2 rfl ?_
  refine w_giV (v := (nI (σ.1 47 7))) dX8_takeBack_3 fl_X8_129 sh47 rfl (hM.2.2.2 7 (by decide)) ?_
  refine w_k dX8_takeBack_6 ?_
  refine w_isub dX8_takeBack_7 ?_
  refine w_cSf dX8_takeBack_8 (sl_X8_89 _ rfl) (by decide) (c_X8_in ρ g (nI 0) ((nI (σ.1 47 7)) - (nI 1))) rfl rfl (Nat.le_of_ble_eq_true rfl) ?_
  refine w_ifeqB dX8_takeBack_11 (fun h11 => ?_) (fun h11 => ?_)
  · --t
    refine w_k dX8_takeBack_28 ?_
    refine w_iret dX8_takeBack_30 rfl ?_
    rw [← hQ]
    exact ⟨_, rfl, by rw [r_back, if_neg (fun z => h11 z.1)], by rw [n_back, if_neg (fun z => h11 z.1)]; exact hM, EqC.rf⟩
  · --f
    obtain ⟨x, hx, rfl⟩ := back_nI h11 w2
    refine w_il dX8_takeBack_14 rfl ?_
    refine w_al dX8_takeBack_15 rfl ?_
    refine w_giV (v := (nI (σ.1 47 12))) dX8_takeBack_16 fl_X8_126 sh47 rfl (hM.2.2.2 12 (by decide)) ?_
    refine w_k dX8_takeBack_19 ?_
    refine w_cSf dX8_takeBack_22 (sl_X8_89 _ rfl) (by decide) (c_X8_in ρ t (nI (σ.1 47 12)) (nI 999)) rfl rfl (Nat.le_of_ble_eq_true rfl) ?_
    refine w_ifneB dX8_takeBack_25 (fun h25 => ?_) (fun h25 => ?_)
    · --t
      obtain ⟨z, hz0, hz, rfl⟩ := inR_nI2 h25 (by omega) (by omega)
      refine w_al dX8_takeBack_31 rfl ?_
      refine w_gr dX8_takeBack_32 fl_X8_34 sh47 rfl ?_
      refine w_il dX8_takeBack_35 rfl ?_
      refine w_ialdV (v := (σ.2 56 x)) dX8_takeBack_36 sh56 (by omega) (hM.2.2.1 56 (by decide) _) ?_
      refine w_k dX8_takeBack_37 ?_
      refine w_iceq dX8_takeBack_38 (fun h38 => ?_) (fun h38 => ?_)
      · --t
        refine w_al dX8_takeBack_44 rfl ?_
        refine w_gr dX8_takeBack_45 fl_X8_34 sh47 rfl ?_
        refine w_il dX8_takeBack_48 rfl ?_
        refine w_il dX8_takeBack_49 rfl ?_
        refine w_iastN dX8_takeBack_50 sh56 (by omega) ?_
        refine w_al dX8_takeBack_51 rfl ?_
        refine w_il dX8_takeBack_52 rfl ?_
        refine w_pi dX8_takeBack_53 fp_X8_126 sh47 rfl rfl rfl ?_
        refine w_k dX8_takeBack_56 ?_
        refine w_iret dX8_takeBack_57 rfl ?_
        rw [← hQ]
        exact ⟨_, rfl, by rw [r_back, if_pos ⟨h11, h25⟩, nv_nI (by omega), if_pos h38], by rw [n_back, if_pos ⟨h11, h25⟩, nv_nI (a := x) (by omega), if_pos h38, nv_nI (by omega)]; exact MInv.wS (MInv.wZ hM (by decide) (Wf.sZ hM.1 (fun e => absurd e (by decide)) (fun _ => Or.inr ⟨z, hz, rfl⟩))) (by decide) (Wf.sN (Wf.sZ hM.1 (fun e => absurd e (by decide)) (fun _ => Or.inr ⟨z, hz, rfl⟩)) (by simp [okN] <;> omega)), (EqC.w (EqC.w EqC.rf (by decide)) (by decide))⟩
      · --f
        refine w_k dX8_takeBack_41 ?_
        refine w_iret dX8_takeBack_43 rfl ?_
        rw [← hQ]
        exact ⟨_, rfl, by rw [r_back, if_pos ⟨h11, h25⟩, nv_nI (by omega), if_neg h38], by rw [n_back, if_pos ⟨h11, h25⟩, nv_nI (by omega), if_neg h38]; exact hM, EqC.rf⟩
    · --f
      refine w_k dX8_takeBack_28 ?_
      refine w_iret dX8_takeBack_30 rfl ?_
      rw [← hQ]
      exact ⟨_, rfl, by rw [r_back, if_neg (fun z => h25 z.2)], by rw [n_back, if_neg (fun z => h25 z.2)]; exact hM, EqC.rf⟩

set_option maxHeartbeats 4000000 in
theorem c_X1_change (ρ : Rho) (σ : Sg) (y b : Nat) (hP : CP σ ρ) (hy : y ≤ 2) (hb : b ≤ (if y = 0 then 999 else 7)) : CallOK 0 mX1_change [.ref 10, .int (nI y), .int (nI b)] ρ (fun r ρ2 => ∃ v, r = some v ∧ (v = .int (nI (σ.1 57 y)) ∧ CP (sN σ 57 y b) ρ2 ∧ Fr [10] ρ ρ2)) := by
  refine callOK_of 1 (by decide +kernel) rfl (fun _ => Nat.le_of_ble_eq_true rfl) (ls := [some (.ref 10), some (.int (nI y)), some (.int (nI b)), none]) rfl ?_
  generalize hQ : (fun r ρ2 => ∃ v, r = some v ∧ (v = .int (nI (σ.1 57 y)) ∧ CP (sN σ 57 y b) ρ2 ∧ Fr [10] ρ ρ2) : Option Value → Rho → Prop) = Q
  refine w_il dX1_change_0 rfl ?_
  refine w_ifneN dX1_change_1 (by omega) (fun h1 => ?_) (fun h1 => ?_)
  · --t
    refine w_il dX1_change_17 rfl ?_
    refine w_k dX1_change_18 ?_
    refine w_icneN dX1_change_19 (by omega) (by omega) (fun h19 => ?_) (fun h19 => ?_)
    · --t
      refine w_al dX1_change_35 rfl ?_
      refine w_giV (v := (nI (σ.1 57 2))) dX1_change_36 fl_X1_37 sh10 rfl (hP.2.2.2.1 (10, 8, 57, 2) (by decide)) ?_
      refine w_is (ls2 := [some (.ref 10), some (.int (nI y)), some (.int (nI b)), some (.int (nI (σ.1 57 2)))]) dX1_change_39 rfl ?_
      refine w_al dX1_change_40 rfl ?_
      refine w_il dX1_change_41 rfl ?_
      refine w_pi dX1_change_42 fp_X1_37 sh10 rfl rfl rfl ?_
      refine w_il dX1_change_45 rfl ?_
      refine w_iret dX1_change_46 rfl ?_
      rw [← hQ]
      obtain rfl : y = 2 := by omega
      simp at hb
      exact ⟨_, rfl, rfl, CP.wS hP (by decide) (Wf.sN hP.1 (by simp [okN] <;> omega)), (Fr.only Fr.rf only_wI (by decide))⟩
    · --f
      refine w_al dX1_change_22 rfl ?_
      refine w_giV (v := (nI (σ.1 57 1))) dX1_change_23 fl_X1_34 sh10 rfl (hP.2.2.2.1 (10, 7, 57, 1) (by decide)) ?_
      refine w_is (ls2 := [some (.ref 10), some (.int (nI y)), some (.int (nI b)), some (.int (nI (σ.1 57 1)))]) dX1_change_26 rfl ?_
      refine w_al dX1_change_27 rfl ?_
      refine w_il dX1_change_28 rfl ?_
      refine w_pi dX1_change_29 fp_X1_34 sh10 rfl rfl rfl ?_
      refine w_goto dX1_change_32 ?_
      refine w_il dX1_change_45 rfl ?_
      refine w_iret dX1_change_46 rfl ?_
      rw [← hQ]
      obtain rfl : y = 1 := by omega
      simp at hb
      exact ⟨_, rfl, rfl, CP.wS hP (by decide) (Wf.sN hP.1 (by simp [okN] <;> omega)), (Fr.only Fr.rf only_wI (by decide))⟩
  · --f
    refine w_al dX1_change_4 rfl ?_
    refine w_giV (v := (nI (σ.1 57 0))) dX1_change_5 fl_X1_31 sh10 rfl (hP.2.2.2.1 (10, 6, 57, 0) (by decide)) ?_
    refine w_is (ls2 := [some (.ref 10), some (.int (nI y)), some (.int (nI b)), some (.int (nI (σ.1 57 0)))]) dX1_change_8 rfl ?_
    refine w_al dX1_change_9 rfl ?_
    refine w_il dX1_change_10 rfl ?_
    refine w_pi dX1_change_11 fp_X1_31 sh10 rfl rfl rfl ?_
    refine w_goto dX1_change_14 ?_
    refine w_il dX1_change_45 rfl ?_
    refine w_iret dX1_change_46 rfl ?_
    rw [← hQ]
    obtain rfl : y = 0 := by omega
    simp at hb
    exact ⟨_, rfl, rfl, CP.wS hP (by decide) (Wf.sN hP.1 (by simp [okN] <;> omega)), (Fr.only Fr.rf only_wI (by decide))⟩

set_option maxHeartbeats 4000000 in
theorem c_X7_set (ρ : Rho) (σ : Sg) (p : Int32) (u : Int32) (hC : CInv σ ρ) : CallOK 2 mX7_set [.ref 0, .int p, .int u] ρ (fun r ρ2 => ∃ v, r = some v ∧ (v = .int (r_set σ p u) ∧ CInv (n_set σ p u) ρ2 ∧ EqM ρ ρ2)) := by
  refine callOK_of 1 (by decide +kernel) rfl (fun _ => Nat.le_of_ble_eq_true rfl) (ls := [some (.ref 0), some (.int p), some (.int u), none]) rfl ?_
  generalize hQ : (fun r ρ2 => ∃ v, r = some v ∧ (v = .int (r_set σ p u) ∧ CInv (n_set σ p u) ρ2 ∧ EqM ρ ρ2) : Option Value → Rho → Prop) = Q
  refine w_il dX7_set_0 rfl ?_
  refine w_k dX7_set_1 ?_
  refine w_cSf dX7_set_2 (sl_X7_61 _ rfl) (by decide) (c_X7_within ρ p (nI 2)) rfl rfl (Nat.le_of_ble_eq_true rfl) ?_
  refine w_ifeqB dX7_set_5 (fun h5 => ?_) (fun h5 => ?_)
  · --t
    refine w_k dX7_set_27 ?_
    refine w_iret dX7_set_29 rfl ?_
    rw [← hQ]
    exact ⟨_, rfl, by rw [r_set, if_neg (fun z => h5 z.1)], by rw [n_set, if_neg (fun z => h5 z.1)]; exact ⟨hC.1, hC.2.1, hC.2.2⟩, EqM.rf⟩
  · --f
    obtain ⟨y, hy, rfl⟩ := inR_nI h5 (by decide)
    refine w_il dX7_set_8 rfl ?_
    refine w_il dX7_set_9 rfl ?_
    refine w_ifneN dX7_set_10 (by omega) (fun h10 => ?_) (fun h10 => ?_)
    · --t
      refine w_k dX7_set_19 ?_
      refine w_cSf dX7_set_21 (sl_X7_61 _ rfl) (by decide) (c_X7_within ρ u (nI 7)) rfl rfl (Nat.le_of_ble_eq_true rfl) ?_
      refine w_ifneB dX7_set_24 (fun h24 => ?_) (fun h24 => ?_)
      · --t
        obtain ⟨z, hz, rfl⟩ := inR_nI h24 (by decide)
        refine w_al dX7_set_30 rfl ?_
        refine w_gr dX7_set_31 fl_X7_19 sh0 rfl ?_
        refine w_il dX7_set_34 rfl ?_
        refine w_il dX7_set_35 rfl ?_
        refine w_cVr dX7_set_36 (vl_X7_143 _ rfl) sh10 (by decide) (c_X1_change ρ σ y z hC.1 (by omega) (by split <;> omega)) rfl rfl (Nat.le_of_ble_eq_true rfl) (fun va ρa ha9 => ?_)
        obtain ⟨rfl, hPa, hFa⟩ := ha9
        refine w_is (ls2 := [some (.ref 0), some (.int (nI y)), some (.int (nI z)), some (.int (nI (σ.1 57 y)))]) dX7_set_39 rfl ?_
        refine w_al dX7_set_40 rfl ?_
        refine w_gr dX7_set_41 fl_X7_19 sh0 rfl ?_
        refine w_cVu dX7_set_44 (vl_X7_110 _ rfl) sh10 (by decide) (c_X1_reckonTurns ρa (sN σ 57 y z) hPa) rfl rfl (Nat.le_of_ble_eq_true rfl) (fun ρt ht9 => ?_)
        obtain ⟨hPt, hTt, hFt⟩ := ht9
        refine w_il dX7_set_47 rfl ?_
        refine w_iret dX7_set_48 rfl ?_
        rw [← hQ]
        exact ⟨_, rfl, by rw [r_set, if_pos ⟨h5, (by rw [if_neg (nI_ne (by omega) (by decide) h10)]; exact h24)⟩, nv_nI (by omega)], by rw [n_set, if_pos ⟨h5, (by rw [if_neg (nI_ne (by omega) (by decide) h10)]; exact h24)⟩, nv_nI (by omega), nv_nI (by omega)]; exact ⟨hPt, CLd.sN (CLd.fr hC.2.1 (Fr.tr (Fr.sub hFa (by decide)) (Fr.sub hFt (by decide)) : Fr [10, 15] ρ ρt) (by decide)) (by omega), hTt⟩, (EqM.tr (EqM.tr EqM.rf (Fr.eqM hFa (by decide))) (Fr.eqM hFt (by decide)))⟩
      · --f
        refine w_k dX7_set_27 ?_
        refine w_iret dX7_set_29 rfl ?_
        rw [← hQ]
        exact ⟨_, rfl, by rw [r_set, if_neg (fun z => h24 (by have q := z.2; rw [if_neg (nI_ne (by omega) (by decide) h10)] at q; exact q))], by rw [n_set, if_neg (fun z => h24 (by have q := z.2; rw [if_neg (nI_ne (by omega) (by decide) h10)] at q; exact q))]; exact ⟨hC.1, hC.2.1, hC.2.2⟩, EqM.rf⟩
    · --f
      refine w_k dX7_set_13 ?_
      refine w_goto dX7_set_16 ?_
      refine w_cSf dX7_set_21 (sl_X7_61 _ rfl) (by decide) (c_X7_within ρ u (nI 999)) rfl rfl (Nat.le_of_ble_eq_true rfl) ?_
      refine w_ifneB dX7_set_24 (fun h24 => ?_) (fun h24 => ?_)
      · --t
        obtain ⟨z, hz, rfl⟩ := inR_nI h24 (by decide)
        refine w_al dX7_set_30 rfl ?_
        refine w_gr dX7_set_31 fl_X7_19 sh0 rfl ?_
        refine w_il dX7_set_34 rfl ?_
        refine w_il dX7_set_35 rfl ?_
        refine w_cVr dX7_set_36 (vl_X7_143 _ rfl) sh10 (by decide) (c_X1_change ρ σ y z hC.1 (by omega) (by split <;> omega)) rfl rfl (Nat.le_of_ble_eq_true rfl) (fun va ρa ha9 => ?_)
        obtain ⟨rfl, hPa, hFa⟩ := ha9
        refine w_is (ls2 := [some (.ref 0), some (.int (nI y)), some (.int (nI z)), some (.int (nI (σ.1 57 y)))]) dX7_set_39 rfl ?_
        refine w_al dX7_set_40 rfl ?_
        refine w_gr dX7_set_41 fl_X7_19 sh0 rfl ?_
        refine w_cVu dX7_set_44 (vl_X7_110 _ rfl) sh10 (by decide) (c_X1_reckonTurns ρa (sN σ 57 y z) hPa) rfl rfl (Nat.le_of_ble_eq_true rfl) (fun ρt ht9 => ?_)
        obtain ⟨hPt, hTt, hFt⟩ := ht9
        refine w_il dX7_set_47 rfl ?_
        refine w_iret dX7_set_48 rfl ?_
        rw [← hQ]
        exact ⟨_, rfl, by rw [r_set, if_pos ⟨h5, (by rw [if_pos (by rw [h10])]; exact h24)⟩, nv_nI (by omega)], by rw [n_set, if_pos ⟨h5, (by rw [if_pos (by rw [h10])]; exact h24)⟩, nv_nI (by omega), nv_nI (by omega)]; exact ⟨hPt, CLd.sN (CLd.fr hC.2.1 (Fr.tr (Fr.sub hFa (by decide)) (Fr.sub hFt (by decide)) : Fr [10, 15] ρ ρt) (by decide)) (by omega), hTt⟩, (EqM.tr (EqM.tr EqM.rf (Fr.eqM hFa (by decide))) (Fr.eqM hFt (by decide)))⟩
      · --f
        refine w_k dX7_set_27 ?_
        refine w_iret dX7_set_29 rfl ?_
        rw [← hQ]
        exact ⟨_, rfl, by rw [r_set, if_neg (fun z => h24 (by have q := z.2; rw [if_pos (by rw [h10])] at q; exact q))], by rw [n_set, if_neg (fun z => h24 (by have q := z.2; rw [if_pos (by rw [h10])] at q; exact q))]; exact ⟨hC.1, hC.2.1, hC.2.2⟩, EqM.rf⟩

set_option maxHeartbeats 4000000 in
theorem c_X8_set (ρ : Rho) (σ : Sg) (p : Int32) (u : Int32) (hM : MInv σ ρ) : CallOK 1 mX8_set [.ref 47, .int p, .int u] ρ (fun r ρ2 => ∃ v, r = some v ∧ (v = .int (r_set σ p u) ∧ MInv (n_set σ p u) ρ2 ∧ EqC ρ ρ2)) := by
  refine callOK_of 1 (by decide +kernel) rfl (fun _ => Nat.le_of_ble_eq_true rfl) (ls := [some (.ref 47), some (.int p), some (.int u), none]) rfl ?_
  generalize hQ : (fun r ρ2 => ∃ v, r = some v ∧ (v = .int (r_set σ p u) ∧ MInv (n_set σ p u) ρ2 ∧ EqC ρ ρ2) : Option Value → Rho → Prop) = Q
  refine w_il dX8_set_0 rfl ?_
  refine w_k dX8_set_1 ?_
  refine w_k dX8_set_2 ?_
  refine w_cSf dX8_set_3 (sl_X8_89 _ rfl) (by decide) (c_X8_in ρ p (nI 0) (nI 2)) rfl rfl (Nat.le_of_ble_eq_true rfl) ?_
  refine w_ifeqB dX8_set_6 (fun h6 => ?_) (fun h6 => ?_)
  · --t
    refine w_k dX8_set_29 ?_
    refine w_iret dX8_set_31 rfl ?_
    rw [← hQ]
    exact ⟨_, rfl, by rw [r_set, if_neg (fun z => h6 z.1)], by rw [n_set, if_neg (fun z => h6 z.1)]; exact hM, EqC.rf⟩
  · --f
    obtain ⟨y, hy, rfl⟩ := inR_nI h6 (by decide)
    refine w_il dX8_set_9 rfl ?_
    refine w_k dX8_set_10 ?_
    refine w_il dX8_set_11 rfl ?_
    refine w_ifneN dX8_set_12 (by omega) (fun h12 => ?_) (fun h12 => ?_)
    · --t
      refine w_k dX8_set_21 ?_
      refine w_cSf dX8_set_23 (sl_X8_89 _ rfl) (by decide) (c_X8_in ρ u (nI 0) (nI 7)) rfl rfl (Nat.le_of_ble_eq_true rfl) ?_
      refine w_ifneB dX8_set_26 (fun h26 => ?_) (fun h26 => ?_)
      · --t
        obtain ⟨z, hz, rfl⟩ := inR_nI h26 (by decide)
        refine w_al dX8_set_32 rfl ?_
        refine w_gr dX8_set_33 fl_X8_37 sh47 rfl ?_
        refine w_il dX8_set_36 rfl ?_
        refine w_ialdV (v := (nI (σ.1 57 y))) dX8_set_37 sh57 (by omega) (hM.2.1 57 (by decide) _) ?_
        refine w_is (ls2 := [some (.ref 47), some (.int (nI y)), some (.int (nI z)), some (.int (nI (σ.1 57 y)))]) dX8_set_38 rfl ?_
        refine w_al dX8_set_39 rfl ?_
        refine w_gr dX8_set_40 fl_X8_37 sh47 rfl ?_
        refine w_il dX8_set_43 rfl ?_
        refine w_il dX8_set_44 rfl ?_
        refine w_iastN dX8_set_45 sh57 (by omega) ?_
        refine w_il dX8_set_46 rfl ?_
        refine w_iret dX8_set_47 rfl ?_
        rw [← hQ]
        exact ⟨_, rfl, by rw [r_set, if_pos ⟨h6, (by rw [if_neg (nI_ne (by omega) (by decide) h12)]; exact h26)⟩, nv_nI (by omega)], by rw [n_set, if_pos ⟨h6, (by rw [if_neg (nI_ne (by omega) (by decide) h12)]; exact h26)⟩, nv_nI (by omega), nv_nI (by omega)]; exact MInv.wN hM (by decide) (Wf.sN hM.1 (by simp [okN] <;> omega)), (EqC.w EqC.rf (by decide))⟩
      · --f
        refine w_k dX8_set_29 ?_
        refine w_iret dX8_set_31 rfl ?_
        rw [← hQ]
        exact ⟨_, rfl, by rw [r_set, if_neg (fun z => h26 (by have q := z.2; rw [if_neg (nI_ne (by omega) (by decide) h12)] at q; exact q))], by rw [n_set, if_neg (fun z => h26 (by have q := z.2; rw [if_neg (nI_ne (by omega) (by decide) h12)] at q; exact q))]; exact hM, EqC.rf⟩
    · --f
      refine w_k dX8_set_15 ?_
      refine w_goto dX8_set_18 ?_
      refine w_cSf dX8_set_23 (sl_X8_89 _ rfl) (by decide) (c_X8_in ρ u (nI 0) (nI 999)) rfl rfl (Nat.le_of_ble_eq_true rfl) ?_
      refine w_ifneB dX8_set_26 (fun h26 => ?_) (fun h26 => ?_)
      · --t
        obtain ⟨z, hz, rfl⟩ := inR_nI h26 (by decide)
        refine w_al dX8_set_32 rfl ?_
        refine w_gr dX8_set_33 fl_X8_37 sh47 rfl ?_
        refine w_il dX8_set_36 rfl ?_
        refine w_ialdV (v := (nI (σ.1 57 y))) dX8_set_37 sh57 (by omega) (hM.2.1 57 (by decide) _) ?_
        refine w_is (ls2 := [some (.ref 47), some (.int (nI y)), some (.int (nI z)), some (.int (nI (σ.1 57 y)))]) dX8_set_38 rfl ?_
        refine w_al dX8_set_39 rfl ?_
        refine w_gr dX8_set_40 fl_X8_37 sh47 rfl ?_
        refine w_il dX8_set_43 rfl ?_
        refine w_il dX8_set_44 rfl ?_
        refine w_iastN dX8_set_45 sh57 (by omega) ?_
        refine w_il dX8_set_46 rfl ?_
        refine w_iret dX8_set_47 rfl ?_
        rw [← hQ]
        exact ⟨_, rfl, by rw [r_set, if_pos ⟨h6, (by rw [if_pos (by rw [h12])]; exact h26)⟩, nv_nI (by omega)], by rw [n_set, if_pos ⟨h6, (by rw [if_pos (by rw [h12])]; exact h26)⟩, nv_nI (by omega), nv_nI (by omega)]; exact MInv.wN hM (by decide) (Wf.sN hM.1 (by simp [okN] <;> omega)), (EqC.w EqC.rf (by decide))⟩
      · --f
        refine w_k dX8_set_29 ?_
        refine w_iret dX8_set_31 rfl ?_
        rw [← hQ]
        exact ⟨_, rfl, by rw [r_set, if_neg (fun z => h26 (by have q := z.2; rw [if_pos (by rw [h12])] at q; exact q))], by rw [n_set, if_neg (fun z => h26 (by have q := z.2; rw [if_pos (by rw [h12])] at q; exact q))]; exact hM, EqC.rf⟩
