/-! SWAP -/
abbrev wcP (J : Nat → Nat → Nat) (τ : Sg) (a b : Nat) : Prop := J a (τ.1 63 a) ≤ J a (τ.1 63 b) ∧ J b (τ.1 63 b) ≤ J b (τ.1 63 a) ∧ J a (τ.1 63 a) + J b (τ.1 63 b) < J a (τ.1 63 b) + J b (τ.1 63 a)
def wcB (J : Nat → Nat → Nat) (τ : Sg) (a b : Nat) : Bool := decide (wcP J τ a b)
def fpB (J : Nat → Nat → Nat) (τ : Sg) (a : Nat) : Nat := fi (wcB J τ a) (7 - a) (a + 1)
def fpA (J : Nat → Nat → Nat) (τ : Sg) : Nat := fi (fun a => decide (fpB J τ a < 8)) 8 0
def swS (τ : Sg) (a b : Nat) : Sg := sN (sN τ 63 a (τ.1 63 b)) 63 b (τ.1 63 a)
def swT (J : Nat → Nat → Nat) (τ : Sg) : Sg := if fpA J τ < 8 then swS τ (fpA J τ) (fpB J τ (fpA J τ)) else τ
def swI (J : Nat → Nat → Nat) : Nat → Sg → Nat × Sg
  | 0, τ => (0, τ)
  | n + 1, τ => if fpA J τ < 8 then ((swI J n (swT J τ)).1 + 1, (swI J n (swT J τ)).2) else (0, τ)
theorem swI_y {J : Nat → Nat → Nat} {τ : Sg} {n : Nat} (h : fpA J τ < 8) (hn : 0 < n) : swI J n τ = ((swI J (n - 1) (swT J τ)).1 + 1, (swI J (n - 1) (swT J τ)).2) := by
  cases n with
  | zero => omega
  | succ n => rw [swI, if_pos h]; rfl
theorem swI_n {J : Nat → Nat → Nat} {τ : Sg} {n : Nat} (h : ¬ fpA J τ < 8) : swI J n τ = (0, τ) := by
  cases n with
  | zero => rfl
  | succ n => rw [swI, if_neg h]
theorem swT_y {J : Nat → Nat → Nat} {τ : Sg} {a b : Nat} (ha : fpA J τ = a) (hb : fpB J τ a = b) (h8 : a < 8) : swT J τ = swS τ a b := by
  rw [swT, ha, if_pos h8, hb]
theorem swT_n {J : Nat → Nat → Nat} {τ : Sg} (h : ¬ fpA J τ < 8) : swT J τ = τ := if_neg h
theorem sub_n {x y : Nat} (h : nI x - nI y < 0) (hx : x ≤ 900) (hy : y ≤ 900) : x < y := Decidable.byContradiction fun c => by
  rw [pk_sub (by omega)] at h
  exact absurd h (nI_pos (by omega))
theorem sub_y {x y : Nat} (h : ¬ nI x - nI y < 0) (hx : x ≤ 900) (hy : y ≤ 900) : y ≤ x := Decidable.byContradiction fun c => h (pk_sneg (by omega) (by omega))
theorem sum1 {f g : Nat → Nat} {a : Nat} : ∀ n, a < n → (∀ i, i ≠ a → g i = f i) → sumN g n + f a = sumN f n + g a
  | 0, h, _ => absurd h (Nat.not_lt_zero _)
  | n + 1, h, e => by
    simp only [sumN]
    by_cases c : a = n
    · subst c
      rw [sumN_congr a (fun i hi => e i (by omega))]
      omega
    · have := sum1 n (by omega) e
      rw [e n (fun q => c q.symm)]
      omega
def phi (J : Nat → Nat → Nat) (τ : Sg) : Nat := sumN (fun t => J t (τ.1 63 t)) 8
theorem phi_le {J : Nat → Nat → Nat} (hJ : ∀ t q, J t q ≤ 900) (τ : Sg) : phi J τ ≤ 8 * 900 := sumN_le 8 (fun _ _ => hJ _ _)
theorem sw_63 {τ : Sg} {a b i : Nat} : (swS τ a b).1 63 i = if i = b then τ.1 63 a else if i = a then τ.1 63 b else τ.1 63 i := by
  show (if 63 = 63 ∧ i = b then τ.1 63 a else if 63 = 63 ∧ i = a then τ.1 63 b else τ.1 63 i) = _
  simp only [true_and]
theorem phi_up {J : Nat → Nat → Nat} {τ : Sg} {a b : Nat} (ha : a < 8) (hb : b < 8) (hab : a ≠ b) (h : wcP J τ a b) : phi J τ < phi J (swS τ a b) := by
  unfold phi
  have e1 := sum1 (f := fun t => J t (τ.1 63 t)) (g := fun t => if t = a then J a (τ.1 63 b) else J t (τ.1 63 t)) (a := a) 8 ha (fun i hi => if_neg hi)
  have e2 := sum1 (f := fun t => if t = a then J a (τ.1 63 b) else J t (τ.1 63 t)) (g := fun t => J t ((swS τ a b).1 63 t)) (a := b) 8 hb (fun i hi => by
    rw [sw_63, if_neg hi]
    by_cases c : i = a
    · subst c; rw [if_pos rfl, if_pos rfl]
    · rw [if_neg c, if_neg c])
  rw [if_pos rfl] at e1
  rw [if_neg (fun q => hab q.symm), sw_63, if_pos rfl] at e2
  have h3 := h.2.2
  omega
theorem fp_in {J : Nat → Nat → Nat} {τ : Sg} {a b : Nat} : wcB J τ a b = true → wcP J τ a b := of_decide_eq_true
theorem Wf.swS {τ : Sg} (h : Wf τ) (a b : Nat) : Wf (Jvm.Pilot.@@N@@.swS τ a b) := Wf.sN (Wf.sN h (by have := h.lives b; simp [okN] <;> omega)) (by have := h.lives a; simp [okN] <;> omega)
def r_swap (σ : Sg) (f t : Int32) : Int32 := if spn f t then nI (swI (fun u q => jyN σ u q (nv f) (nv t + 1 - nv f)) 7200 σ).1 else -2
def n_swap (σ : Sg) (f t : Int32) : Sg := if spn f t then (swI (fun u q => jyN σ u q (nv f) (nv t + 1 - nv f)) 7200 σ).2 else σ
/-- states that differ in where TENANTS live only -/
def Lv (σ τ : Sg) : Prop := (∀ k, k ≠ 63 → τ.1 k = σ.1 k) ∧ τ.2 = σ.2
theorem Lv.rf {σ : Sg} : Lv σ σ := ⟨fun _ _ => rfl, rfl⟩
theorem Lv.sw {σ τ : Sg} (h : Lv σ τ) (a b : Nat) : Lv σ (swS τ a b) := ⟨fun k hk => by
  rw [← h.1 k hk]; funext i
  show (if k = 63 ∧ i = b then _ else if k = 63 ∧ i = a then _ else τ.1 k i) = _
  rw [if_neg (fun q => hk q.1), if_neg (fun q => hk q.1)], h.2⟩
theorem Lv.swT {σ τ : Sg} (h : Lv σ τ) (J : Nat → Nat → Nat) : Lv σ (Jvm.Pilot.@@N@@.swT J τ) := by
  unfold Jvm.Pilot.@@N@@.swT
  split
  · exact h.sw _ _
  · exact h
theorem CLd.lv {σ τ : Sg} {ρ : Rho} (h : CLd σ ρ) (l : Lv σ τ) : CLd τ ρ := h.same (by rw [l.1 47 (by decide)]) (l.1 48 (by decide)) (fun _ _ => rfl) rfl rfl
theorem CTn.lv {σ τ : Sg} {ρ : Rho} (h : CTn σ ρ) (l : Lv σ τ) : CTn τ ρ := fun d hd => by
  rw [Tn_congr (τ := τ) (σ := σ) (by rw [l.1 47 (by decide)]) (l.1 53 (by decide)) (l.1 54 (by decide)) (l.1 55 (by decide)) (l.1 57 (by decide)) (by rw [l.2])]
  exact h d hd
set_option maxHeartbeats 4000000 in
theorem c_X5_wouldChange (ρ : Rho) (τ : Sg) (J : Nat → Nat → Nat) (a b : Nat) (hP : CP τ ρ) (hJ : ∀ t q, t < 8 → q < 8 → ρ.1 29 (t * 8 + q) = nI (J t q)) (hb9 : ∀ t q, J t q ≤ 900) (ha : a < 8) (hb : b < 8) : CallOK 0 mX5_wouldChange [.ref 26, .int (nI a), .int (nI b)] ρ (fun r ρ2 => r = some (.int (b2i (wcP J τ a b))) ∧ ρ2 = ρ) := by
  refine callOK_of 2 (by decide +kernel) rfl (fun _ => Nat.le_of_ble_eq_true rfl) (ls := [some (.ref 26), some (.int (nI a)), some (.int (nI b)), none, none]) rfl ?_
  generalize hQ : (fun r ρ2 => r = some (.int (b2i (wcP J τ a b))) ∧ ρ2 = ρ : Option Value → Rho → Prop) = Q
  have w1 := hP.1.lives a
  have w2 := hP.1.lives b
  have j1 := hb9 a (τ.1 63 a)
  have j2 := hb9 a (τ.1 63 b)
  have j3 := hb9 b (τ.1 63 a)
  have j4 := hb9 b (τ.1 63 b)
  refine w_al dX5_wouldChange_0 rfl ?_
  refine w_gr dX5_wouldChange_1 fl_X5_18 sh26 rfl ?_
  refine w_il dX5_wouldChange_4 rfl ?_
  refine w_k dX5_wouldChange_5 ?_
  refine w_imulN dX5_wouldChange_7 ?_
  refine w_al dX5_wouldChange_8 rfl ?_
  refine w_gr dX5_wouldChange_9 fl_X5_9 sh26 rfl ?_
  refine w_il dX5_wouldChange_12 rfl ?_
  refine w_ialdV (v := (nI (τ.1 63 b))) dX5_wouldChange_13 sh27 (by omega) (hP.2.1 (27, 63) (by decide) _) ?_
  refine w_iaddN dX5_wouldChange_14 ?_
  refine w_ialdV (v := (nI (J a (τ.1 63 b)))) dX5_wouldChange_15 sh29 (by omega) (hJ _ _ (by omega) (by omega)) ?_
  refine w_al dX5_wouldChange_16 rfl ?_
  refine w_gr dX5_wouldChange_17 fl_X5_18 sh26 rfl ?_
  refine w_il dX5_wouldChange_20 rfl ?_
  refine w_k dX5_wouldChange_21 ?_
  refine w_imulN dX5_wouldChange_23 ?_
  refine w_al dX5_wouldChange_24 rfl ?_
  refine w_gr dX5_wouldChange_25 fl_X5_9 sh26 rfl ?_
  refine w_il dX5_wouldChange_28 rfl ?_
  refine w_ialdV (v := (nI (τ.1 63 a))) dX5_wouldChange_29 sh27 (by omega) (hP.2.1 (27, 63) (by decide) _) ?_
  refine w_iaddN dX5_wouldChange_30 ?_
  refine w_ialdV (v := (nI (J a (τ.1 63 a)))) dX5_wouldChange_31 sh29 (by omega) (hJ _ _ (by omega) (by omega)) ?_
  refine w_isub dX5_wouldChange_32 ?_
  refine w_is (ls2 := [some (.ref 26), some (.int (nI a)), some (.int (nI b)), some (.int ((nI (J a (τ.1 63 b))) - (nI (J a (τ.1 63 a))))), none]) dX5_wouldChange_33 rfl ?_
  refine w_al dX5_wouldChange_34 rfl ?_
  refine w_gr dX5_wouldChange_35 fl_X5_18 sh26 rfl ?_
  refine w_il dX5_wouldChange_38 rfl ?_
  refine w_k dX5_wouldChange_39 ?_
  refine w_imulN dX5_wouldChange_41 ?_
  refine w_al dX5_wouldChange_42 rfl ?_
  refine w_gr dX5_wouldChange_43 fl_X5_9 sh26 rfl ?_
  refine w_il dX5_wouldChange_46 rfl ?_
  refine w_ialdV (v := (nI (τ.1 63 a))) dX5_wouldChange_47 sh27 (by omega) (hP.2.1 (27, 63) (by decide) _) ?_
  refine w_iaddN dX5_wouldChange_48 ?_
  refine w_ialdV (v := (nI (J b (τ.1 63 a)))) dX5_wouldChange_49 sh29 (by omega) (hJ _ _ (by omega) (by omega)) ?_
  refine w_al dX5_wouldChange_50 rfl ?_
  refine w_gr dX5_wouldChange_51 fl_X5_18 sh26 rfl ?_
  refine w_il dX5_wouldChange_54 rfl ?_
  refine w_k dX5_wouldChange_55 ?_
  refine w_imulN dX5_wouldChange_57 ?_
  refine w_al dX5_wouldChange_58 rfl ?_
  refine w_gr dX5_wouldChange_59 fl_X5_9 sh26 rfl ?_
  refine w_il dX5_wouldChange_62 rfl ?_
  refine w_ialdV (v := (nI (τ.1 63 b))) dX5_wouldChange_63 sh27 (by omega) (hP.2.1 (27, 63) (by decide) _) ?_
  refine w_iaddN dX5_wouldChange_64 ?_
  refine w_ialdV (v := (nI (J b (τ.1 63 b)))) dX5_wouldChange_65 sh29 (by omega) (hJ _ _ (by omega) (by omega)) ?_
  refine w_isub dX5_wouldChange_66 ?_
  refine w_is (ls2 := [some (.ref 26), some (.int (nI a)), some (.int (nI b)), some (.int ((nI (J a (τ.1 63 b))) - (nI (J a (τ.1 63 a))))), some (.int ((nI (J b (τ.1 63 a))) - (nI (J b (τ.1 63 b)))))]) dX5_wouldChange_67 rfl ?_
  refine w_il dX5_wouldChange_69 rfl ?_
  refine w_iflt dX5_wouldChange_70 (fun h70 => ?_) (fun h70 => ?_)
  · --t
    refine w_k dX5_wouldChange_89 ?_
    refine w_zret dX5_wouldChange_90 rfl rfl ?_
    rw [← hQ]
    exact ⟨congrArg (fun z => some (Value.int z)) (b2i_f (fun q => absurd q.1 (Nat.not_le.mpr (sub_n h70 (by omega) (by omega))))).symm, rfl⟩
  · --f
    have g70 := sub_y h70 (by omega) (by omega)
    rw [pk_sub g70]
    refine w_il dX5_wouldChange_73 rfl ?_
    refine w_iflt dX5_wouldChange_75 (fun h75 => ?_) (fun h75 => ?_)
    · --t
      refine w_k dX5_wouldChange_89 ?_
      refine w_zret dX5_wouldChange_90 rfl rfl ?_
      rw [← hQ]
      exact ⟨congrArg (fun z => some (Value.int z)) (b2i_f (fun q => absurd q.2.1 (Nat.not_le.mpr (sub_n h75 (by omega) (by omega))))).symm, rfl⟩
    · --f
      have g75 := sub_y h75 (by omega) (by omega)
      rw [pk_sub g75]
      refine w_il dX5_wouldChange_78 rfl ?_
      refine w_il dX5_wouldChange_79 rfl ?_
      refine w_iaddN dX5_wouldChange_81 ?_
      refine w_ifleN dX5_wouldChange_82 (by omega) (fun h82 => ?_) (fun h82 => ?_)
      · --t
        refine w_k dX5_wouldChange_89 ?_
        refine w_zret dX5_wouldChange_90 rfl rfl ?_
        rw [← hQ]
        exact ⟨congrArg (fun z => some (Value.int z)) (b2i_f (fun q => absurd q.2.2 (by omega))).symm, rfl⟩
      · --f
        refine w_k dX5_wouldChange_85 ?_
        refine w_goto dX5_wouldChange_86 ?_
        refine w_zret dX5_wouldChange_90 rfl rfl ?_
        rw [← hQ]
        exact ⟨congrArg (fun z => some (Value.int z)) (b2i_t ⟨g70, g75, by omega⟩).symm, rfl⟩

set_option maxHeartbeats 4000000 in
theorem c_X5_changeFirstPair (ρ : Rho) (τ : Sg) (J : Nat → Nat → Nat) (hP : CP τ ρ) (hJ : ∀ t q, t < 8 → q < 8 → ρ.1 29 (t * 8 + q) = nI (J t q)) (hb9 : ∀ t q, J t q ≤ 900) : CallOK 1 mX5_changeFirstPair [.ref 26] ρ (fun r ρ2 => ∃ v, r = some v ∧ (v = .int (b2i (fpA J τ < 8)) ∧ CP (swT J τ) ρ2 ∧ Fr [27] ρ ρ2)) := by
  refine callOK_of 3 (by decide +kernel) rfl (fun _ => Nat.le_of_ble_eq_true rfl) (ls := [some (.ref 26), none, none, none]) rfl ?_
  generalize hQ : (fun r ρ2 => ∃ v, r = some v ∧ (v = .int (b2i (fpA J τ < 8)) ∧ CP (swT J τ) ρ2 ∧ Fr [27] ρ ρ2) : Option Value → Rho → Prop) = Q
  refine w_k dX5_changeFirstPair_0 ?_
  refine w_is (ls2 := [some (.ref 26), some (.int (nI 0)), none, none]) dX5_changeFirstPair_1 rfl ?_
  have L2 : ∀ (n2 : Nat) (a : Nat), (a ≤ 8) → (fi (fun a => decide (fpB J τ a < 8)) (8 - a) a = fpA J τ) → (8 - a) < n2 → MW mX5_changeFirstPair 1 2 [some (.ref 26), some (.int (nI a)), none, none] [] ρ Q := by
    intro n2
    induction n2 with
    | zero =>
      intro a ha hA hm2
      exact absurd hm2 (Nat.not_lt_zero _)
    | succ n2 ih2 =>
      intro a ha hA hm2
      refine w_il dX5_changeFirstPair_2 rfl ?_
      refine w_k dX5_changeFirstPair_3 ?_
      refine w_icgeN dX5_changeFirstPair_5 (by omega) (by omega) (fun h5 => ?_) (fun h5 => ?_)
      · --t
        refine w_k dX5_changeFirstPair_67 ?_
        refine w_zret dX5_changeFirstPair_68 rfl rfl ?_
        rw [← hQ]
        have e : ¬ fpA J τ < 8 := by rw [← hA, show 8 - a = 0 by omega]; show ¬ a < 8; omega
        exact ⟨_, rfl, congrArg Value.int (b2i_f e).symm, by rw [swT_n e]; exact hP, Fr.rf⟩
      · --f
        refine w_il dX5_changeFirstPair_8 rfl ?_
        refine w_k dX5_changeFirstPair_9 ?_
        refine w_iaddN dX5_changeFirstPair_10 ?_
        refine w_is (ls2 := [some (.ref 26), some (.int (nI a)), some (.int (nI (a + 1))), none]) dX5_changeFirstPair_11 rfl ?_
        have L12 : ∀ (n12 : Nat) (b : Nat), (b ≤ 8) → (a < b) → (fi (wcB J τ a) (8 - b) b = fpB J τ a) → (8 - b) < n12 → MW mX5_changeFirstPair 1 12 [some (.ref 26), some (.int (nI a)), some (.int (nI b)), none] [] ρ Q := by
          intro n12
          induction n12 with
          | zero =>
            intro b hb hab hB hm12
            exact absurd hm12 (Nat.not_lt_zero _)
          | succ n12 ih12 =>
            intro b hb hab hB hm12
            refine w_il dX5_changeFirstPair_12 rfl ?_
            refine w_k dX5_changeFirstPair_13 ?_
            refine w_icgeN dX5_changeFirstPair_15 (by omega) (by omega) (fun h15 => ?_) (fun h15 => ?_)
            · --t
              refine w_iincN (ls2 := [some (.ref 26), some (.int (nI (a + 1))), some (.int (nI b)), none]) dX5_changeFirstPair_61 rfl rfl ?_
              refine w_goto dX5_changeFirstPair_64 ?_
              refine w_weak (ls2 := [some (.ref 26), some (.int (nI (a + 1))), none, none]) ⟨rfl, ⟨rfl, trivial⟩⟩ ?_
              exact ih2 (a + 1) (by omega) (by rw [← hA, fi_n (i := a) (by omega) (decide_eq_false (by rw [← hB, show 8 - b = 0 by omega]; show ¬ b < 8; omega))]; rfl) (by omega)
            · --f
              refine w_al dX5_changeFirstPair_18 rfl ?_
              refine w_il dX5_changeFirstPair_19 rfl ?_
              refine w_il dX5_changeFirstPair_20 rfl ?_
              refine w_cVf dX5_changeFirstPair_21 (vl_X5_40 _ rfl) sh26 (by decide) (c_X5_wouldChange ρ τ J a b hP hJ hb9 (by omega) (by omega)) rfl rfl (Nat.le_of_ble_eq_true rfl) ?_
              refine w_ifeqB dX5_changeFirstPair_24 (fun h24 => ?_) (fun h24 => ?_)
              · --t
                refine w_iincN (ls2 := [some (.ref 26), some (.int (nI a)), some (.int (nI (b + 1))), none]) dX5_changeFirstPair_55 rfl rfl ?_
                refine w_goto dX5_changeFirstPair_58 ?_
                exact ih12 (b + 1) (by omega) (by omega) (by rw [← hB, fi_n (i := b) (by omega) (decide_eq_false h24)]; rfl) (by omega)
              · --f
                refine w_al dX5_changeFirstPair_27 rfl ?_
                refine w_gr dX5_changeFirstPair_28 fl_X5_9 sh26 rfl ?_
                refine w_il dX5_changeFirstPair_31 rfl ?_
                refine w_ialdV (v := (nI (τ.1 63 a))) dX5_changeFirstPair_32 sh27 (by omega) (hP.2.1 (27, 63) (by decide) _) ?_
                refine w_is (ls2 := [some (.ref 26), some (.int (nI a)), some (.int (nI b)), some (.int (nI (τ.1 63 a)))]) dX5_changeFirstPair_33 rfl ?_
                refine w_al dX5_changeFirstPair_34 rfl ?_
                refine w_gr dX5_changeFirstPair_35 fl_X5_9 sh26 rfl ?_
                refine w_il dX5_changeFirstPair_38 rfl ?_
                refine w_al dX5_changeFirstPair_39 rfl ?_
                refine w_gr dX5_changeFirstPair_40 fl_X5_9 sh26 rfl ?_
                refine w_il dX5_changeFirstPair_43 rfl ?_
                refine w_ialdV (v := (nI (τ.1 63 b))) dX5_changeFirstPair_44 sh27 (by omega) (hP.2.1 (27, 63) (by decide) _) ?_
                refine w_iastN dX5_changeFirstPair_45 sh27 (by omega) ?_
                refine w_al dX5_changeFirstPair_46 rfl ?_
                refine w_gr dX5_changeFirstPair_47 fl_X5_9 sh26 rfl ?_
                refine w_il dX5_changeFirstPair_50 rfl ?_
                refine w_il dX5_changeFirstPair_51 rfl ?_
                refine w_iastN dX5_changeFirstPair_52 sh27 (by omega) ?_
                refine w_k dX5_changeFirstPair_53 ?_
                refine w_zret dX5_changeFirstPair_54 rfl rfl ?_
                rw [← hQ]
                have eB : fpB J τ a = b := by rw [← hB]; exact fi_y (by omega) (decide_eq_true h24)
                have eA : fpA J τ = a := by rw [← hA]; exact fi_y (by omega) (decide_eq_true (by omega))
                exact ⟨_, rfl, congrArg Value.int (b2i_t (by omega)).symm, by rw [swT_y eA eB (by omega)]; exact CP.wN (CP.wN hP (by decide) (Wf.sN hP.1 (by have := hP.1.lives b; simp [okN] <;> omega))) (by decide) (Wf.swS hP.1 a b), (Fr.only (Fr.only Fr.rf only_wI (by decide)) only_wI (by decide))⟩
        exact L12 _ (a + 1) (by omega) (by omega) (by rw [show 8 - (a + 1) = 7 - a by omega]; rfl) (Nat.lt_succ_self _)
  exact L2 _ 0 (by omega) (rfl) (Nat.lt_succ_self _)

set_option maxHeartbeats 4000000 in
theorem c_X5_changeUntil (ρ : Rho) (σ : Sg) (J : Nat → Nat → Nat) (hP : CP σ ρ) (hJ : ∀ t q, t < 8 → q < 8 → ρ.1 29 (t * 8 + q) = nI (J t q)) (hb9 : ∀ t q, J t q ≤ 900) : CallOK 2 mX5_changeUntilNobodyWould [.ref 26] ρ (fun r ρ2 => ∃ v, r = some v ∧ (v = .int (nI (swI J 7200 σ).1) ∧ CP (swI J 7200 σ).2 ρ2 ∧ Lv σ (swI J 7200 σ).2 ∧ Fr [27] ρ ρ2)) := by
  refine callOK_of 1 (by decide +kernel) rfl (fun _ => Nat.le_of_ble_eq_true rfl) (ls := [some (.ref 26), none]) rfl ?_
  generalize hQ : (fun r ρ2 => ∃ v, r = some v ∧ (v = .int (nI (swI J 7200 σ).1) ∧ CP (swI J 7200 σ).2 ρ2 ∧ Lv σ (swI J 7200 σ).2 ∧ Fr [27] ρ ρ2) : Option Value → Rho → Prop) = Q
  refine w_k dX5_changeUntilNobodyWould_0 ?_
  refine w_is (ls2 := [some (.ref 26), some (.int (nI 0))]) dX5_changeUntilNobodyWould_1 rfl ?_
  have L2 : ∀ (n2 : Nat) (c : Nat) (τ1 : Sg) (ρ1 : Rho), (c ≤ 7200) → (CP τ1 ρ1) → (Fr [27] ρ ρ1) → (Lv σ τ1) → ((c + (swI J (7200 - c) τ1).1, (swI J (7200 - c) τ1).2) = swI J 7200 σ) → (7200 - c) < n2 → MW mX5_changeUntilNobodyWould 2 2 [some (.ref 26), some (.int (nI c))] [] ρ1 Q := by
    intro n2
    induction n2 with
    | zero =>
      intro c τ1 ρ1 hc hP1 hF1 hV hS hm2
      exact absurd hm2 (Nat.not_lt_zero _)
    | succ n2 ih2 =>
      intro c τ1 ρ1 hc hP1 hF1 hV hS hm2
      refine w_il dX5_changeUntilNobodyWould_2 rfl ?_
      refine w_k dX5_changeUntilNobodyWould_3 ?_
      refine w_icgeN dX5_changeUntilNobodyWould_6 (by omega) (by omega) (fun h6 => ?_) (fun h6 => ?_)
      · --t
        refine w_il dX5_changeUntilNobodyWould_22 rfl ?_
        refine w_iret dX5_changeUntilNobodyWould_23 rfl ?_
        rw [← hQ]
        have e : swI J 7200 σ = (c, τ1) := by rw [← hS, show 7200 - c = 0 by omega]; rfl
        exact ⟨_, rfl, by rw [e], by rw [e]; exact hP1, by rw [e]; exact hV, hF1⟩
      · --f
        refine w_al dX5_changeUntilNobodyWould_9 rfl ?_
        refine w_cVr dX5_changeUntilNobodyWould_10 (vl_X5_36 _ rfl) sh26 (by decide) (c_X5_changeFirstPair ρ1 τ1 J hP1 (fun t q ht hq => by rw [(hF1 29 (by decide)).1]; exact hJ t q ht hq) hb9) rfl rfl (Nat.le_of_ble_eq_true rfl) (fun vc ρc hc9 => ?_)
        obtain ⟨rfl, hPc, hFc⟩ := hc9
        refine w_ifeqB dX5_changeUntilNobodyWould_13 (fun h13 => ?_) (fun h13 => ?_)
        · --t
          refine w_il dX5_changeUntilNobodyWould_22 rfl ?_
          refine w_iret dX5_changeUntilNobodyWould_23 rfl ?_
          rw [← hQ]
          have e : swI J 7200 σ = (c, τ1) := by rw [← hS, swI_n h13]; rfl
          rw [swT_n h13] at hPc
          exact ⟨_, rfl, by rw [e], by rw [e]; exact hPc, by rw [e]; exact hV, Fr.tr hF1 hFc⟩
        · --f
          refine w_iincN (ls2 := [some (.ref 26), some (.int (nI (c + 1)))]) dX5_changeUntilNobodyWould_16 rfl rfl ?_
          refine w_goto dX5_changeUntilNobodyWould_19 ?_
          exact ih2 (c + 1) _ ρc (by omega) (hPc) (Fr.tr hF1 hFc) (hV.swT J) (by rw [← hS, swI_y (n := 7200 - c) h13 (by omega), show 7200 - c - 1 = 7200 - (c + 1) by omega]; simp only [Prod.mk.injEq, and_true]; omega) (by omega)
  exact L2 _ 0 σ ρ (by omega) (hP) (Fr.rf) (Lv.rf) (by rw [Nat.zero_add]) (Nat.lt_succ_self _)

set_option maxHeartbeats 4000000 in
theorem c_X7_swap (ρ : Rho) (σ : Sg) (f : Int32) (t : Int32) (hC : CInv σ ρ) : CallOK 3 mX7_swap [.ref 0, .int f, .int t] ρ (fun r ρ2 => ∃ v, r = some v ∧ (v = .int (r_swap σ f t) ∧ CInv (n_swap σ f t) ρ2 ∧ EqM ρ ρ2)) := by
  refine callOK_of 0 (by decide +kernel) rfl (fun _ => Nat.le_of_ble_eq_true rfl) (ls := [some (.ref 0), some (.int f), some (.int t)]) rfl ?_
  generalize hQ : (fun r ρ2 => ∃ v, r = some v ∧ (v = .int (r_swap σ f t) ∧ CInv (n_swap σ f t) ρ2 ∧ EqM ρ ρ2) : Option Value → Rho → Prop) = Q
  refine w_il dX7_swap_0 rfl ?_
  refine w_il dX7_swap_1 rfl ?_
  refine w_cSf dX7_swap_2 (sl_X7_150 _ rfl) (by decide) (c_X7_isSpan ρ f t) rfl rfl (Nat.le_of_ble_eq_true rfl) ?_
  refine w_ifneB dX7_swap_5 (fun h5 => ?_) (fun h5 => ?_)
  · --t
    obtain ⟨a, b, hab, hb, rfl, rfl⟩ := spn_nI h5
    refine w_al dX7_swap_11 rfl ?_
    refine w_il dX7_swap_12 rfl ?_
    refine w_il dX7_swap_13 rfl ?_
    refine w_cVu dX7_swap_14 (vl_X7_225 _ rfl) sh0 (by decide) (c_X7_reckonJoys ρ σ a b hC (by omega) (by omega)) rfl rfl (Nat.le_of_ble_eq_true rfl) (fun ρj hj9 => ?_)
    obtain ⟨hFj, hJ⟩ := hj9
    refine w_al dX7_swap_17 rfl ?_
    refine w_gr dX7_swap_18 fl_X7_43 sh0 rfl ?_
    refine w_cVr dX7_swap_21 (vl_X7_228 _ rfl) sh26 (by decide) (c_X5_changeUntil ρj σ (fun u q => jyN σ u q a (b + 1 - a)) (CP.fr hC.1 hFj (by decide)) hJ (fun t q => jyN_b hC.1.1 t q a (b + 1 - a) (by omega))) rfl rfl (Nat.le_of_ble_eq_true rfl) (fun vu ρu hu9 => ?_)
    obtain ⟨rfl, hPu, hVu, hFu⟩ := hu9
    refine w_iret dX7_swap_24 rfl ?_
    rw [← hQ]
    exact ⟨_, rfl, by rw [r_swap, if_pos h5, nv_nI (a := a) (by omega), nv_nI (a := b) (by omega)], by rw [n_swap, if_pos h5, nv_nI (a := a) (by omega), nv_nI (a := b) (by omega)]; exact ⟨hPu, CLd.lv (CLd.fr (CLd.fr hC.2.1 hFj (by decide)) hFu (by decide)) hVu, CTn.lv (CTn.fr (CTn.fr hC.2.2 hFj (by decide)) hFu (by decide)) hVu⟩, (EqM.tr (Fr.eqM hFj (by decide)) (Fr.eqM hFu (by decide)))⟩
  · --f
    refine w_k dX7_swap_8 ?_
    refine w_iret dX7_swap_10 rfl ?_
    rw [← hQ]
    exact ⟨_, rfl, by rw [r_swap, if_neg (fun z => h5 z)], by rw [n_swap, if_neg (fun z => h5 z)]; exact ⟨hC.1, hC.2.1, hC.2.2⟩, EqM.rf⟩

set_option maxHeartbeats 4000000 in
theorem c_X8_swap (ρ : Rho) (σ : Sg) (f : Int32) (t : Int32) (hM : MInv σ ρ) : CallOK 6 mX8_swap [.ref 47, .int f, .int t] ρ (fun r ρ2 => ∃ v, r = some v ∧ (v = .int (r_swap σ f t) ∧ MInv (n_swap σ f t) ρ2 ∧ EqC ρ ρ2)) := by
  refine callOK_of 7 (by decide +kernel) rfl (fun _ => Nat.le_of_ble_eq_true rfl) (ls := [some (.ref 47), some (.int f), some (.int t), none, none, none, none, none, none, none]) rfl ?_
  generalize hQ : (fun r ρ2 => ∃ v, r = some v ∧ (v = .int (r_swap σ f t) ∧ MInv (n_swap σ f t) ρ2 ∧ EqC ρ ρ2) : Option Value → Rho → Prop) = Q
  refine w_il dX8_swap_0 rfl ?_
  refine w_il dX8_swap_1 rfl ?_
  refine w_cSf dX8_swap_2 (sl_X8_166 _ rfl) (by decide) (c_X8_isSpan ρ f t) rfl rfl (Nat.le_of_ble_eq_true rfl) ?_
  refine w_ifneB dX8_swap_5 (fun h5 => ?_) (fun h5 => ?_)
  · --t
    obtain ⟨a, b, hab, hb, rfl, rfl⟩ := spn_nI h5
    refine w_al dX8_swap_11 rfl ?_
    refine w_il dX8_swap_12 rfl ?_
    refine w_il dX8_swap_13 rfl ?_
    refine w_cVu dX8_swap_14 (vl_X8_210 _ rfl) sh47 (by decide) (c_X8_laysJoy ρ σ a b hM (by omega) (by omega)) rfl rfl (Nat.le_of_ble_eq_true rfl) (fun ρq hq9 => ?_)
    obtain ⟨hMq, hEq, hDq, hJ⟩ := hq9
    refine w_k dX8_swap_17 ?_
    refine w_is (ls2 := [some (.ref 47), some (.int (nI a)), some (.int (nI b)), some (.int (nI 0)), none, none, none, none, none, none]) dX8_swap_18 rfl ?_
    refine w_k dX8_swap_19 ?_
    refine w_is (ls2 := [some (.ref 47), some (.int (nI a)), some (.int (nI b)), some (.int (nI 0)), some (.int (nI 1)), none, none, none, none, none]) dX8_swap_20 rfl ?_
    have L22 : ∀ (n22 : Nat) (c : Nat) (τ1 : Sg) (ρ1 : Rho), (c ≤ 7200) → (MInv τ1 ρ1) → (EqC ρ ρ1) → (HJ 64 σ a (b + 1 - a) ρ1) → (c ≤ phi (fun u q => jyN σ u q a (b + 1 - a)) τ1) → ((c + (swI (fun u q => jyN σ u q a (b + 1 - a)) (7200 - c) τ1).1, (swI (fun u q => jyN σ u q a (b + 1 - a)) (7200 - c) τ1).2) = swI (fun u q => jyN σ u q a (b + 1 - a)) 7200 σ) → (7201 - c) < n22 → MW mX8_swap 6 22 [some (.ref 47), some (.int (nI a)), some (.int (nI b)), some (.int (nI c)), some (.int (nI 1)), none, none, none, none, none] [] ρ1 Q := by
      intro n22
      induction n22 with
      | zero =>
        intro c τ1 ρ1 hc hM1 hE1 hJ1 hph hS hm22
        exact absurd hm22 (Nat.not_lt_zero _)
      | succ n22 ih22 =>
        intro c τ1 ρ1 hc hM1 hE1 hJ1 hph hS hm22
        have wph := phi_le (J := (fun u q => jyN σ u q a (b + 1 - a))) (fun t q => jyN_b hM.1 t q a (b + 1 - a) (by omega)) τ1
        refine w_il dX8_swap_22 rfl ?_
        refine w_ifeqN dX8_swap_24 (by decide) (fun h => absurd h (by decide)) (fun _ => ?_)
        refine w_k dX8_swap_27 ?_
        refine w_is (ls2 := [some (.ref 47), some (.int (nI a)), some (.int (nI b)), some (.int (nI c)), some (.int (nI 0)), none, none, none, none, none]) dX8_swap_28 rfl ?_
        refine w_k dX8_swap_30 ?_
        refine w_is (ls2 := [some (.ref 47), some (.int (nI a)), some (.int (nI b)), some (.int (nI c)), some (.int (nI 0)), some (.int (nI 0)), none, none, none, none]) dX8_swap_31 rfl ?_
        have L33 : ∀ (n33 : Nat) (x : Nat), (x ≤ 8) → (fi (fun u => decide (fpB (fun u q => jyN σ u q a (b + 1 - a)) τ1 u < 8)) (8 - x) x = fpA (fun u q => jyN σ u q a (b + 1 - a)) τ1) → (8 - x) < n33 → MW mX8_swap 6 33 [some (.ref 47), some (.int (nI a)), some (.int (nI b)), some (.int (nI c)), some (.int (nI 0)), some (.int (nI x)), none, none, none, none] [] ρ1 Q := by
          intro n33
          induction n33 with
          | zero =>
            intro x hx hA hm33
            exact absurd hm33 (Nat.not_lt_zero _)
          | succ n33 ih33 =>
            intro x hx hA hm33
            refine w_il dX8_swap_33 rfl ?_
            refine w_k dX8_swap_35 ?_
            refine w_icgeN dX8_swap_37 (by omega) (by omega) (fun h37 => ?_) (fun h37 => ?_)
            · --t
              refine w_goto dX8_swap_209 ?_
              refine w_il dX8_swap_22 rfl ?_
              refine w_ifeqN dX8_swap_24 (by decide) (fun _ => ?_) (fun h => absurd h (by decide))
              refine w_il dX8_swap_212 rfl ?_
              have e8 : ¬ fpA (fun u q => jyN σ u q a (b + 1 - a)) τ1 < 8 := by rw [← hA, show 8 - x = 0 by omega]; show ¬ x < 8; omega
              have e : swI (fun u q => jyN σ u q a (b + 1 - a)) 7200 σ = (c, τ1) := by rw [← hS, swI_n e8]; rfl
              refine w_iret dX8_swap_213 rfl ?_
              rw [← hQ]
              exact ⟨_, rfl, by rw [r_swap, if_pos h5, nv_nI (a := a) (by omega), nv_nI (a := b) (by omega), e], by rw [n_swap, if_pos h5, nv_nI (a := a) (by omega), nv_nI (a := b) (by omega), e]; exact hM1, hE1⟩
            · --f
              refine w_il dX8_swap_40 rfl ?_
              refine w_ifneN dX8_swap_42 (by decide) (fun h => absurd h (by decide)) (fun _ => ?_)
              refine w_il dX8_swap_45 rfl ?_
              refine w_k dX8_swap_47 ?_
              refine w_iaddN dX8_swap_48 ?_
              refine w_is (ls2 := [some (.ref 47), some (.int (nI a)), some (.int (nI b)), some (.int (nI c)), some (.int (nI 0)), some (.int (nI x)), some (.int (nI (x + 1))), none, none, none]) dX8_swap_49 rfl ?_
              have L51 : ∀ (n51 : Nat) (y : Nat), (y ≤ 8) → (x < y) → (fi (wcB (fun u q => jyN σ u q a (b + 1 - a)) τ1 x) (8 - y) y = fpB (fun u q => jyN σ u q a (b + 1 - a)) τ1 x) → (8 - y) < n51 → MW mX8_swap 6 51 [some (.ref 47), some (.int (nI a)), some (.int (nI b)), some (.int (nI c)), some (.int (nI 0)), some (.int (nI x)), some (.int (nI y)), none, none, none] [] ρ1 Q := by
                intro n51
                induction n51 with
                | zero =>
                  intro y hy hxy hB hm51
                  exact absurd hm51 (Nat.not_lt_zero _)
                | succ n51 ih51 =>
                  intro y hy hxy hB hm51
                  have w1 := hM1.1.lives x
                  have w2 := hM1.1.lives y
                  have jb := fun t q => jyN_b hM.1 t q a (b + 1 - a) (by omega)
                  have j1 := jb x (τ1.1 63 x)
                  have j2 := jb x (τ1.1 63 y)
                  have j3 := jb y (τ1.1 63 x)
                  have j4 := jb y (τ1.1 63 y)
                  refine w_il dX8_swap_51 rfl ?_
                  refine w_k dX8_swap_53 ?_
                  refine w_icgeN dX8_swap_55 (by omega) (by omega) (fun h55 => ?_) (fun h55 => ?_)
                  · --t
                    refine w_iincN (ls2 := [some (.ref 47), some (.int (nI a)), some (.int (nI b)), some (.int (nI c)), some (.int (nI 0)), some (.int (nI (x + 1))), some (.int (nI y)), none, none, none]) dX8_swap_203 rfl rfl ?_
                    refine w_goto dX8_swap_206 ?_
                    refine w_weak (ls2 := [some (.ref 47), some (.int (nI a)), some (.int (nI b)), some (.int (nI c)), some (.int (nI 0)), some (.int (nI (x + 1))), none, none, none, none]) ⟨rfl, ⟨rfl, ⟨rfl, ⟨rfl, ⟨rfl, ⟨rfl, trivial⟩⟩⟩⟩⟩⟩ ?_
                    exact ih33 (x + 1) (by omega) (by rw [← hA, fi_n (i := x) (by omega) (decide_eq_false (by rw [← hB, show 8 - y = 0 by omega]; show ¬ y < 8; omega))]; rfl) (by omega)
                  · --f
                    refine w_il dX8_swap_58 rfl ?_
                    refine w_ifneN dX8_swap_60 (by decide) (fun h => absurd h (by decide)) (fun _ => ?_)
                    refine w_al dX8_swap_63 rfl ?_
                    refine w_gr dX8_swap_64 fl_X8_59 sh47 rfl ?_
                    refine w_k dX8_swap_67 ?_
                    refine w_il dX8_swap_69 rfl ?_
                    refine w_imulN dX8_swap_71 ?_
                    refine w_al dX8_swap_72 rfl ?_
                    refine w_gr dX8_swap_73 fl_X8_56 sh47 rfl ?_
                    refine w_il dX8_swap_76 rfl ?_
                    refine w_ialdV (v := (nI (τ1.1 63 y))) dX8_swap_78 sh63 (by omega) (hM1.2.1 63 (by decide) _) ?_
                    refine w_iaddN dX8_swap_79 ?_
                    refine w_ialdV (v := (nI (jyN σ x (τ1.1 63 y) a (b + 1 - a)))) dX8_swap_80 sh64 (by omega) (hJ1.at2 _ _ (by omega) (by omega)) ?_
                    refine w_al dX8_swap_81 rfl ?_
                    refine w_gr dX8_swap_82 fl_X8_59 sh47 rfl ?_
                    refine w_k dX8_swap_85 ?_
                    refine w_il dX8_swap_87 rfl ?_
                    refine w_imulN dX8_swap_89 ?_
                    refine w_al dX8_swap_90 rfl ?_
                    refine w_gr dX8_swap_91 fl_X8_56 sh47 rfl ?_
                    refine w_il dX8_swap_94 rfl ?_
                    refine w_ialdV (v := (nI (τ1.1 63 x))) dX8_swap_96 sh63 (by omega) (hM1.2.1 63 (by decide) _) ?_
                    refine w_iaddN dX8_swap_97 ?_
                    refine w_ialdV (v := (nI (jyN σ x (τ1.1 63 x) a (b + 1 - a)))) dX8_swap_98 sh64 (by omega) (hJ1.at2 _ _ (by omega) (by omega)) ?_
                    refine w_isub dX8_swap_99 ?_
                    refine w_is (ls2 := [some (.ref 47), some (.int (nI a)), some (.int (nI b)), some (.int (nI c)), some (.int (nI 0)), some (.int (nI x)), some (.int (nI y)), some (.int ((nI (jyN σ x (τ1.1 63 y) a (b + 1 - a))) - (nI (jyN σ x (τ1.1 63 x) a (b + 1 - a))))), none, none]) dX8_swap_100 rfl ?_
                    refine w_al dX8_swap_102 rfl ?_
                    refine w_gr dX8_swap_103 fl_X8_59 sh47 rfl ?_
                    refine w_k dX8_swap_106 ?_
                    refine w_il dX8_swap_108 rfl ?_
                    refine w_imulN dX8_swap_110 ?_
                    refine w_al dX8_swap_111 rfl ?_
                    refine w_gr dX8_swap_112 fl_X8_56 sh47 rfl ?_
                    refine w_il dX8_swap_115 rfl ?_
                    refine w_ialdV (v := (nI (τ1.1 63 x))) dX8_swap_117 sh63 (by omega) (hM1.2.1 63 (by decide) _) ?_
                    refine w_iaddN dX8_swap_118 ?_
                    refine w_ialdV (v := (nI (jyN σ y (τ1.1 63 x) a (b + 1 - a)))) dX8_swap_119 sh64 (by omega) (hJ1.at2 _ _ (by omega) (by omega)) ?_
                    refine w_al dX8_swap_120 rfl ?_
                    refine w_gr dX8_swap_121 fl_X8_59 sh47 rfl ?_
                    refine w_k dX8_swap_124 ?_
                    refine w_il dX8_swap_126 rfl ?_
                    refine w_imulN dX8_swap_128 ?_
                    refine w_al dX8_swap_129 rfl ?_
                    refine w_gr dX8_swap_130 fl_X8_56 sh47 rfl ?_
                    refine w_il dX8_swap_133 rfl ?_
                    refine w_ialdV (v := (nI (τ1.1 63 y))) dX8_swap_135 sh63 (by omega) (hM1.2.1 63 (by decide) _) ?_
                    refine w_iaddN dX8_swap_136 ?_
                    refine w_ialdV (v := (nI (jyN σ y (τ1.1 63 y) a (b + 1 - a)))) dX8_swap_137 sh64 (by omega) (hJ1.at2 _ _ (by omega) (by omega)) ?_
                    refine w_isub dX8_swap_138 ?_
                    refine w_is (ls2 := [some (.ref 47), some (.int (nI a)), some (.int (nI b)), some (.int (nI c)), some (.int (nI 0)), some (.int (nI x)), some (.int (nI y)), some (.int ((nI (jyN σ x (τ1.1 63 y) a (b + 1 - a))) - (nI (jyN σ x (τ1.1 63 x) a (b + 1 - a))))), some (.int ((nI (jyN σ y (τ1.1 63 x) a (b + 1 - a))) - (nI (jyN σ y (τ1.1 63 y) a (b + 1 - a))))), none]) dX8_swap_139 rfl ?_
                    refine w_il dX8_swap_141 rfl ?_
                    refine w_iflt dX8_swap_143 (fun h143 => ?_) (fun h143 => ?_)
                    · --t
                      refine w_iincN (ls2 := [some (.ref 47), some (.int (nI a)), some (.int (nI b)), some (.int (nI c)), some (.int (nI 0)), some (.int (nI x)), some (.int (nI (y + 1))), some (.int ((nI (jyN σ x (τ1.1 63 y) a (b + 1 - a))) - (nI (jyN σ x (τ1.1 63 x) a (b + 1 - a))))), some (.int ((nI (jyN σ y (τ1.1 63 x) a (b + 1 - a))) - (nI (jyN σ y (τ1.1 63 y) a (b + 1 - a))))), none]) dX8_swap_197 rfl rfl ?_
                      refine w_goto dX8_swap_200 ?_
                      refine w_weak (ls2 := [some (.ref 47), some (.int (nI a)), some (.int (nI b)), some (.int (nI c)), some (.int (nI 0)), some (.int (nI x)), some (.int (nI (y + 1))), none, none, none]) ⟨rfl, ⟨rfl, ⟨rfl, ⟨rfl, ⟨rfl, ⟨rfl, ⟨rfl, trivial⟩⟩⟩⟩⟩⟩⟩ ?_
                      exact ih51 (y + 1) (by omega) (by omega) (by rw [← hB, fi_n (i := y) (by omega) (decide_eq_false (fun q => absurd q.1 (Nat.not_le.mpr (sub_n h143 (by omega) (by omega)))))]; rfl) (by omega)
                    · --f
                      have g143 := sub_y h143 (by omega) (by omega)
                      rw [pk_sub g143]
                      refine w_il dX8_swap_146 rfl ?_
                      refine w_iflt dX8_swap_148 (fun h148 => ?_) (fun h148 => ?_)
                      · --t
                        refine w_iincN (ls2 := [some (.ref 47), some (.int (nI a)), some (.int (nI b)), some (.int (nI c)), some (.int (nI 0)), some (.int (nI x)), some (.int (nI (y + 1))), some (.int (nI (jyN σ x (τ1.1 63 y) a (b + 1 - a) - jyN σ x (τ1.1 63 x) a (b + 1 - a)))), some (.int ((nI (jyN σ y (τ1.1 63 x) a (b + 1 - a))) - (nI (jyN σ y (τ1.1 63 y) a (b + 1 - a))))), none]) dX8_swap_197 rfl rfl ?_
                        refine w_goto dX8_swap_200 ?_
                        refine w_weak (ls2 := [some (.ref 47), some (.int (nI a)), some (.int (nI b)), some (.int (nI c)), some (.int (nI 0)), some (.int (nI x)), some (.int (nI (y + 1))), none, none, none]) ⟨rfl, ⟨rfl, ⟨rfl, ⟨rfl, ⟨rfl, ⟨rfl, ⟨rfl, trivial⟩⟩⟩⟩⟩⟩⟩ ?_
                        exact ih51 (y + 1) (by omega) (by omega) (by rw [← hB, fi_n (i := y) (by omega) (decide_eq_false (fun q => absurd q.2.1 (Nat.not_le.mpr (sub_n h148 (by omega) (by omega)))))]; rfl) (by omega)
                      · --f
                        have g148 := sub_y h148 (by omega) (by omega)
                        rw [pk_sub g148]
                        refine w_il dX8_swap_151 rfl ?_
                        refine w_il dX8_swap_153 rfl ?_
                        refine w_iaddN dX8_swap_155 ?_
                        refine w_ifleN dX8_swap_156 (by omega) (fun h156 => ?_) (fun h156 => ?_)
                        · --t
                          refine w_iincN (ls2 := [some (.ref 47), some (.int (nI a)), some (.int (nI b)), some (.int (nI c)), some (.int (nI 0)), some (.int (nI x)), some (.int (nI (y + 1))), some (.int (nI (jyN σ x (τ1.1 63 y) a (b + 1 - a) - jyN σ x (τ1.1 63 x) a (b + 1 - a)))), some (.int (nI (jyN σ y (τ1.1 63 x) a (b + 1 - a) - jyN σ y (τ1.1 63 y) a (b + 1 - a)))), none]) dX8_swap_197 rfl rfl ?_
                          refine w_goto dX8_swap_200 ?_
                          refine w_weak (ls2 := [some (.ref 47), some (.int (nI a)), some (.int (nI b)), some (.int (nI c)), some (.int (nI 0)), some (.int (nI x)), some (.int (nI (y + 1))), none, none, none]) ⟨rfl, ⟨rfl, ⟨rfl, ⟨rfl, ⟨rfl, ⟨rfl, ⟨rfl, trivial⟩⟩⟩⟩⟩⟩⟩ ?_
                          exact ih51 (y + 1) (by omega) (by omega) (by rw [← hB, fi_n (i := y) (by omega) (decide_eq_false (fun q => by have q2 : jyN σ x (τ1.1 63 x) a (b + 1 - a) + jyN σ y (τ1.1 63 y) a (b + 1 - a) < jyN σ x (τ1.1 63 y) a (b + 1 - a) + jyN σ y (τ1.1 63 x) a (b + 1 - a) := q.2.2; omega))]; rfl) (by omega)
                        · --f
                          have hw : wcP (fun u q => jyN σ u q a (b + 1 - a)) τ1 x y := ⟨g143, g148, by dsimp only; omega⟩
                          have eB : fpB (fun u q => jyN σ u q a (b + 1 - a)) τ1 x = y := by rw [← hB]; exact fi_y (by omega) (decide_eq_true hw)
                          have eA : fpA (fun u q => jyN σ u q a (b + 1 - a)) τ1 = x := by rw [← hA]; exact fi_y (by omega) (decide_eq_true (by omega))
                          have wup := phi_up (J := (fun u q => jyN σ u q a (b + 1 - a))) (τ := τ1) (a := x) (b := y) (by omega) (by omega) (by omega) hw
                          have wph2 := phi_le (J := (fun u q => jyN σ u q a (b + 1 - a))) (fun t q => jyN_b hM.1 t q a (b + 1 - a) (by omega)) (swS τ1 x y)
                          refine w_al dX8_swap_159 rfl ?_
                          refine w_gr dX8_swap_160 fl_X8_56 sh47 rfl ?_
                          refine w_il dX8_swap_163 rfl ?_
                          refine w_ialdV (v := (nI (τ1.1 63 x))) dX8_swap_165 sh63 (by omega) (hM1.2.1 63 (by decide) _) ?_
                          refine w_is (ls2 := [some (.ref 47), some (.int (nI a)), some (.int (nI b)), some (.int (nI c)), some (.int (nI 0)), some (.int (nI x)), some (.int (nI y)), some (.int (nI (jyN σ x (τ1.1 63 y) a (b + 1 - a) - jyN σ x (τ1.1 63 x) a (b + 1 - a)))), some (.int (nI (jyN σ y (τ1.1 63 x) a (b + 1 - a) - jyN σ y (τ1.1 63 y) a (b + 1 - a)))), some (.int (nI (τ1.1 63 x)))]) dX8_swap_166 rfl ?_
                          refine w_al dX8_swap_168 rfl ?_
                          refine w_gr dX8_swap_169 fl_X8_56 sh47 rfl ?_
                          refine w_il dX8_swap_172 rfl ?_
                          refine w_al dX8_swap_174 rfl ?_
                          refine w_gr dX8_swap_175 fl_X8_56 sh47 rfl ?_
                          refine w_il dX8_swap_178 rfl ?_
                          refine w_ialdV (v := (nI (τ1.1 63 y))) dX8_swap_180 sh63 (by omega) (hM1.2.1 63 (by decide) _) ?_
                          refine w_iastN dX8_swap_181 sh63 (by omega) ?_
                          refine w_al dX8_swap_182 rfl ?_
                          refine w_gr dX8_swap_183 fl_X8_56 sh47 rfl ?_
                          refine w_il dX8_swap_186 rfl ?_
                          refine w_il dX8_swap_188 rfl ?_
                          refine w_iastN dX8_swap_190 sh63 (by omega) ?_
                          refine w_iincN (ls2 := [some (.ref 47), some (.int (nI a)), some (.int (nI b)), some (.int (nI (c + 1))), some (.int (nI 0)), some (.int (nI x)), some (.int (nI y)), some (.int (nI (jyN σ x (τ1.1 63 y) a (b + 1 - a) - jyN σ x (τ1.1 63 x) a (b + 1 - a)))), some (.int (nI (jyN σ y (τ1.1 63 x) a (b + 1 - a) - jyN σ y (τ1.1 63 y) a (b + 1 - a)))), some (.int (nI (τ1.1 63 x)))]) dX8_swap_191 rfl rfl ?_
                          refine w_k dX8_swap_194 ?_
                          refine w_is (ls2 := [some (.ref 47), some (.int (nI a)), some (.int (nI b)), some (.int (nI (c + 1))), some (.int (nI 1)), some (.int (nI x)), some (.int (nI y)), some (.int (nI (jyN σ x (τ1.1 63 y) a (b + 1 - a) - jyN σ x (τ1.1 63 x) a (b + 1 - a)))), some (.int (nI (jyN σ y (τ1.1 63 x) a (b + 1 - a) - jyN σ y (τ1.1 63 y) a (b + 1 - a)))), some (.int (nI (τ1.1 63 x)))]) dX8_swap_195 rfl ?_
                          refine w_iincN (ls2 := [some (.ref 47), some (.int (nI a)), some (.int (nI b)), some (.int (nI (c + 1))), some (.int (nI 1)), some (.int (nI x)), some (.int (nI (y + 1))), some (.int (nI (jyN σ x (τ1.1 63 y) a (b + 1 - a) - jyN σ x (τ1.1 63 x) a (b + 1 - a)))), some (.int (nI (jyN σ y (τ1.1 63 x) a (b + 1 - a) - jyN σ y (τ1.1 63 y) a (b + 1 - a)))), some (.int (nI (τ1.1 63 x)))]) dX8_swap_197 rfl rfl ?_
                          refine w_goto dX8_swap_200 ?_
                          refine w_il dX8_swap_51 rfl ?_
                          refine w_k dX8_swap_53 ?_
                          refine w_icgeN dX8_swap_55 (by omega) (by omega) (fun h55 => ?_) (fun h55 => ?_)
                          · --t
                            refine w_iincN (ls2 := [some (.ref 47), some (.int (nI a)), some (.int (nI b)), some (.int (nI (c + 1))), some (.int (nI 1)), some (.int (nI (x + 1))), some (.int (nI (y + 1))), some (.int (nI (jyN σ x (τ1.1 63 y) a (b + 1 - a) - jyN σ x (τ1.1 63 x) a (b + 1 - a)))), some (.int (nI (jyN σ y (τ1.1 63 x) a (b + 1 - a) - jyN σ y (τ1.1 63 y) a (b + 1 - a)))), some (.int (nI (τ1.1 63 x)))]) dX8_swap_203 rfl rfl ?_
                            refine w_goto dX8_swap_206 ?_
                            refine w_il dX8_swap_33 rfl ?_
                            refine w_k dX8_swap_35 ?_
                            refine w_icgeN dX8_swap_37 (by omega) (by omega) (fun h37 => ?_) (fun h37 => ?_)
                            · --t
                              refine w_goto dX8_swap_209 ?_
                              refine w_weak (ls2 := [some (.ref 47), some (.int (nI a)), some (.int (nI b)), some (.int (nI (c + 1))), some (.int (nI 1)), none, none, none, none, none]) ⟨rfl, ⟨rfl, ⟨rfl, ⟨rfl, ⟨rfl, trivial⟩⟩⟩⟩⟩ ?_
                              exact ih22 (c + 1) (swS τ1 x y) (wI (wI ρ1 63 x (nI (τ1.1 63 y))) 63 y (nI (τ1.1 63 x))) (by omega) (MInv.wN (MInv.wN hM1 (by decide) (Wf.sN hM1.1 (by have := hM1.1.lives y; simp [okN] <;> omega))) (by decide) (Wf.swS hM1.1 x y)) ((EqC.w (EqC.w hE1 (by decide)) (by decide))) (HJ.fr (HJ.fr hJ1 (Only.fr only_wI) (by decide)) (Only.fr only_wI) (by decide)) (by omega) (by rw [← hS, swI_y (n := 7200 - c) (by omega : fpA (fun u q => jyN σ u q a (b + 1 - a)) τ1 < 8) (by omega), swT_y eA eB (by omega), show 7200 - c - 1 = 7200 - (c + 1) by omega]; simp only [Prod.mk.injEq, and_true]; omega) (by omega)
                            · --f
                              refine w_il dX8_swap_40 rfl ?_
                              refine w_ifneN dX8_swap_42 (by decide) (fun _ => ?_) (fun h => absurd h (by decide))
                              refine w_goto dX8_swap_209 ?_
                              refine w_weak (ls2 := [some (.ref 47), some (.int (nI a)), some (.int (nI b)), some (.int (nI (c + 1))), some (.int (nI 1)), none, none, none, none, none]) ⟨rfl, ⟨rfl, ⟨rfl, ⟨rfl, ⟨rfl, trivial⟩⟩⟩⟩⟩ ?_
                              exact ih22 (c + 1) (swS τ1 x y) (wI (wI ρ1 63 x (nI (τ1.1 63 y))) 63 y (nI (τ1.1 63 x))) (by omega) (MInv.wN (MInv.wN hM1 (by decide) (Wf.sN hM1.1 (by have := hM1.1.lives y; simp [okN] <;> omega))) (by decide) (Wf.swS hM1.1 x y)) ((EqC.w (EqC.w hE1 (by decide)) (by decide))) (HJ.fr (HJ.fr hJ1 (Only.fr only_wI) (by decide)) (Only.fr only_wI) (by decide)) (by omega) (by rw [← hS, swI_y (n := 7200 - c) (by omega : fpA (fun u q => jyN σ u q a (b + 1 - a)) τ1 < 8) (by omega), swT_y eA eB (by omega), show 7200 - c - 1 = 7200 - (c + 1) by omega]; simp only [Prod.mk.injEq, and_true]; omega) (by omega)
                          · --f
                            refine w_il dX8_swap_58 rfl ?_
                            refine w_ifneN dX8_swap_60 (by decide) (fun _ => ?_) (fun h => absurd h (by decide))
                            refine w_iincN (ls2 := [some (.ref 47), some (.int (nI a)), some (.int (nI b)), some (.int (nI (c + 1))), some (.int (nI 1)), some (.int (nI (x + 1))), some (.int (nI (y + 1))), some (.int (nI (jyN σ x (τ1.1 63 y) a (b + 1 - a) - jyN σ x (τ1.1 63 x) a (b + 1 - a)))), some (.int (nI (jyN σ y (τ1.1 63 x) a (b + 1 - a) - jyN σ y (τ1.1 63 y) a (b + 1 - a)))), some (.int (nI (τ1.1 63 x)))]) dX8_swap_203 rfl rfl ?_
                            refine w_goto dX8_swap_206 ?_
                            refine w_il dX8_swap_33 rfl ?_
                            refine w_k dX8_swap_35 ?_
                            refine w_icgeN dX8_swap_37 (by omega) (by omega) (fun h37 => ?_) (fun h37 => ?_)
                            · --t
                              refine w_goto dX8_swap_209 ?_
                              refine w_weak (ls2 := [some (.ref 47), some (.int (nI a)), some (.int (nI b)), some (.int (nI (c + 1))), some (.int (nI 1)), none, none, none, none, none]) ⟨rfl, ⟨rfl, ⟨rfl, ⟨rfl, ⟨rfl, trivial⟩⟩⟩⟩⟩ ?_
                              exact ih22 (c + 1) (swS τ1 x y) (wI (wI ρ1 63 x (nI (τ1.1 63 y))) 63 y (nI (τ1.1 63 x))) (by omega) (MInv.wN (MInv.wN hM1 (by decide) (Wf.sN hM1.1 (by have := hM1.1.lives y; simp [okN] <;> omega))) (by decide) (Wf.swS hM1.1 x y)) ((EqC.w (EqC.w hE1 (by decide)) (by decide))) (HJ.fr (HJ.fr hJ1 (Only.fr only_wI) (by decide)) (Only.fr only_wI) (by decide)) (by omega) (by rw [← hS, swI_y (n := 7200 - c) (by omega : fpA (fun u q => jyN σ u q a (b + 1 - a)) τ1 < 8) (by omega), swT_y eA eB (by omega), show 7200 - c - 1 = 7200 - (c + 1) by omega]; simp only [Prod.mk.injEq, and_true]; omega) (by omega)
                            · --f
                              refine w_il dX8_swap_40 rfl ?_
                              refine w_ifneN dX8_swap_42 (by decide) (fun _ => ?_) (fun h => absurd h (by decide))
                              refine w_goto dX8_swap_209 ?_
                              refine w_weak (ls2 := [some (.ref 47), some (.int (nI a)), some (.int (nI b)), some (.int (nI (c + 1))), some (.int (nI 1)), none, none, none, none, none]) ⟨rfl, ⟨rfl, ⟨rfl, ⟨rfl, ⟨rfl, trivial⟩⟩⟩⟩⟩ ?_
                              exact ih22 (c + 1) (swS τ1 x y) (wI (wI ρ1 63 x (nI (τ1.1 63 y))) 63 y (nI (τ1.1 63 x))) (by omega) (MInv.wN (MInv.wN hM1 (by decide) (Wf.sN hM1.1 (by have := hM1.1.lives y; simp [okN] <;> omega))) (by decide) (Wf.swS hM1.1 x y)) ((EqC.w (EqC.w hE1 (by decide)) (by decide))) (HJ.fr (HJ.fr hJ1 (Only.fr only_wI) (by decide)) (Only.fr only_wI) (by decide)) (by omega) (by rw [← hS, swI_y (n := 7200 - c) (by omega : fpA (fun u q => jyN σ u q a (b + 1 - a)) τ1 < 8) (by omega), swT_y eA eB (by omega), show 7200 - c - 1 = 7200 - (c + 1) by omega]; simp only [Prod.mk.injEq, and_true]; omega) (by omega)
              exact L51 _ (x + 1) (by omega) (by omega) (by rw [show 8 - (x + 1) = 7 - x by omega]; rfl) (Nat.lt_succ_self _)
        exact L33 _ 0 (by omega) (rfl) (Nat.lt_succ_self _)
    exact L22 _ 0 σ ρq (by omega) (hMq) ((EqC.tr EqC.rf hEq)) (hJ) (Nat.zero_le _) (by rw [Nat.zero_add]) (Nat.lt_succ_self _)
  · --f
    refine w_k dX8_swap_8 ?_
    refine w_iret dX8_swap_10 rfl ?_
    rw [← hQ]
    exact ⟨_, rfl, by rw [r_swap, if_neg (fun z => h5 z)], by rw [n_swap, if_neg (fun z => h5 z)]; exact hM, EqC.rf⟩
