theorem CLd_ok {σ : Sg} {ρ : Rho} (h : (LPr σ).1 = -1) (hf : ρ.1 1 2 = (LPr σ).1) (hL : (∀ p, p < 8 → ρ.1 3 p = tOf (bA σ p)) ∧ (∀ p, p < 8 → ρ.1 4 p = nI ((LPr σ).2.1 p)) ∧ ρ.1 1 6 = nI (LPr σ).2.2.1 ∧ ∀ k, k < (LPr σ).2.2.1 → BrAt (LPr σ).2.2.2 ρ k) : CLd σ ρ := by
  have hF : Flt σ = -1 := h
  have hl := LL_ok (σ := σ) (ρ := (fun a b => if a = 49 then tOf (bA σ b) else if a = 50 then nI ((LPr σ).2.1 b) else if a = 47 then nI (LPr σ).2.2.1 else nI ((LPr σ).2.2.2 b), ρ.2)) h ⟨fun p _ => by simp, fun p _ => by simp, by simp, fun i _ => by simp⟩
  refine ⟨fun p hp => ?_, fun p hp => ?_, ?_, ?_, hf⟩
  · rw [hL.1 p hp]
    have := hl.1 p hp
    simpa using this
  · rw [hL.2.1 p hp]; unfold Cl; rw [if_pos hF]
  · rw [hL.2.2.1]; unfold NB; rw [if_pos hF]
  · intro k hk
    unfold NB at hk
    rw [if_pos hF] at hk
    exact hL.2.2.2 k hk
theorem CLd_bad {σ : Sg} {ρ : Rho} (h : ¬ (LPr σ).1 = -1) (hf : ρ.1 1 2 = (LPr σ).1) (h1 : ∀ p, p < 8 → ρ.1 3 p = nI 0) (h2 : ∀ p, p < 8 → ρ.1 4 p = nI 0) (h3 : ρ.1 1 6 = nI 0) : CLd σ ρ := by
  have hF : ¬ Flt σ = -1 := h
  refine ⟨fun p hp => ?_, fun p hp => ?_, ?_, ?_, hf⟩
  · rw [h1 p hp]; unfold Th; rw [if_neg hF]
  · rw [h2 p hp]; unfold Cl; rw [if_neg hF]
  · rw [h3]; unfold NB; rw [if_neg hF]
  · intro i hi
    unfold NB at hi
    rw [if_neg hF] at hi
    omega
/-! a write to the state's own cells, on both sides -/
theorem mN_in {q : Nat × Nat} (h : q ∈ cNs) : q = (2, 48) ∨ q = (5, 52) ∨ q = (11, 53) ∨ q = (12, 54) ∨ q = (13, 55) ∨ q = (27, 63) ∨ q = (28, 62) := by
  simpa [cNs] using h
theorem mZ_in {q : Nat × Nat} (h : q ∈ cZs) : q = (14, 56) ∨ q = (33, 66) := by simpa [cZs] using h
theorem mS_in {q : Nat × Nat × Nat × Nat} (h : q ∈ cSs) : q = (1, 1, 47, 0) ∨ q = (10, 0, 47, 7) ∨ q = (10, 5, 47, 12) ∨ q = (10, 6, 57, 0) ∨ q = (10, 7, 57, 1) ∨ q = (10, 8, 57, 2) ∨ q = (0, 8, 47, 29) := by simpa [cSs] using h
theorem sN_eq {σ : Sg} {k i v : Nat} : (sN σ k i v).1 k i = v := by simp [sN]
theorem sN_ne {σ : Sg} {k i v a b : Nat} (h : ¬ (a = k ∧ b = i)) : (sN σ k i v).1 a b = σ.1 a b := by simp [sN, h]
theorem sN_2 {σ : Sg} {k i v : Nat} : (sN σ k i v).2 = σ.2 := rfl
theorem sZ_1 {σ : Sg} {k i : Nat} {v : Int32} : (sZ σ k i v).1 = σ.1 := rfl
theorem sZ_eq {σ : Sg} {k i : Nat} {v : Int32} : (sZ σ k i v).2 k i = v := by simp [sZ]
theorem sZ_ne {σ : Sg} {k i a b : Nat} {v : Int32} (h : ¬ (a = k ∧ b = i)) : (sZ σ k i v).2 a b = σ.2 a b := by simp [sZ, h]
theorem CP.wN {σ : Sg} {ρ : Rho} {a b i v : Nat} (h : CP σ ρ) (hab : (a, b) ∈ cNs) (hw : Wf (sN σ b i v)) : CP (sN σ b i v) (wI ρ a i (nI v)) := by
  refine ⟨hw, fun q hq j => ?_, fun q hq j => ?_, fun q hq => ?_, fun t ht => ?_, ?_⟩
  · have := h.2.1 q hq j
    rcases mN_in hab with e | e | e | e | e | e | e <;> cases e <;> rcases mN_in hq with e | e | e | e | e | e | e <;> cases e <;> simp only [wI, sN] <;> split <;> simp_all
  · have := h.2.2.1 q hq j
    rw [wI_ne (by rcases mN_in hab with e | e | e | e | e | e | e <;> cases e <;> rcases mZ_in hq with e | e <;> cases e <;> decide)]
    exact this
  · have := h.2.2.2.1 q hq
    rw [wI_ne (by rcases mN_in hab with e | e | e | e | e | e | e <;> cases e <;> rcases mS_in hq with e | e | e | e | e | e | e <;> cases e <;> decide), sN_ne (by rcases mN_in hab with e | e | e | e | e | e | e <;> cases e <;> rcases mS_in hq with e | e | e | e | e | e | e <;> cases e <;> simp)]
    exact this
  · have ha : a < 39 ∧ b ≠ 68 ∧ b ≠ 69 ∧ b ≠ 70 := by rcases mN_in hab with e | e | e | e | e | e | e <;> cases e <;> decide
    rw [wI_ne (by omega), wI_ne (by omega), sN_ne (fun z => ha.2.1 z.1.symm), sN_ne (fun z => ha.2.2.1 z.1.symm), sN_ne (fun z => ha.2.2.2 z.1.symm)]
    exact h.2.2.2.2.1 t ht
  · have ha : a ≠ 35 := by rcases mN_in hab with e | e | e | e | e | e | e <;> cases e <;> decide
    exact ⟨by rw [wI_ne (fun z => ha z.symm)]; exact h.2.2.2.2.2.1, h.2.2.2.2.2.2⟩
theorem CP.wZ {σ : Sg} {ρ : Rho} {a b i : Nat} {v : Int32} (h : CP σ ρ) (hab : (a, b) ∈ cZs) (hw : Wf (sZ σ b i v)) : CP (sZ σ b i v) (wI ρ a i v) := by
  refine ⟨hw, fun q hq j => ?_, fun q hq j => ?_, fun q hq => ?_, fun t ht => ?_, ?_⟩
  · rw [wI_ne (by rcases mZ_in hab with e | e <;> cases e <;> rcases mN_in hq with e | e | e | e | e | e | e <;> cases e <;> decide)]
    exact h.2.1 q hq j
  · have := h.2.2.1 q hq j
    rcases mZ_in hab with e | e <;> cases e <;> rcases mZ_in hq with e | e <;> cases e <;> simp only [wI, sZ] <;> split <;> simp_all
  · rw [wI_ne (by rcases mZ_in hab with e | e <;> cases e <;> rcases mS_in hq with e | e | e | e | e | e | e <;> cases e <;> decide)]
    exact h.2.2.2.1 q hq
  · have ha : a < 39 ∧ b ≠ 71 := by rcases mZ_in hab with e | e <;> cases e <;> decide
    rw [wI_ne (by omega), wI_ne (by omega)]
    obtain ⟨h1, h2, h3, h4⟩ := h.2.2.2.2.1 t ht
    exact ⟨h1, h2, h3, fun i hi => by rw [h4 i hi, sZ_ne (fun z => ha.2 z.1.symm)]⟩
  · have ha : a ≠ 35 := by rcases mZ_in hab with e | e <;> cases e <;> decide
    exact ⟨by rw [wI_ne (fun z => ha z.symm)]; exact h.2.2.2.2.2.1, h.2.2.2.2.2.2⟩
theorem CP.wS {σ : Sg} {ρ : Rho} {a s b i v : Nat} (h : CP σ ρ) (hab : (a, s, b, i) ∈ cSs) (hw : Wf (sN σ b i v)) : CP (sN σ b i v) (wI ρ a s (nI v)) := by
  refine ⟨hw, fun q hq j => ?_, fun q hq j => ?_, fun q hq => ?_, fun t ht => ?_, ?_⟩
  · have := h.2.1 q hq j
    rw [wI_ne (by rcases mS_in hab with e | e | e | e | e | e | e <;> cases e <;> rcases mN_in hq with e | e | e | e | e | e | e <;> cases e <;> decide), sN_ne (by rcases mS_in hab with e | e | e | e | e | e | e <;> cases e <;> rcases mN_in hq with e | e | e | e | e | e | e <;> cases e <;> simp)]
    exact this
  · rw [wI_ne (by rcases mS_in hab with e | e | e | e | e | e | e <;> cases e <;> rcases mZ_in hq with e | e <;> cases e <;> decide)]
    exact h.2.2.1 q hq j
  · have := h.2.2.2.1 q hq
    rcases mS_in hab with e | e | e | e | e | e | e <;> cases e <;> rcases mS_in hq with e | e | e | e | e | e | e <;> cases e <;> simp_all [wI, sN]
  · have ha : a < 39 ∧ b ≠ 68 ∧ b ≠ 69 ∧ b ≠ 70 := by rcases mS_in hab with e | e | e | e | e | e | e <;> cases e <;> decide
    rw [wI_ne (by omega), wI_ne (by omega), sN_ne (fun z => ha.2.1 z.1.symm), sN_ne (fun z => ha.2.2.1 z.1.symm), sN_ne (fun z => ha.2.2.2 z.1.symm)]
    exact h.2.2.2.2.1 t ht
  · have ha : a ≠ 35 := by rcases mS_in hab with e | e | e | e | e | e | e <;> cases e <;> decide
    exact ⟨by rw [wI_ne (fun z => ha z.symm)]; exact h.2.2.2.2.2.1, h.2.2.2.2.2.2⟩
/-! the reference's -/
theorem MInv.wN {σ : Sg} {ρ : Rho} {k i v : Nat} (h : MInv σ ρ) (hk : k ∈ mNs) (hw : Wf (sN σ k i v)) : MInv (sN σ k i v) (wI ρ k i (nI v)) := by
  have hk47 : k ≠ 47 := by intro e; subst e; revert hk; decide
  have hkz : k ∉ mZs := by intro e; revert hk e; simp only [mNs, mZs, List.mem_cons, List.not_mem_nil, or_false]; omega
  refine ⟨hw, fun a ha b => ?_, fun a ha b => ?_, fun b hb => ?_⟩
  · have := h.2.1 a ha b
    simp only [wI, sN]
    split <;> simp_all
  · rw [wI_ne (a := a) (k := k) (fun e => hkz (e ▸ ha))]; exact h.2.2.1 a ha b
  · rw [wI_ne (Ne.symm hk47), sN_ne (fun e => hk47 e.1.symm)]; exact h.2.2.2 b hb
theorem MInv.wZ {σ : Sg} {ρ : Rho} {k i : Nat} {v : Int32} (h : MInv σ ρ) (hk : k ∈ mZs) (hw : Wf (sZ σ k i v)) : MInv (sZ σ k i v) (wI ρ k i v) := by
  have hk47 : k ≠ 47 := by intro e; subst e; revert hk; decide
  have hkz : k ∉ mNs := by intro e; revert hk e; simp only [mNs, mZs, List.mem_cons, List.not_mem_nil, or_false]; omega
  refine ⟨hw, fun a ha b => ?_, fun a ha b => ?_, fun b hb => ?_⟩
  · rw [wI_ne (a := a) (k := k) (fun e => hkz (e ▸ ha))]; exact h.2.1 a ha b
  · have := h.2.2.1 a ha b
    simp only [wI, sZ]
    split <;> simp_all
  · rw [wI_ne (Ne.symm hk47)]; exact h.2.2.2 b hb
theorem MInv.wS {σ : Sg} {ρ : Rho} {i v : Nat} (h : MInv σ ρ) (hi : i ∈ mSs) (hw : Wf (sN σ 47 i v)) : MInv (sN σ 47 i v) (wI ρ 47 i (nI v)) := by
  refine ⟨hw, fun a ha b => ?_, fun a ha b => ?_, fun b hb => ?_⟩
  · have ha47 : a ≠ 47 := by intro e; subst e; revert ha; decide
    rw [wI_ne ha47, sN_ne (fun e => ha47 e.1)]; exact h.2.1 a ha b
  · have ha47 : a ≠ 47 := by intro e; subst e; revert ha; decide
    rw [wI_ne ha47]; exact h.2.2.1 a ha b
  · have := h.2.2.2 b hb
    simp only [wI, sN]
    split <;> simp_all
/-! the state stays well formed -/
def okN (k i v : Nat) : Prop := (k = 48 → v < 256) ∧ (k = 52 → v ≤ 9) ∧ (k = 53 → v < 100) ∧ (k = 54 → v ≤ 1) ∧ (k = 55 → v ≤ 999) ∧ (k = 57 → (i = 0 → v ≤ 999) ∧ (i ≠ 0 → v ≤ 7)) ∧ (k = 62 → v ≤ 9) ∧ (k = 63 → v ≤ 7) ∧ (k = 68 → v ≤ 1) ∧ (k = 69 → v ≤ 2) ∧ (k = 70 → v ≤ 60) ∧ (k = 47 → (i = 0 → v ≤ 60) ∧ (i = 7 → v ≤ 60) ∧ (i = 12 → v ≤ 999) ∧ (i = 29 → v ≤ 5))
theorem sN_le {σ : Sg} {k i v a b c : Nat} (h : σ.1 a b ≤ c) (g : k = a → i = b → v ≤ c) : (sN σ k i v).1 a b ≤ c := by
  unfold sN
  dsimp only
  split
  · rename_i q; exact g q.1.symm q.2.symm
  · exact h
theorem Wf.sN {σ : Sg} {k i v : Nat} (h : Wf σ) (hk : okN k i v) : Wf (Jvm.Pilot.@@N@@.sN σ k i v) := by
  obtain ⟨k1, k2, k3, k4, k5, k6, k7, k8, k9, k10, k11, k12⟩ := hk
  refine ⟨sN_le h.typed fun e => (k12 e).1, sN_le h.gales fun e => (k12 e).2.1, sN_le h.last fun e => (k12 e).2.2.1, sN_le h.find fun e => (k12 e).2.2.2, fun j => Nat.lt_succ_of_le (sN_le (Nat.le_of_lt_succ (h.text j)) fun e _ => Nat.le_of_lt_succ (k1 e)), fun j => sN_le (h.suns j) fun e _ => k2 e, fun j => Nat.lt_succ_of_le (sN_le (Nat.le_of_lt_succ (h.day j)) fun e _ => Nat.le_of_lt_succ (k3 e)), fun j => sN_le (h.frm j) fun e _ => k4 e, fun j => sN_le (h.told j) fun e _ => k5 e, sN_le h.asof fun e q => (k6 e).1 q, sN_le h.wing fun e q => (k6 e).2 (by omega), sN_le h.begin fun e q => (k6 e).2 (by omega), fun j => sN_le (h.wish j) fun e _ => k7 e, fun j => sN_le (h.lives j) fun e _ => k8 e, fun j => sN_le (h.there j) fun e _ => k9 e, fun j => sN_le (h.form j) fun e _ => k10 e, fun j => sN_le (h.size j) fun e _ => k11 e, h.reap, h.back⟩
theorem Wf.sZ {σ : Sg} {k i : Nat} {v : Int32} (h : Wf σ) (h1 : k = 66 → v = -1 ∨ ∃ a, a ≤ 12 ∧ v = nI a) (h2 : k = 56 → v = -1 ∨ ∃ a, a ≤ 999 ∧ v = nI a) : Wf (Jvm.Pilot.@@N@@.sZ σ k i v) := by
  obtain ⟨g1, g2, g3, g4, g5, g6, g7, g8, g9, g10, g11, g12, g13, g14, g15, g16, g17, g18, g19⟩ := h
  refine ⟨g1, g2, g3, g4, g5, g6, g7, g8, g9, g10, g11, g12, g13, g14, g15, g16, g17, fun j => ?_, fun j => ?_⟩
  · show (if 66 = k ∧ j = i then v else σ.2 66 j) = -1 ∨ ∃ a, a ≤ 12 ∧ (if 66 = k ∧ j = i then v else σ.2 66 j) = nI a
    split
    · rename_i q; exact h1 q.1.symm
    · exact g18 j
  · show (if 56 = k ∧ j = i then v else σ.2 56 j) = -1 ∨ ∃ a, a ≤ 999 ∧ (if 56 = k ∧ j = i then v else σ.2 56 j) = nI a
    split
    · rename_i q; exact h2 q.1.symm
    · exact g19 j
set_option maxHeartbeats 4000000 in
theorem c_X3_interpret (ρ : Rho) (σ : Sg) (hC : CP σ ρ) : CallOK 4 mX3_interpret [.ref 1] ρ (fun r ρ2 => r = none ∧ (CP σ ρ2 ∧ CLd σ ρ2 ∧ Fr [1, 3, 4, 6, 7, 8, 9] ρ ρ2)) := by
  refine callOK_of 0 (by decide +kernel) rfl (fun _ => Nat.le_of_ble_eq_true rfl) (ls := [some (.ref 1)]) rfl ?_
  generalize hQ : (fun r ρ2 => r = none ∧ (CP σ ρ2 ∧ CLd σ ρ2 ∧ Fr [1, 3, 4, 6, 7, 8, 9] ρ ρ2) : Option Value → Rho → Prop) = Q
  refine w_al dX3_interpret_0 rfl ?_
  refine w_cVv dX3_interpret_1 (vl_X3_49 _ rfl) sh1 (by decide) (c_X3_forget ρ) rfl rfl (Nat.le_of_ble_eq_true rfl) ?_
  refine w_al dX3_interpret_4 rfl ?_
  refine w_al dX3_interpret_5 rfl ?_
  refine w_cVr dX3_interpret_6 (vl_X3_52 _ rfl) sh1 (by decide) (c_X3_takeSigns (wI (fillI (fillI ρ 3 8 (nI 0)) 4 8 (nI 0)) 1 6 (nI 0)) σ (CP.slot (CP.only (CP.only hC only_fillI (by decide)) only_fillI (by decide)) (by decide))) rfl rfl (Nat.le_of_ble_eq_true rfl) (fun vs1 ρs1 hs1 => ?_)
  obtain ⟨s1, rfl, hCs1, hFs1, hy1, hz1⟩ := hs1
  refine w_pi dX3_interpret_9 fp_X3_19 sh1 rfl rfl rfl ?_
  refine w_al dX3_interpret_12 rfl ?_
  refine w_giV (v := s1) dX3_interpret_13 fl_X3_19 sh1 rfl (rI_eq) ?_
  refine w_k dX3_interpret_16 ?_
  refine w_icne dX3_interpret_17 (fun h17 => ?_) (fun h17 => ?_)
  · --t
    refine w_al dX3_interpret_28 rfl ?_
    refine w_giV (v := s1) dX3_interpret_29 fl_X3_19 sh1 rfl (rI_eq) ?_
    refine w_k dX3_interpret_32 ?_
    refine w_iceq dX3_interpret_33 (fun h33 => ?_) (fun h33 => ?_)
    · --t
      refine w_ret dX3_interpret_40 rfl ?_
      exact absurd h33 h17
    · --f
      refine w_al dX3_interpret_36 rfl ?_
      refine w_cVv dX3_interpret_37 (vl_X3_49 _ rfl) sh1 (by decide) (c_X3_forget (wI ρs1 1 2 s1)) rfl rfl (Nat.le_of_ble_eq_true rfl) ?_
      refine w_ret dX3_interpret_40 rfl ?_
      rw [← hQ]
      exact ⟨rfl, (CP.slot (CP.only (CP.only (CP.slot hCs1 (by decide)) only_fillI (by decide)) only_fillI (by decide)) (by decide)), CLd_bad (fun e => h17 (by rw [hz1 h17]; exact e)) ((by rw [← hz1 h17]; exact rI_s (by decide) (rF_c (by decide) (rF_c (by decide) rI_eq)))) (fun q hq => rI_c (by decide) (rF_c (by decide) (fill_at hq))) (fun q hq => rI_c (by decide) (fill_at hq)) rI_eq, (Fr.only (Fr.only (Fr.only (Fr.only (Fr.tr (Fr.only (Fr.only (Fr.only Fr.rf only_fillI (by decide)) only_fillI (by decide)) only_wI (by decide)) (Fr.sub hFs1 (by decide))) only_wI (by decide)) only_fillI (by decide)) only_fillI (by decide)) only_wI (by decide))⟩
  · --f
    refine w_al dX3_interpret_20 rfl ?_
    refine w_al dX3_interpret_21 rfl ?_
    refine w_cVr dX3_interpret_22 (vl_X3_56 _ rfl) sh1 (by decide) (c_X3_takeParts (wI ρs1 1 2 s1) σ (CP.slot hCs1 (by decide)) (hy1 h17).1 (rI_s (by decide) (by rw [(hFs1 1 (by decide)).1]; exact rI_eq)) (keepA (f := fun _ => nI 0) (by decide) (fun q hq => (by rw [(hFs1 4 (by decide)).1]; exact rI_c (by decide) (fill_at hq) : _ = nI 0))) (keepA (f := fun q => tOf (bA σ q)) (by decide) (hy1 h17).2)) rfl rfl (Nat.le_of_ble_eq_true rfl) (fun vt2 ρt2 ht2 => ?_)
    obtain ⟨rfl, hCt2, hFt2, hLt2⟩ := ht2
    refine w_pi dX3_interpret_25 fp_X3_19 sh1 rfl rfl rfl ?_
    refine w_al dX3_interpret_28 rfl ?_
    refine w_giV (v := ((LPr σ).1)) dX3_interpret_29 fl_X3_19 sh1 rfl (rI_eq) ?_
    refine w_k dX3_interpret_32 ?_
    refine w_iceq dX3_interpret_33 (fun h33 => ?_) (fun h33 => ?_)
    · --t
      refine w_ret dX3_interpret_40 rfl ?_
      rw [← hQ]
      exact ⟨rfl, (CP.slot hCt2 (by decide)), CLd_ok h33 rI_eq ⟨keepA (f := fun q => tOf (bA σ q)) (by decide) (hLt2 h33).1, keepA (f := fun q => nI ((LPr σ).2.1 q)) (by decide) (hLt2 h33).2.1, rI_s (by decide) (hLt2 h33).2.2.1, fun k hk => BrAt.only ((hLt2 h33).2.2.2 k hk) only_wI (by decide)⟩, (Fr.only (Fr.tr (Fr.only (Fr.tr (Fr.only (Fr.only (Fr.only Fr.rf only_fillI (by decide)) only_fillI (by decide)) only_wI (by decide)) (Fr.sub hFs1 (by decide))) only_wI (by decide)) hFt2) only_wI (by decide))⟩
    · --f
      refine w_al dX3_interpret_36 rfl ?_
      refine w_cVv dX3_interpret_37 (vl_X3_49 _ rfl) sh1 (by decide) (c_X3_forget (wI ρt2 1 2 ((LPr σ).1))) rfl rfl (Nat.le_of_ble_eq_true rfl) ?_
      refine w_ret dX3_interpret_40 rfl ?_
      rw [← hQ]
      exact ⟨rfl, (CP.slot (CP.only (CP.only (CP.slot hCt2 (by decide)) only_fillI (by decide)) only_fillI (by decide)) (by decide)), CLd_bad (fun e => h33 e) (rI_s (by decide) (rF_c (by decide) (rF_c (by decide) rI_eq))) (fun q hq => rI_c (by decide) (rF_c (by decide) (fill_at hq))) (fun q hq => rI_c (by decide) (fill_at hq)) rI_eq, (Fr.only (Fr.only (Fr.only (Fr.only (Fr.tr (Fr.only (Fr.tr (Fr.only (Fr.only (Fr.only Fr.rf only_fillI (by decide)) only_fillI (by decide)) only_wI (by decide)) (Fr.sub hFs1 (by decide))) only_wI (by decide)) hFt2) only_wI (by decide)) only_fillI (by decide)) only_fillI (by decide)) only_wI (by decide))⟩
