/-- a bridge in the class's four rows -/
def BrAt (br : Nat → Nat) (ρ : Rho) (k : Nat) : Prop := ρ.1 6 k = nI (br (4 * k)) ∧ ρ.1 7 k = nI (br (4 * k + 1)) ∧ ρ.1 8 k = nI (br (4 * k + 2)) ∧ ρ.1 9 k = nI (br (4 * k + 3))
theorem BrAt.only {br : Nat → Nat} {ρ ρ2 : Rho} {k q : Nat} (h : BrAt br ρ k) (o : Only q ρ ρ2) (hq : q ∉ [6, 7, 8, 9]) : BrAt br ρ2 k := by
  have ne : ∀ a, a ∈ [6, 7, 8, 9] → ρ2.1 a = ρ.1 a := fun a ha => (o a (fun e => hq (e ▸ ha))).1
  unfold BrAt
  rw [ne 6 (by decide), ne 7 (by decide), ne 8 (by decide), ne 9 (by decide)]
  exact h
theorem BrAt_ext {ρ : Rho} {nb a b c d : Nat} {br : Nat → Nat} {v : Int32} (h : ∀ k, k < nb → BrAt br ρ k) : ∀ k, k < nb + 1 → BrAt (br4 br nb a b c d) (wI (wI (wI (wI (wI ρ 6 nb (nI a)) 7 nb (nI b)) 8 nb (nI c)) 9 nb (nI d)) 1 6 v) k := fun k hk => by
  by_cases e : k = nb
  · subst e
    refine ⟨?_, ?_, ?_, ?_⟩
    · rw [br4_0]; simp [wI]
    · rw [br4_1]; simp [wI]
    · rw [br4_2]; simp [wI]
    · rw [br4_3]; simp [wI]
  · obtain ⟨h1, h2, h3, h4⟩ := h k (by omega)
    refine ⟨?_, ?_, ?_, ?_⟩
    · rw [br4_lo (by omega)]; simpa [wI, e] using h1
    · rw [br4_lo (by omega)]; simpa [wI, e] using h2
    · rw [br4_lo (by omega)]; simpa [wI, e] using h3
    · rw [br4_lo (by omega)]; simpa [wI, e] using h4
set_option maxHeartbeats 4000000 in
theorem c_X3_takeSigns (ρ : Rho) (σ : Sg) (hC : CP σ ρ) : CallOK 1 mX3_takeSigns [.ref 1] ρ (fun r ρ2 => ∃ v, r = some v ∧ (∃ s : Int32, v = .int s ∧ CP σ ρ2 ∧ Fr [3] ρ ρ2 ∧ (s = -1 → PP σ 60 8 (fun _ => 0) 0 (fun _ => 0) = LPr σ ∧ ∀ q, q < 8 → ρ2.1 3 q = tOf (bA σ q)) ∧ (s ≠ -1 → s = (LPr σ).1))) := by
  refine callOK_of 2 (by decide +kernel) rfl (fun _ => Nat.le_of_ble_eq_true rfl) (ls := [some (.ref 1), none, none]) rfl ?_
  generalize hQ : (fun r ρ2 => ∃ v, r = some v ∧ (∃ s : Int32, v = .int s ∧ CP σ ρ2 ∧ Fr [3] ρ ρ2 ∧ (s = -1 → PP σ 60 8 (fun _ => 0) 0 (fun _ => 0) = LPr σ ∧ ∀ q, q < 8 → ρ2.1 3 q = tOf (bA σ q)) ∧ (s ≠ -1 → s = (LPr σ).1)) : Option Value → Rho → Prop) = Q
  refine w_k dX3_takeSigns_0 ?_
  refine w_is (ls2 := [some (.ref 1), some (.int (nI 0)), none]) dX3_takeSigns_1 rfl ?_
  have L2 : ∀ (n2 : Nat) (p : Nat) (ρ1 : Rho), (p ≤ 8) → (CP σ ρ1) → (Fr [3] ρ ρ1) → (∀ q, q < p → ρ1.1 3 q = tOf (bA σ q)) → (fsg σ (8 - p) p = fsg σ 8 0) → (8 - p) < n2 → MW mX3_takeSigns 1 2 [some (.ref 1), some (.int (nI p)), none] [] ρ1 Q := by
    intro n2
    induction n2 with
    | zero =>
      intro p ρ1 hp hC1 hF1 ht1 hs1 hm2
      exact absurd hm2 (Nat.not_lt_zero _)
    | succ n2 ih2 =>
      intro p ρ1 hp hC1 hF1 ht1 hs1 hm2
      refine w_il dX3_takeSigns_2 rfl ?_
      refine w_k dX3_takeSigns_3 ?_
      refine w_icgeN dX3_takeSigns_5 (by omega) (by omega) (fun h5 => ?_) (fun h5 => ?_)
      · --t
        refine w_k dX3_takeSigns_37 ?_
        refine w_iret dX3_takeSigns_38 rfl ?_
        rw [← hQ]
        exact ⟨_, rfl, _, rfl, hC1, hF1, fun _ => ⟨fsg_e (by omega) (by omega) hs1, fun q hq => ht1 q (by omega)⟩, fun h => absurd rfl h⟩
      · --f
        refine w_al dX3_takeSigns_8 rfl ?_
        refine w_il dX3_takeSigns_9 rfl ?_
        refine w_cVf dX3_takeSigns_10 (vl_X3_65 _ rfl) sh1 (by decide) (c_X3_signAt ρ1 σ p hC1 (by omega)) rfl rfl (Nat.le_of_ble_eq_true rfl) ?_
        refine w_cSf dX3_takeSigns_13 (sl_X3_69 _ rfl) (by decide) (c_X3_thingOf ρ1 (bA σ p)) rfl rfl (Nat.le_of_ble_eq_true rfl) ?_
        refine w_is (ls2 := [some (.ref 1), some (.int (nI p)), some (.int (tOf (bA σ p)))]) dX3_takeSigns_16 rfl ?_
        refine w_il dX3_takeSigns_17 rfl ?_
        refine w_k dX3_takeSigns_18 ?_
        refine w_icne dX3_takeSigns_19 (fun h19 => ?_) (fun h19 => ?_)
        · --t
          refine w_al dX3_takeSigns_24 rfl ?_
          refine w_gr dX3_takeSigns_25 fl_X3_22 sh1 rfl ?_
          refine w_il dX3_takeSigns_28 rfl ?_
          refine w_il dX3_takeSigns_29 rfl ?_
          refine w_iastN dX3_takeSigns_30 sh3 (by omega) ?_
          refine w_iincN (ls2 := [some (.ref 1), some (.int (nI (p + 1))), some (.int (tOf (bA σ p)))]) dX3_takeSigns_31 rfl rfl ?_
          refine w_goto dX3_takeSigns_34 ?_
          refine w_weak (ls2 := [some (.ref 1), some (.int (nI (p + 1))), none]) ⟨rfl, ⟨rfl, trivial⟩⟩ ?_
          exact ih2 (p + 1) (wI ρ1 3 p (tOf (bA σ p))) (by omega) ((CP.only hC1 only_wI (by decide))) ((Fr.only hF1 only_wI (by decide))) (ext1 (f := fun q => tOf (bA σ q)) ht1 rfl) (fsg_s (by omega) hs1 h19) (by omega)
        · --f
          refine w_il dX3_takeSigns_22 rfl ?_
          refine w_iret dX3_takeSigns_23 rfl ?_
          rw [← hQ]
          have e := fsg_t (by omega) hs1 h19
          exact ⟨_, rfl, _, rfl, hC1, hF1, fun h => absurd h (nIneg (by omega)), fun _ => by rw [e]⟩
  exact L2 _ 0 ρ (by omega) (hC) (Fr.rf) (fun q hq => absurd hq (Nat.not_lt_zero _)) (rfl) (Nat.lt_succ_self _)

set_option maxHeartbeats 4000000 in
theorem c_X3_takeParts (ρ : Rho) (σ : Sg) (hC : CP σ ρ) (hP : PP σ 60 8 (fun _ => 0) 0 (fun _ => 0) = LPr σ) (hb : ρ.1 1 6 = nI 0) (hc : ∀ q, q < 8 → ρ.1 4 q = nI 0) (ht : ∀ q, q < 8 → ρ.1 3 q = tOf (bA σ q)) : CallOK 3 mX3_takeParts [.ref 1] ρ (fun r ρ2 => ∃ v, r = some v ∧ (v = .int (LPr σ).1 ∧ CP σ ρ2 ∧ Fr [1, 3, 4, 6, 7, 8, 9] ρ ρ2 ∧ ((LPr σ).1 = -1 → (∀ p, p < 8 → ρ2.1 3 p = tOf (bA σ p)) ∧ (∀ p, p < 8 → ρ2.1 4 p = nI ((LPr σ).2.1 p)) ∧ ρ2.1 1 6 = nI (LPr σ).2.2.1 ∧ ∀ k, k < (LPr σ).2.2.1 → BrAt (LPr σ).2.2.2 ρ2 k))) := by
  refine callOK_of 4 (by decide +kernel) rfl (fun _ => Nat.le_of_ble_eq_true rfl) (ls := [some (.ref 1), none, none, none, none]) rfl ?_
  generalize hQ : (fun r ρ2 => ∃ v, r = some v ∧ (v = .int (LPr σ).1 ∧ CP σ ρ2 ∧ Fr [1, 3, 4, 6, 7, 8, 9] ρ ρ2 ∧ ((LPr σ).1 = -1 → (∀ p, p < 8 → ρ2.1 3 p = tOf (bA σ p)) ∧ (∀ p, p < 8 → ρ2.1 4 p = nI ((LPr σ).2.1 p)) ∧ ρ2.1 1 6 = nI (LPr σ).2.2.1 ∧ ∀ k, k < (LPr σ).2.2.1 → BrAt (LPr σ).2.2.2 ρ2 k)) : Option Value → Rho → Prop) = Q
  have w1 := hC.1.typed
  refine w_k dX3_takeParts_0 ?_
  refine w_is (ls2 := [some (.ref 1), some (.int (nI 8)), none, none, none]) dX3_takeParts_2 rfl ?_
  refine w_k dX3_takeParts_3 ?_
  refine w_is (ls2 := [some (.ref 1), some (.int (nI 8)), some (.int (nI 0)), none, none]) dX3_takeParts_4 rfl ?_
  have L5 : ∀ (n5 : Nat) (n : Nat) (a : Nat) (c : Nat) (nb : Nat) (cl : Nat → Nat) (br : Nat → Nat) (ρ3 : Rho), (PP σ n a cl nb br = LPr σ) → (σ.1 47 0 ≤ a + n) → (a ≤ 66) → (3 * c ≤ a) → (CP σ ρ3) → (Fr [1, 3, 4, 6, 7, 8, 9] ρ ρ3) → (ρ3.1 1 6 = nI nb) → (brOK nb br) → (∀ q, q < 8 → ρ3.1 4 q = nI (cl q)) → (∀ q, q < 8 → ρ3.1 3 q = tOf (bA σ q)) → (∀ k, k < nb → BrAt br ρ3 k) → (σ.1 47 0 - a) < n5 → MW mX3_takeParts 3 5 [some (.ref 1), some (.int (nI a)), some (.int (nI c)), none, none] [] ρ3 Q := by
    intro n5
    induction n5 with
    | zero =>
      intro n a c nb cl br ρ3 hP3 hn3 ha3 hcc hC3 hF3 hb3 hk3 hc3 ht3 hr3 hm5
      exact absurd hm5 (Nat.not_lt_zero _)
    | succ n5 ih5 =>
      intro n a c nb cl br ρ3 hP3 hn3 ha3 hcc hC3 hF3 hb3 hk3 hc3 ht3 hr3 hm5
      have hn4 := hk3.1
      refine w_il dX3_takeParts_5 rfl ?_
      refine w_k dX3_takeParts_6 ?_
      refine w_icgeN dX3_takeParts_8 (by omega) (by omega) (fun h8 => ?_) (fun h8 => ?_)
      · --t
        exfalso; omega
      · --f
        refine w_il dX3_takeParts_11 rfl ?_
        refine w_al dX3_takeParts_12 rfl ?_
        refine w_giV (v := (nI (σ.1 47 0))) dX3_takeParts_13 fl_X3_15 sh1 rfl (hC3.2.2.2.1 (1, 1, 47, 0) (by decide)) ?_
        refine w_icgeN dX3_takeParts_16 (by omega) (by omega) (fun h16 => ?_) (fun h16 => ?_)
        · --t
          refine w_k dX3_takeParts_110 ?_
          refine w_iret dX3_takeParts_111 rfl ?_
          rw [← hQ]
          have e : LPr σ = (-1, cl, nb, br) := by rw [← hP3]; exact PP_end (by omega)
          exact ⟨_, rfl, by rw [e], hC3, hF3, fun _ => by rw [e]; exact ⟨ht3, hc3, hb3, hr3⟩⟩
        · --f
          have wt := hC3.1.text a
          obtain ⟨m3, rfl⟩ : ∃ m, n = m + 1 := ⟨n - 1, by omega⟩
          refine w_al dX3_takeParts_19 rfl ?_
          refine w_il dX3_takeParts_20 rfl ?_
          refine w_cVf dX3_takeParts_21 (vl_X3_65 _ rfl) sh1 (by decide) (c_X3_signAt ρ3 σ a hC3 (by omega)) rfl rfl (Nat.le_of_ble_eq_true rfl) ?_
          refine w_k dX3_takeParts_24 ?_
          refine w_iceq dX3_takeParts_26 (fun h26 => ?_) (fun h26 => ?_)
          · --t
            have hsc : σ.1 48 a = 59 := by rw [bA_eq h16] at h26; exact (nI_eq (by omega) (by decide)).mp h26
            refine w_al dX3_takeParts_31 rfl ?_
            refine w_il dX3_takeParts_32 rfl ?_
            refine w_k dX3_takeParts_33 ?_
            refine w_iaddN dX3_takeParts_34 ?_
            refine w_cVf dX3_takeParts_35 (vl_X3_65 _ rfl) sh1 (by decide) (c_X3_signAt ρ3 σ (a + 1) hC3 (by omega)) rfl rfl (Nat.le_of_ble_eq_true rfl) ?_
            refine w_is (ls2 := [some (.ref 1), some (.int (nI a)), some (.int (nI c)), some (.int (bA σ (a + 1))), none]) dX3_takeParts_38 rfl ?_
            refine w_il dX3_takeParts_39 rfl ?_
            refine w_k dX3_takeParts_40 ?_
            refine w_iceq dX3_takeParts_42 (fun h42 => ?_) (fun h42 => ?_)
            · --t
              refine w_il dX3_takeParts_55 rfl ?_
              refine w_k dX3_takeParts_56 ?_
              refine w_icne dX3_takeParts_58 (fun h58 => ?_) (fun h58 => ?_)
              · --t
                exact absurd h42 h58
              · --f
                refine w_al dX3_takeParts_61 rfl ?_
                refine w_il dX3_takeParts_62 rfl ?_
                refine w_k dX3_takeParts_63 ?_
                refine w_iaddN dX3_takeParts_64 ?_
                refine w_cVr dX3_takeParts_65 (vl_X3_72 _ rfl) sh1 (by decide) (c_X3_takePath ρ3 σ (a + 2) hC3 (by omega)) rfl rfl (Nat.le_of_ble_eq_true rfl) (fun vp1 ρp1 hp1 => ?_)
                obtain ⟨rfl, hy1, hz1⟩ := hp1
                refine w_goto dX3_takeParts_68 ?_
                refine w_is (ls2 := [some (.ref 1), some (.int (nI a)), some (.int (nI c)), some (.int (bA σ (a + 1))), some (.int (tpt σ (a + 2)))]) dX3_takeParts_78 rfl ?_
                refine w_il dX3_takeParts_80 rfl ?_
                refine w_k dX3_takeParts_82 ?_
                refine w_iceq dX3_takeParts_83 (fun h83 => ?_) (fun h83 => ?_)
                · --t
                  obtain rfl := hy1 h83
                  have g2 := tpt_y h83 (by omega)
                  refine w_il dX3_takeParts_89 rfl ?_
                  refine w_il dX3_takeParts_90 rfl ?_
                  refine w_k dX3_takeParts_91 ?_
                  refine w_icne dX3_takeParts_93 (fun h93 => ?_) (fun h93 => ?_)
                  · --t
                    exact absurd h58 h93
                  · --f
                    refine w_k dX3_takeParts_96 ?_
                    refine w_goto dX3_takeParts_97 ?_
                    refine w_iaddN dX3_takeParts_102 ?_
                    refine w_is (ls2 := [some (.ref 1), some (.int (nI (a + 3))), some (.int (nI c)), some (.int (bA σ (a + 1))), some (.int (tpt σ (a + 2)))]) dX3_takeParts_103 rfl ?_
                    refine w_iincN (ls2 := [some (.ref 1), some (.int (nI (a + 3))), some (.int (nI (c + 1))), some (.int (bA σ (a + 1))), some (.int (tpt σ (a + 2)))]) dX3_takeParts_104 rfl rfl ?_
                    refine w_goto dX3_takeParts_107 ?_
                    refine w_weak (ls2 := [some (.ref 1), some (.int (nI (a + 3))), some (.int (nI (c + 1))), none, none]) ⟨rfl, ⟨rfl, ⟨rfl, trivial⟩⟩⟩ ?_
                    exact ih5 m3 (a + 3) (c + 1) nb (va_up cl (dg σ (a + 2)) 1) br (wI ρ3 4 (dg σ (a + 2)) (nI 1)) (by rw [← hP3]; exact (PP_x h16 hsc h58 g2).symm) (by omega) (by omega) (by omega) ((CP.only hC3 only_wI (by decide))) ((Fr.only hF3 only_wI (by decide))) ((rI_c (by decide) hb3)) (hk3) (upd1 (f := fun q => nI (cl q)) (g := fun q => nI (va_up cl (dg σ (a + 2)) 1 q)) hc3 (by rw [va_up_eq]) (fun q hq => by rw [vup_ne hq])) (keepA (f := fun q => tOf (bA σ q)) (by decide) (ht3)) (fun k hk => BrAt.only (hr3 k hk) only_wI (by decide)) (by omega)
                · --f
                  obtain rfl := hz1 h83
                  refine w_il dX3_takeParts_86 rfl ?_
                  refine w_iret dX3_takeParts_88 rfl ?_
                  rw [← hQ]
                  have e : LPr σ = ((tpt σ (a + 2)), cl, nb, br) := by rw [← hP3]; exact PP_pt h16 hsc h58 h83
                  exact ⟨_, rfl, by rw [e], hC3, hF3, fun h => absurd (by rw [e] at h; exact h) (h83)⟩
            · --f
              refine w_il dX3_takeParts_45 rfl ?_
              refine w_k dX3_takeParts_46 ?_
              refine w_iceq dX3_takeParts_48 (fun h48 => ?_) (fun h48 => ?_)
              · --t
                refine w_il dX3_takeParts_55 rfl ?_
                refine w_k dX3_takeParts_56 ?_
                refine w_icne dX3_takeParts_58 (fun h58 => ?_) (fun h58 => ?_)
                · --t
                  have h98 : bA σ (a + 1) = nI 98 := h48
                  have hx9 : bA σ (a + 1) ≠ nI 120 := h58
                  refine w_al dX3_takeParts_71 rfl ?_
                  refine w_il dX3_takeParts_72 rfl ?_
                  refine w_k dX3_takeParts_73 ?_
                  refine w_iaddN dX3_takeParts_74 ?_
                  refine w_cVr dX3_takeParts_75 (vl_X3_75 _ rfl) sh1 (by decide) (c_X3_takeBridge ρ3 σ (a + 1) nb hC3 (by omega) hb3 (by omega)) rfl rfl (Nat.le_of_ble_eq_true rfl) (fun vp2 ρp2 hp2 => ?_)
                  obtain ⟨rfl, hy2, hz2⟩ := hp2
                  refine w_is (ls2 := [some (.ref 1), some (.int (nI a)), some (.int (nI c)), some (.int (bA σ (a + 1))), some (.int (tbr σ (a + 1) nb))]) dX3_takeParts_78 rfl ?_
                  refine w_il dX3_takeParts_80 rfl ?_
                  refine w_k dX3_takeParts_82 ?_
                  refine w_iceq dX3_takeParts_83 (fun h83 => ?_) (fun h83 => ?_)
                  · --t
                    obtain rfl := hy2 h83
                    have g := tbr_y h83 (by omega)
                    refine w_il dX3_takeParts_89 rfl ?_
                    refine w_il dX3_takeParts_90 rfl ?_
                    refine w_k dX3_takeParts_91 ?_
                    refine w_icne dX3_takeParts_93 (fun h93 => ?_) (fun h93 => ?_)
                    · --t
                      refine w_k dX3_takeParts_100 ?_
                      refine w_iaddN dX3_takeParts_102 ?_
                      refine w_is (ls2 := [some (.ref 1), some (.int (nI (a + 6))), some (.int (nI c)), some (.int (bA σ (a + 1))), some (.int (tbr σ (a + 1) nb))]) dX3_takeParts_103 rfl ?_
                      refine w_iincN (ls2 := [some (.ref 1), some (.int (nI (a + 6))), some (.int (nI (c + 1))), some (.int (bA σ (a + 1))), some (.int (tbr σ (a + 1) nb))]) dX3_takeParts_104 rfl rfl ?_
                      refine w_goto dX3_takeParts_107 ?_
                      refine w_weak (ls2 := [some (.ref 1), some (.int (nI (a + 6))), some (.int (nI (c + 1))), none, none]) ⟨rfl, ⟨rfl, ⟨rfl, trivial⟩⟩⟩ ?_
                      exact ih5 m3 (a + 6) (c + 1) (nb + 1) cl (br4 br nb (dg σ (a + 2)) (dg σ (a + 3)) (dg σ (a + 4)) (dg σ (a + 5))) (wI (wI (wI (wI (wI ρ3 6 nb (nI (dg σ (a + 2)))) 7 nb (nI (dg σ (a + 3)))) 8 nb (nI (dg σ (a + 4)))) 9 nb (nI (dg σ (a + 5)))) 1 6 (nI (nb + 1))) (by rw [← hP3]; exact (PP_b h16 hsc hx9 ⟨h98, g.1⟩ g.2.1 g.2.2.1 g.2.2.2.1 g.2.2.2.2).symm) (by omega) (by omega) (by omega) ((CP.slot (CP.only (CP.only (CP.only (CP.only hC3 only_wI (by decide)) only_wI (by decide)) only_wI (by decide)) only_wI (by decide)) (by decide))) ((Fr.only (Fr.only (Fr.only (Fr.only (Fr.only hF3 only_wI (by decide)) only_wI (by decide)) only_wI (by decide)) only_wI (by decide)) only_wI (by decide))) (rI_eq) (brOK_4 hk3 g.1 g.2.1 g.2.2.1.1 g.2.2.1.2 g.2.2.2.1.1 g.2.2.2.1.2 g.2.2.2.2) (keepA (f := fun q => nI (cl q)) (by decide) (keepA (f := fun q => nI (cl q)) (by decide) (keepA (f := fun q => nI (cl q)) (by decide) (keepA (f := fun q => nI (cl q)) (by decide) (keepA (f := fun q => nI (cl q)) (by decide) (hc3)))))) (keepA (f := fun q => tOf (bA σ q)) (by decide) (keepA (f := fun q => tOf (bA σ q)) (by decide) (keepA (f := fun q => tOf (bA σ q)) (by decide) (keepA (f := fun q => tOf (bA σ q)) (by decide) (keepA (f := fun q => tOf (bA σ q)) (by decide) (ht3)))))) (BrAt_ext hr3) (by omega)
                    · --f
                      exact absurd h93 h58
                  · --f
                    obtain rfl := hz2 h83
                    refine w_il dX3_takeParts_86 rfl ?_
                    refine w_iret dX3_takeParts_88 rfl ?_
                    rw [← hQ]
                    have e : LPr σ = ((tbr σ (a + 1) nb), cl, nb, br) := by rw [← hP3]; exact PP_tb h16 hsc h98 h83
                    exact ⟨_, rfl, by rw [e], hC3, hF3, fun h => absurd (by rw [e] at h; exact h) (h83)⟩
                · --f
                  exact absurd h58 h42
              · --f
                refine w_il dX3_takeParts_51 rfl ?_
                refine w_k dX3_takeParts_52 ?_
                refine w_iaddN dX3_takeParts_53 ?_
                refine w_iret dX3_takeParts_54 rfl ?_
                rw [← hQ]
                have e : LPr σ = ((nI (a + 1)), cl, nb, br) := by rw [← hP3]; exact PP_k h16 hsc h42 (fun q => h48 q.1)
                exact ⟨_, rfl, by rw [e], hC3, hF3, fun h => absurd (by rw [e] at h; exact h) (nIneg (by omega))⟩
          · --f
            refine w_il dX3_takeParts_29 rfl ?_
            refine w_iret dX3_takeParts_30 rfl ?_
            rw [← hQ]
            have e : LPr σ = ((nI a), cl, nb, br) := by rw [← hP3]; exact PP_semi h16 (fun q => h26 (by rw [bA_eq h16, q]))
            exact ⟨_, rfl, by rw [e], hC3, hF3, fun h => absurd (by rw [e] at h; exact h) (nIneg (by omega))⟩
  exact L5 _ 60 8 0 0 (fun _ => 0) (fun _ => 0) ρ (hP) (by omega) (by omega) (by omega) (hC) (Fr.rf) (hb) (⟨Nat.zero_le _, fun k hk => absurd hk (Nat.not_lt_zero _)⟩) (hc) (ht) (fun k hk => absurd hk (Nat.not_lt_zero _)) (Nat.lt_succ_self _)
