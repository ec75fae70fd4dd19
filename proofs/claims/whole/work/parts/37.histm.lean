set_option maxHeartbeats 4000000 in
theorem c_X8_historyOf (ρ : Rho) (σ : Sg) (a : Nat) (n : Nat) (y : Nat) (hM : MInv σ ρ) (ha : a < 100) (hn : n ≤ 12) (hy : y < 4) : CallOK 5 mX8_historyOf [.ref 47, .int (nI a), .int (nI n), .int (nI y)] ρ (fun r ρ2 => ∃ v, r = some v ∧ (v = .int (v_hist σ (t0 σ a) n y) ∧ MInv σ ρ2 ∧ EqC ρ ρ2)) := by
  refine callOK_of 8 (by decide +kernel) rfl (fun _ => Nat.le_of_ble_eq_true rfl) (ls := [some (.ref 47), some (.int (nI a)), some (.int (nI n)), some (.int (nI y)), none, none, none, none, none, none, none, none]) rfl ?_
  generalize hQ : (fun r ρ2 => ∃ v, r = some v ∧ (v = .int (v_hist σ (t0 σ a) n y) ∧ MInv σ ρ2 ∧ EqC ρ ρ2) : Option Value → Rho → Prop) = Q
  have wn := p12 n hn
  refine w_al dX8_historyOf_0 rfl ?_
  refine w_cVu dX8_historyOf_1 (vl_X8_145 _ rfl) sh47 (by decide) (c_X8_lays ρ σ hM) rfl rfl (Nat.le_of_ble_eq_true rfl) (fun ρl1 hl1 => ?_)
  obtain ⟨hMl1, hEl1, hDl1⟩ := hl1
  refine w_k dX8_historyOf_4 ?_
  refine w_is (ls2 := [some (.ref 47), some (.int (nI a)), some (.int (nI n)), some (.int (nI y)), some (.int (nI 0)), none, none, none, none, none, none, none]) dX8_historyOf_5 rfl ?_
  refine w_k dX8_historyOf_7 ?_
  refine w_is (ls2 := [some (.ref 47), some (.int (nI a)), some (.int (nI n)), some (.int (nI y)), some (.int (nI 0)), some (.int (-1)), none, none, none, none, none, none]) dX8_historyOf_8 rfl ?_
  refine w_k dX8_historyOf_10 ?_
  refine w_il dX8_historyOf_11 rfl ?_
  refine w_ishl1 dX8_historyOf_12 (by omega) ?_
  refine w_k dX8_historyOf_13 ?_
  refine w_isubN dX8_historyOf_14 (by omega) ?_
  refine w_is (ls2 := [some (.ref 47), some (.int (nI a)), some (.int (nI n)), some (.int (nI y)), some (.int (nI 0)), some (.int (-1)), some (.int (nI (2 ^ n - 1))), none, none, none, none, none]) dX8_historyOf_15 rfl ?_
  refine w_il dX8_historyOf_17 rfl ?_
  refine w_is (ls2 := [some (.ref 47), some (.int (nI a)), some (.int (nI n)), some (.int (nI y)), some (.int (nI 0)), some (.int (-1)), some (.int (nI (2 ^ n - 1))), some (.int (nI (2 ^ n - 1))), none, none, none, none]) dX8_historyOf_19 rfl ?_
  refine w_k dX8_historyOf_21 ?_
  refine w_is (ls2 := [some (.ref 47), some (.int (nI a)), some (.int (nI n)), some (.int (nI y)), some (.int (nI 0)), some (.int (-1)), some (.int (nI (2 ^ n - 1))), some (.int (nI (2 ^ n - 1))), some (.int (nI 0)), none, none, none]) dX8_historyOf_22 rfl ?_
  have L24 : ∀ (n24 : Nat) (k : Nat) (ρ1 : Rho), (k ≤ 2 ^ n) → (Fr [67] ρl1 ρ1) → (2 ^ n - k) < n24 → MW mX8_historyOf 5 24 [some (.ref 47), some (.int (nI a)), some (.int (nI n)), some (.int (nI y)), some (.int (nI (aN σ (t0 σ a) n (fun c => c) k))), some (.int (fst (aX σ (t0 σ a) n (fun c => c) k))), some (.int (aW σ (t0 σ a) n (fun c => c) k)), some (.int (aO σ (t0 σ a) n (fun c => c) k)), some (.int (nI k)), none, none, none] [] ρ1 Q := by
    intro n24
    induction n24 with
    | zero =>
      intro k ρ1 hk hF1 hm24
      exact absurd hm24 (Nat.not_lt_zero _)
    | succ n24 ih24 =>
      intro k ρ1 hk hF1 hm24
      refine w_il dX8_historyOf_24 rfl ?_
      refine w_k dX8_historyOf_26 ?_
      refine w_il dX8_historyOf_27 rfl ?_
      refine w_ishl1 dX8_historyOf_28 (by omega) ?_
      refine w_icgeN dX8_historyOf_29 (by omega) (by omega) (fun h29 => ?_) (fun h29 => ?_)
      · --t
        have ek : k = 2 ^ n := by omega
        subst ek
        have w5 := aN_le (σ := σ) (T := t0 σ a) (n := n) (u := fun c => c) (2 ^ n)
        refine w_il dX8_historyOf_290 rfl ?_
        refine w_ifneN dX8_historyOf_291 (by omega) (fun h291 => ?_) (fun h291 => ?_)
        · --t
          refine w_il dX8_historyOf_299 rfl ?_
          refine w_k dX8_historyOf_300 ?_
          refine w_icneN dX8_historyOf_301 (by omega) (by omega) (fun h301 => ?_) (fun h301 => ?_)
          · --t
            refine w_il dX8_historyOf_309 rfl ?_
            refine w_ifneN dX8_historyOf_311 (by omega) (fun h311 => ?_) (fun h311 => ?_)
            · --t
              refine w_il dX8_historyOf_319 rfl ?_
              refine w_k dX8_historyOf_320 ?_
              refine w_icneN dX8_historyOf_321 (by omega) (by omega) (fun h321 => ?_) (fun h321 => ?_)
              · --t
                refine w_il dX8_historyOf_329 rfl ?_
                refine w_iret dX8_historyOf_331 rfl ?_
                rw [← hQ]
                exact ⟨_, rfl, by rw [v_hist, if_neg h291, if_neg h301, if_neg h311, if_neg h321], (MInv.fr hMl1 hF1 (by decide)), (EqC.tr hEl1 (Fr.eqC hF1 (by decide)))⟩
              · --f
                refine w_il dX8_historyOf_324 rfl ?_
                refine w_goto dX8_historyOf_326 ?_
                refine w_iret dX8_historyOf_331 rfl ?_
                rw [← hQ]
                exact ⟨_, rfl, by rw [v_hist, if_neg h291, if_neg h301, if_neg h311, if_pos h321], (MInv.fr hMl1 hF1 (by decide)), (EqC.tr hEl1 (Fr.eqC hF1 (by decide)))⟩
            · --f
              refine w_k dX8_historyOf_314 ?_
              refine w_goto dX8_historyOf_316 ?_
              refine w_iret dX8_historyOf_331 rfl ?_
              rw [← hQ]
              exact ⟨_, rfl, by rw [v_hist, if_neg h291, if_neg h301, if_pos h311], (MInv.fr hMl1 hF1 (by decide)), (EqC.tr hEl1 (Fr.eqC hF1 (by decide)))⟩
          · --f
            refine w_il dX8_historyOf_304 rfl ?_
            refine w_goto dX8_historyOf_306 ?_
            refine w_iret dX8_historyOf_331 rfl ?_
            rw [← hQ]
            exact ⟨_, rfl, by rw [v_hist, if_neg h291, if_pos h301], (MInv.fr hMl1 hF1 (by decide)), (EqC.tr hEl1 (Fr.eqC hF1 (by decide)))⟩
        · --f
          refine w_il dX8_historyOf_294 rfl ?_
          refine w_goto dX8_historyOf_296 ?_
          refine w_iret dX8_historyOf_331 rfl ?_
          rw [← hQ]
          exact ⟨_, rfl, by rw [v_hist, if_pos h291], (MInv.fr hMl1 hF1 (by decide)), (EqC.tr hEl1 (Fr.eqC hF1 (by decide)))⟩
      · --f
        refine w_il dX8_historyOf_32 rfl ?_
        have J33 : MW mX8_historyOf 5 53 [some (.ref 47), some (.int (nI a)), some (.int (nI n)), some (.int (nI y)), some (.int (nI (aN σ (t0 σ a) n (fun c => c) k))), some (.int (fst (aX σ (t0 σ a) n (fun c => c) k))), some (.int (aW σ (t0 σ a) n (fun c => c) k)), some (.int (aO σ (t0 σ a) n (fun c => c) k)), some (.int (nI k)), none, none, none] [.int (nI (t0 σ a))] ρ1 Q := by
          refine w_is (ls2 := [some (.ref 47), some (.int (nI a)), some (.int (nI n)), some (.int (nI y)), some (.int (nI (aN σ (t0 σ a) n (fun c => c) k))), some (.int (fst (aX σ (t0 σ a) n (fun c => c) k))), some (.int (aW σ (t0 σ a) n (fun c => c) k)), some (.int (aO σ (t0 σ a) n (fun c => c) k)), some (.int (nI k)), some (.int (nI (t0 σ a))), none, none]) dX8_historyOf_53 rfl ?_
          refine w_k dX8_historyOf_55 ?_
          refine w_is (ls2 := [some (.ref 47), some (.int (nI a)), some (.int (nI n)), some (.int (nI y)), some (.int (nI (aN σ (t0 σ a) n (fun c => c) k))), some (.int (fst (aX σ (t0 σ a) n (fun c => c) k))), some (.int (aW σ (t0 σ a) n (fun c => c) k)), some (.int (aO σ (t0 σ a) n (fun c => c) k)), some (.int (nI k)), some (.int (nI (t0 σ a))), some (.int (nI 0)), none]) dX8_historyOf_56 rfl ?_
          have L58 : ∀ (n58 : Nat) (q : Nat) (ρ2 : Rho), (q ≤ 8) → (Fr [67] ρl1 ρ2) → (∀ i, i < q → ρ2.1 67 i = nI 0) → (8 - q) < n58 → MW mX8_historyOf 5 58 [some (.ref 47), some (.int (nI a)), some (.int (nI n)), some (.int (nI y)), some (.int (nI (aN σ (t0 σ a) n (fun c => c) k))), some (.int (fst (aX σ (t0 σ a) n (fun c => c) k))), some (.int (aW σ (t0 σ a) n (fun c => c) k)), some (.int (aO σ (t0 σ a) n (fun c => c) k)), some (.int (nI k)), some (.int (nI (t0 σ a))), some (.int (nI q)), none] [] ρ2 Q := by
            intro n58
            induction n58 with
            | zero =>
              intro q ρ2 hq hF2 hZ hm58
              exact absurd hm58 (Nat.not_lt_zero _)
            | succ n58 ih58 =>
              intro q ρ2 hq hF2 hZ hm58
              refine w_il dX8_historyOf_58 rfl ?_
              refine w_k dX8_historyOf_60 ?_
              refine w_icgeN dX8_historyOf_62 (by omega) (by omega) (fun h62 => ?_) (fun h62 => ?_)
              · --t
                refine w_k dX8_historyOf_79 ?_
                refine w_is (ls2 := [some (.ref 47), some (.int (nI a)), some (.int (nI n)), some (.int (nI y)), some (.int (nI (aN σ (t0 σ a) n (fun c => c) k))), some (.int (fst (aX σ (t0 σ a) n (fun c => c) k))), some (.int (aW σ (t0 σ a) n (fun c => c) k)), some (.int (aO σ (t0 σ a) n (fun c => c) k)), some (.int (nI k)), some (.int (nI (t0 σ a))), some (.int (nI 0)), none]) dX8_historyOf_80 rfl ?_
                have L82 : ∀ (n82 : Nat) (d : Nat) (ρ3 : Rho), (d ≤ n) → (Fr [67] ρl1 ρ3) → (∀ r, r < 8 → ρ3.1 67 r = nI (hF σ (t0 σ a) (bt k) r d)) → (n - d) < n82 → MW mX8_historyOf 5 82 [some (.ref 47), some (.int (nI a)), some (.int (nI n)), some (.int (nI y)), some (.int (nI (aN σ (t0 σ a) n (fun c => c) k))), some (.int (fst (aX σ (t0 σ a) n (fun c => c) k))), some (.int (aW σ (t0 σ a) n (fun c => c) k)), some (.int (aO σ (t0 σ a) n (fun c => c) k)), some (.int (nI k)), some (.int (nI (hT (t0 σ a) (bt k) d))), some (.int (nI d)), none] [] ρ3 Q := by
                  intro n82
                  induction n82 with
                  | zero =>
                    intro d ρ3 hd hF3 hH3 hm82
                    exact absurd hm82 (Nat.not_lt_zero _)
                  | succ n82 ih82 =>
                    intro d ρ3 hd hF3 hH3 hm82
                    refine w_il dX8_historyOf_82 rfl ?_
                    refine w_il dX8_historyOf_84 rfl ?_
                    refine w_icgeN dX8_historyOf_85 (by omega) (by omega) (fun h85 => ?_) (fun h85 => ?_)
                    · --t
                      refine w_k dX8_historyOf_154 ?_
                      refine w_is (ls2 := [some (.ref 47), some (.int (nI a)), some (.int (nI n)), some (.int (nI y)), some (.int (nI (aN σ (t0 σ a) n (fun c => c) k))), some (.int (fst (aX σ (t0 σ a) n (fun c => c) k))), some (.int (aW σ (t0 σ a) n (fun c => c) k)), some (.int (aO σ (t0 σ a) n (fun c => c) k)), some (.int (nI k)), some (.int (nI (hT (t0 σ a) (bt k) d))), some (.int (nI 1)), none]) dX8_historyOf_155 rfl ?_
                      refine w_k dX8_historyOf_157 ?_
                      refine w_is (ls2 := [some (.ref 47), some (.int (nI a)), some (.int (nI n)), some (.int (nI y)), some (.int (nI (aN σ (t0 σ a) n (fun c => c) k))), some (.int (fst (aX σ (t0 σ a) n (fun c => c) k))), some (.int (aW σ (t0 σ a) n (fun c => c) k)), some (.int (aO σ (t0 σ a) n (fun c => c) k)), some (.int (nI k)), some (.int (nI (hT (t0 σ a) (bt k) d))), some (.int (nI 1)), some (.int (nI 0))]) dX8_historyOf_158 rfl ?_
                      have L160 : ∀ (n160 : Nat) (r : Nat), (r ≤ 8) → (8 - r) < n160 → MW mX8_historyOf 5 160 [some (.ref 47), some (.int (nI a)), some (.int (nI n)), some (.int (nI y)), some (.int (nI (aN σ (t0 σ a) n (fun c => c) k))), some (.int (fst (aX σ (t0 σ a) n (fun c => c) k))), some (.int (aW σ (t0 σ a) n (fun c => c) k)), some (.int (aO σ (t0 σ a) n (fun c => c) k)), some (.int (nI k)), none, some (.int (b2i (hP σ (t0 σ a) (bt k) n r = true))), some (.int (nI r))] [] ρ3 Q := by
                        intro n160
                        induction n160 with
                        | zero =>
                          intro r hr hm160
                          exact absurd hm160 (Nat.not_lt_zero _)
                        | succ n160 ih160 =>
                          intro r hr hm160
                          refine w_il dX8_historyOf_160 rfl ?_
                          refine w_k dX8_historyOf_162 ?_
                          refine w_icgeN dX8_historyOf_164 (by omega) (by omega) (fun h164 => ?_) (fun h164 => ?_)
                          · --t
                            have er : r = 8 := by omega
                            by_cases hz : ft σ (t0 σ a) n k = true
                            · --case
                              rw [show b2i (hP σ (t0 σ a) (bt k) n r = true) = nI 1 from b2i_t (by rw [er]; exact hz)]
                              refine w_il dX8_historyOf_213 rfl ?_
                              refine w_il dX8_historyOf_215 rfl ?_
                              refine w_ifeqN dX8_historyOf_217 (by decide) (fun h => absurd h (by decide)) (fun _ => ?_)
                              refine w_k dX8_historyOf_220 ?_
                              refine w_goto dX8_historyOf_221 ?_
                              refine w_iaddN dX8_historyOf_225 ?_
                              refine w_is (ls2 := [some (.ref 47), some (.int (nI a)), some (.int (nI n)), some (.int (nI y)), some (.int (nI (aN σ (t0 σ a) n (fun c => c) k + 1))), some (.int (fst (aX σ (t0 σ a) n (fun c => c) k))), some (.int (aW σ (t0 σ a) n (fun c => c) k)), some (.int (aO σ (t0 σ a) n (fun c => c) k)), some (.int (nI k)), none, some (.int (nI 1)), some (.int (nI r))]) dX8_historyOf_226 rfl ?_
                              refine w_il dX8_historyOf_228 rfl ?_
                              refine w_ifeqN dX8_historyOf_230 (by decide) (fun h => absurd h (by decide)) (fun _ => ?_)
                              refine w_il dX8_historyOf_233 rfl ?_
                              refine w_k dX8_historyOf_235 ?_
                              refine w_icne dX8_historyOf_236 (fun h236 => ?_) (fun h236 => ?_)
                              · --t
                                refine w_il dX8_historyOf_244 rfl ?_
                                refine w_is (ls2 := [some (.ref 47), some (.int (nI a)), some (.int (nI n)), some (.int (nI y)), some (.int (nI (aN σ (t0 σ a) n (fun c => c) k + 1))), some (.int (fst (aX σ (t0 σ a) n (fun c => c) k))), some (.int (aW σ (t0 σ a) n (fun c => c) k)), some (.int (aO σ (t0 σ a) n (fun c => c) k)), some (.int (nI k)), none, some (.int (nI 1)), some (.int (nI r))]) dX8_historyOf_246 rfl ?_
                                refine w_il dX8_historyOf_248 rfl ?_
                                refine w_ifeqN dX8_historyOf_250 (by decide) (fun h => absurd h (by decide)) (fun _ => ?_)
                                refine w_il dX8_historyOf_253 rfl ?_
                                refine w_il dX8_historyOf_255 rfl ?_
                                refine w_iand dX8_historyOf_257 ?_
                                refine w_goto dX8_historyOf_258 ?_
                                refine w_is (ls2 := [some (.ref 47), some (.int (nI a)), some (.int (nI n)), some (.int (nI y)), some (.int (nI (aN σ (t0 σ a) n (fun c => c) k + 1))), some (.int (fst (aX σ (t0 σ a) n (fun c => c) k))), some (.int ((aW σ (t0 σ a) n (fun c => c) k) &&& (nI k))), some (.int (aO σ (t0 σ a) n (fun c => c) k)), some (.int (nI k)), none, some (.int (nI 1)), some (.int (nI r))]) dX8_historyOf_263 rfl ?_
                                refine w_il dX8_historyOf_265 rfl ?_
                                refine w_ifeqN dX8_historyOf_267 (by decide) (fun h => absurd h (by decide)) (fun _ => ?_)
                                refine w_il dX8_historyOf_270 rfl ?_
                                refine w_il dX8_historyOf_272 rfl ?_
                                refine w_k dX8_historyOf_274 ?_
                                refine w_ixor dX8_historyOf_275 ?_
                                refine w_iand dX8_historyOf_276 ?_
                                refine w_goto dX8_historyOf_277 ?_
                                refine w_is (ls2 := [some (.ref 47), some (.int (nI a)), some (.int (nI n)), some (.int (nI y)), some (.int (nI (aN σ (t0 σ a) n (fun c => c) k + 1))), some (.int (fst (aX σ (t0 σ a) n (fun c => c) k))), some (.int ((aW σ (t0 σ a) n (fun c => c) k) &&& (nI k))), some (.int ((aO σ (t0 σ a) n (fun c => c) k) &&& ((nI k) ^^^ (-1)))), some (.int (nI k)), none, some (.int (nI 1)), some (.int (nI r))]) dX8_historyOf_282 rfl ?_
                                refine w_iincN (ls2 := [some (.ref 47), some (.int (nI a)), some (.int (nI n)), some (.int (nI y)), some (.int (nI (aN σ (t0 σ a) n (fun c => c) k + 1))), some (.int (fst (aX σ (t0 σ a) n (fun c => c) k))), some (.int ((aW σ (t0 σ a) n (fun c => c) k) &&& (nI k))), some (.int ((aO σ (t0 σ a) n (fun c => c) k) &&& ((nI k) ^^^ (-1)))), some (.int (nI (k + 1))), none, some (.int (nI 1)), some (.int (nI r))]) dX8_historyOf_284 rfl rfl ?_
                                refine w_goto dX8_historyOf_287 ?_
                                refine w_weak (ls2 := [some (.ref 47), some (.int (nI a)), some (.int (nI n)), some (.int (nI y)), some (.int (nI (aN σ (t0 σ a) n (fun c => c) k + 1))), some (.int (fst (aX σ (t0 σ a) n (fun c => c) k))), some (.int ((aW σ (t0 σ a) n (fun c => c) k) &&& (nI k))), some (.int ((aO σ (t0 σ a) n (fun c => c) k) &&& ((nI k) ^^^ (-1)))), some (.int (nI (k + 1))), none, none, none]) ⟨rfl, ⟨rfl, ⟨rfl, ⟨rfl, ⟨rfl, ⟨rfl, ⟨rfl, ⟨rfl, ⟨rfl, trivial⟩⟩⟩⟩⟩⟩⟩⟩⟩ ?_
                                rw [show aW σ (t0 σ a) n (fun c => c) k &&& nI k = aW σ (t0 σ a) n (fun c => c) (k + 1) from (aW_y (u := fun c => c) hz).symm]
                                rw [show aO σ (t0 σ a) n (fun c => c) k &&& (nI k ^^^ (-1)) = aO σ (t0 σ a) n (fun c => c) (k + 1) from aO_ny hz]
                                rw [show aN σ (t0 σ a) n (fun c => c) k + 1 = aN σ (t0 σ a) n (fun c => c) (k + 1) from (aN_y (u := fun c => c) hz).symm]
                                rw [show fst (aX σ (t0 σ a) n (fun c => c) k) = fst (aX σ (t0 σ a) n (fun c => c) (k + 1)) from fst_s (by omega) hz h236]
                                exact ih24 (k + 1) ρ3 (by omega) (hF3) (by omega)
                              · --f
                                refine w_il dX8_historyOf_239 rfl ?_
                                refine w_goto dX8_historyOf_241 ?_
                                refine w_is (ls2 := [some (.ref 47), some (.int (nI a)), some (.int (nI n)), some (.int (nI y)), some (.int (nI (aN σ (t0 σ a) n (fun c => c) k + 1))), some (.int (nI k)), some (.int (aW σ (t0 σ a) n (fun c => c) k)), some (.int (aO σ (t0 σ a) n (fun c => c) k)), some (.int (nI k)), none, some (.int (nI 1)), some (.int (nI r))]) dX8_historyOf_246 rfl ?_
                                refine w_il dX8_historyOf_248 rfl ?_
                                refine w_ifeqN dX8_historyOf_250 (by decide) (fun h => absurd h (by decide)) (fun _ => ?_)
                                refine w_il dX8_historyOf_253 rfl ?_
                                refine w_il dX8_historyOf_255 rfl ?_
                                refine w_iand dX8_historyOf_257 ?_
                                refine w_goto dX8_historyOf_258 ?_
                                refine w_is (ls2 := [some (.ref 47), some (.int (nI a)), some (.int (nI n)), some (.int (nI y)), some (.int (nI (aN σ (t0 σ a) n (fun c => c) k + 1))), some (.int (nI k)), some (.int ((aW σ (t0 σ a) n (fun c => c) k) &&& (nI k))), some (.int (aO σ (t0 σ a) n (fun c => c) k)), some (.int (nI k)), none, some (.int (nI 1)), some (.int (nI r))]) dX8_historyOf_263 rfl ?_
                                refine w_il dX8_historyOf_265 rfl ?_
                                refine w_ifeqN dX8_historyOf_267 (by decide) (fun h => absurd h (by decide)) (fun _ => ?_)
                                refine w_il dX8_historyOf_270 rfl ?_
                                refine w_il dX8_historyOf_272 rfl ?_
                                refine w_k dX8_historyOf_274 ?_
                                refine w_ixor dX8_historyOf_275 ?_
                                refine w_iand dX8_historyOf_276 ?_
                                refine w_goto dX8_historyOf_277 ?_
                                refine w_is (ls2 := [some (.ref 47), some (.int (nI a)), some (.int (nI n)), some (.int (nI y)), some (.int (nI (aN σ (t0 σ a) n (fun c => c) k + 1))), some (.int (nI k)), some (.int ((aW σ (t0 σ a) n (fun c => c) k) &&& (nI k))), some (.int ((aO σ (t0 σ a) n (fun c => c) k) &&& ((nI k) ^^^ (-1)))), some (.int (nI k)), none, some (.int (nI 1)), some (.int (nI r))]) dX8_historyOf_282 rfl ?_
                                refine w_iincN (ls2 := [some (.ref 47), some (.int (nI a)), some (.int (nI n)), some (.int (nI y)), some (.int (nI (aN σ (t0 σ a) n (fun c => c) k + 1))), some (.int (nI k)), some (.int ((aW σ (t0 σ a) n (fun c => c) k) &&& (nI k))), some (.int ((aO σ (t0 σ a) n (fun c => c) k) &&& ((nI k) ^^^ (-1)))), some (.int (nI (k + 1))), none, some (.int (nI 1)), some (.int (nI r))]) dX8_historyOf_284 rfl rfl ?_
                                refine w_goto dX8_historyOf_287 ?_
                                refine w_weak (ls2 := [some (.ref 47), some (.int (nI a)), some (.int (nI n)), some (.int (nI y)), some (.int (nI (aN σ (t0 σ a) n (fun c => c) k + 1))), some (.int (nI k)), some (.int ((aW σ (t0 σ a) n (fun c => c) k) &&& (nI k))), some (.int ((aO σ (t0 σ a) n (fun c => c) k) &&& ((nI k) ^^^ (-1)))), some (.int (nI (k + 1))), none, none, none]) ⟨rfl, ⟨rfl, ⟨rfl, ⟨rfl, ⟨rfl, ⟨rfl, ⟨rfl, ⟨rfl, ⟨rfl, trivial⟩⟩⟩⟩⟩⟩⟩⟩⟩ ?_
                                rw [show aW σ (t0 σ a) n (fun c => c) k &&& nI k = aW σ (t0 σ a) n (fun c => c) (k + 1) from (aW_y (u := fun c => c) hz).symm]
                                rw [show aO σ (t0 σ a) n (fun c => c) k &&& (nI k ^^^ (-1)) = aO σ (t0 σ a) n (fun c => c) (k + 1) from aO_ny hz]
                                rw [show aN σ (t0 σ a) n (fun c => c) k + 1 = aN σ (t0 σ a) n (fun c => c) (k + 1) from (aN_y (u := fun c => c) hz).symm]
                                rw [show nI k = fst (aX σ (t0 σ a) n (fun c => c) (k + 1)) from fst_k (by omega) hz h236]
                                exact ih24 (k + 1) ρ3 (by omega) (hF3) (by omega)
                            · --case
                              rw [show b2i (hP σ (t0 σ a) (bt k) n r = true) = nI 0 from b2i_f (by rw [er]; exact hz)]
                              refine w_il dX8_historyOf_213 rfl ?_
                              refine w_il dX8_historyOf_215 rfl ?_
                              refine w_ifeqN dX8_historyOf_217 (by decide) (fun _ => ?_) (fun h => absurd h (by decide))
                              refine w_k dX8_historyOf_224 ?_
                              refine w_iaddN dX8_historyOf_225 ?_
                              refine w_is (ls2 := [some (.ref 47), some (.int (nI a)), some (.int (nI n)), some (.int (nI y)), some (.int (nI (aN σ (t0 σ a) n (fun c => c) k))), some (.int (fst (aX σ (t0 σ a) n (fun c => c) k))), some (.int (aW σ (t0 σ a) n (fun c => c) k)), some (.int (aO σ (t0 σ a) n (fun c => c) k)), some (.int (nI k)), none, some (.int (nI 0)), some (.int (nI r))]) dX8_historyOf_226 rfl ?_
                              refine w_il dX8_historyOf_228 rfl ?_
                              refine w_ifeqN dX8_historyOf_230 (by decide) (fun _ => ?_) (fun h => absurd h (by decide))
                              refine w_il dX8_historyOf_244 rfl ?_
                              refine w_is (ls2 := [some (.ref 47), some (.int (nI a)), some (.int (nI n)), some (.int (nI y)), some (.int (nI (aN σ (t0 σ a) n (fun c => c) k))), some (.int (fst (aX σ (t0 σ a) n (fun c => c) k))), some (.int (aW σ (t0 σ a) n (fun c => c) k)), some (.int (aO σ (t0 σ a) n (fun c => c) k)), some (.int (nI k)), none, some (.int (nI 0)), some (.int (nI r))]) dX8_historyOf_246 rfl ?_
                              refine w_il dX8_historyOf_248 rfl ?_
                              refine w_ifeqN dX8_historyOf_250 (by decide) (fun _ => ?_) (fun h => absurd h (by decide))
                              refine w_il dX8_historyOf_261 rfl ?_
                              refine w_is (ls2 := [some (.ref 47), some (.int (nI a)), some (.int (nI n)), some (.int (nI y)), some (.int (nI (aN σ (t0 σ a) n (fun c => c) k))), some (.int (fst (aX σ (t0 σ a) n (fun c => c) k))), some (.int (aW σ (t0 σ a) n (fun c => c) k)), some (.int (aO σ (t0 σ a) n (fun c => c) k)), some (.int (nI k)), none, some (.int (nI 0)), some (.int (nI r))]) dX8_historyOf_263 rfl ?_
                              refine w_il dX8_historyOf_265 rfl ?_
                              refine w_ifeqN dX8_historyOf_267 (by decide) (fun _ => ?_) (fun h => absurd h (by decide))
                              refine w_il dX8_historyOf_280 rfl ?_
                              refine w_is (ls2 := [some (.ref 47), some (.int (nI a)), some (.int (nI n)), some (.int (nI y)), some (.int (nI (aN σ (t0 σ a) n (fun c => c) k))), some (.int (fst (aX σ (t0 σ a) n (fun c => c) k))), some (.int (aW σ (t0 σ a) n (fun c => c) k)), some (.int (aO σ (t0 σ a) n (fun c => c) k)), some (.int (nI k)), none, some (.int (nI 0)), some (.int (nI r))]) dX8_historyOf_282 rfl ?_
                              refine w_iincN (ls2 := [some (.ref 47), some (.int (nI a)), some (.int (nI n)), some (.int (nI y)), some (.int (nI (aN σ (t0 σ a) n (fun c => c) k))), some (.int (fst (aX σ (t0 σ a) n (fun c => c) k))), some (.int (aW σ (t0 σ a) n (fun c => c) k)), some (.int (aO σ (t0 σ a) n (fun c => c) k)), some (.int (nI (k + 1))), none, some (.int (nI 0)), some (.int (nI r))]) dX8_historyOf_284 rfl rfl ?_
                              refine w_goto dX8_historyOf_287 ?_
                              refine w_weak (ls2 := [some (.ref 47), some (.int (nI a)), some (.int (nI n)), some (.int (nI y)), some (.int (nI (aN σ (t0 σ a) n (fun c => c) k))), some (.int (fst (aX σ (t0 σ a) n (fun c => c) k))), some (.int (aW σ (t0 σ a) n (fun c => c) k)), some (.int (aO σ (t0 σ a) n (fun c => c) k)), some (.int (nI (k + 1))), none, none, none]) ⟨rfl, ⟨rfl, ⟨rfl, ⟨rfl, ⟨rfl, ⟨rfl, ⟨rfl, ⟨rfl, ⟨rfl, trivial⟩⟩⟩⟩⟩⟩⟩⟩⟩ ?_
                              rw [show aN σ (t0 σ a) n (fun c => c) k = aN σ (t0 σ a) n (fun c => c) (k + 1) from (aN_n (u := fun c => c) hz).symm]
                              rw [show aX σ (t0 σ a) n (fun c => c) k = aX σ (t0 σ a) n (fun c => c) (k + 1) from (aX_n (u := fun c => c) hz).symm]
                              rw [show aW σ (t0 σ a) n (fun c => c) k = aW σ (t0 σ a) n (fun c => c) (k + 1) from (aW_n (u := fun c => c) hz).symm]
                              rw [show aO σ (t0 σ a) n (fun c => c) k = aO σ (t0 σ a) n (fun c => c) (k + 1) from (aO_n (u := fun c => c) hz).symm]
                              exact ih24 (k + 1) ρ3 (by omega) (hF3) (by omega)
                          · --f
                            refine w_il dX8_historyOf_167 rfl ?_
                            refine w_ifeqB dX8_historyOf_169 (fun h169 => ?_) (fun h169 => ?_)
                            · --t
                              refine w_k dX8_historyOf_204 ?_
                              refine w_is (ls2 := [some (.ref 47), some (.int (nI a)), some (.int (nI n)), some (.int (nI y)), some (.int (nI (aN σ (t0 σ a) n (fun c => c) k))), some (.int (fst (aX σ (t0 σ a) n (fun c => c) k))), some (.int (aW σ (t0 σ a) n (fun c => c) k)), some (.int (aO σ (t0 σ a) n (fun c => c) k)), some (.int (nI k)), none, some (.int (nI 0)), some (.int (nI r))]) dX8_historyOf_205 rfl ?_
                              refine w_iincN (ls2 := [some (.ref 47), some (.int (nI a)), some (.int (nI n)), some (.int (nI y)), some (.int (nI (aN σ (t0 σ a) n (fun c => c) k))), some (.int (fst (aX σ (t0 σ a) n (fun c => c) k))), some (.int (aW σ (t0 σ a) n (fun c => c) k)), some (.int (aO σ (t0 σ a) n (fun c => c) k)), some (.int (nI k)), none, some (.int (nI 0)), some (.int (nI (r + 1)))]) dX8_historyOf_207 rfl rfl ?_
                              refine w_goto dX8_historyOf_210 ?_
                              rw [show nI 0 = b2i (hP σ (t0 σ a) (bt k) n (r + 1) = true) from (b2i_f (hP_n h169)).symm]
                              exact ih160 (r + 1) (by omega) (by omega)
                            · --f
                              refine w_al dX8_historyOf_172 rfl ?_
                              refine w_gr dX8_historyOf_173 fl_X8_65 sh47 rfl ?_
                              refine w_il dX8_historyOf_176 rfl ?_
                              refine w_ialdV (v := (σ.2 66 r)) dX8_historyOf_178 sh66 (by omega) ((MInv.fr hMl1 hF3 (by decide)).2.2.1 66 (by decide) _) ?_
                              refine w_k dX8_historyOf_179 ?_
                              refine w_iceq dX8_historyOf_180 (fun h180 => ?_) (fun h180 => ?_)
                              · --t
                                refine w_k dX8_historyOf_200 ?_
                                refine w_goto dX8_historyOf_201 ?_
                                refine w_is (ls2 := [some (.ref 47), some (.int (nI a)), some (.int (nI n)), some (.int (nI y)), some (.int (nI (aN σ (t0 σ a) n (fun c => c) k))), some (.int (fst (aX σ (t0 σ a) n (fun c => c) k))), some (.int (aW σ (t0 σ a) n (fun c => c) k)), some (.int (aO σ (t0 σ a) n (fun c => c) k)), some (.int (nI k)), none, some (.int (nI 1)), some (.int (nI r))]) dX8_historyOf_205 rfl ?_
                                refine w_iincN (ls2 := [some (.ref 47), some (.int (nI a)), some (.int (nI n)), some (.int (nI y)), some (.int (nI (aN σ (t0 σ a) n (fun c => c) k))), some (.int (fst (aX σ (t0 σ a) n (fun c => c) k))), some (.int (aW σ (t0 σ a) n (fun c => c) k)), some (.int (aO σ (t0 σ a) n (fun c => c) k)), some (.int (nI k)), none, some (.int (nI 1)), some (.int (nI (r + 1)))]) dX8_historyOf_207 rfl rfl ?_
                                refine w_goto dX8_historyOf_210 ?_
                                rw [show nI 1 = b2i (hP σ (t0 σ a) (bt k) n (r + 1) = true) from (b2i_t (hP_y h169 (Or.inl h180))).symm]
                                exact ih160 (r + 1) (by omega) (by omega)
                              · --f
                                refine w_al dX8_historyOf_183 rfl ?_
                                refine w_gr dX8_historyOf_184 fl_X8_65 sh47 rfl ?_
                                refine w_il dX8_historyOf_187 rfl ?_
                                refine w_ialdV (v := (σ.2 66 r)) dX8_historyOf_189 sh66 (by omega) ((MInv.fr hMl1 hF3 (by decide)).2.2.1 66 (by decide) _) ?_
                                refine w_al dX8_historyOf_190 rfl ?_
                                refine w_gr dX8_historyOf_191 fl_X8_68 sh47 rfl ?_
                                refine w_il dX8_historyOf_194 rfl ?_
                                refine w_ialdV (v := (nI (hF σ (t0 σ a) (bt k) r n))) dX8_historyOf_196 sh67 (by omega) (by rw [hH3 r (by omega), show d = n by omega]) ?_
                                refine w_icne dX8_historyOf_197 (fun h197 => ?_) (fun h197 => ?_)
                                · --t
                                  refine w_k dX8_historyOf_204 ?_
                                  refine w_is (ls2 := [some (.ref 47), some (.int (nI a)), some (.int (nI n)), some (.int (nI y)), some (.int (nI (aN σ (t0 σ a) n (fun c => c) k))), some (.int (fst (aX σ (t0 σ a) n (fun c => c) k))), some (.int (aW σ (t0 σ a) n (fun c => c) k)), some (.int (aO σ (t0 σ a) n (fun c => c) k)), some (.int (nI k)), none, some (.int (nI 0)), some (.int (nI r))]) dX8_historyOf_205 rfl ?_
                                  refine w_iincN (ls2 := [some (.ref 47), some (.int (nI a)), some (.int (nI n)), some (.int (nI y)), some (.int (nI (aN σ (t0 σ a) n (fun c => c) k))), some (.int (fst (aX σ (t0 σ a) n (fun c => c) k))), some (.int (aW σ (t0 σ a) n (fun c => c) k)), some (.int (aO σ (t0 σ a) n (fun c => c) k)), some (.int (nI k)), none, some (.int (nI 0)), some (.int (nI (r + 1)))]) dX8_historyOf_207 rfl rfl ?_
                                  refine w_goto dX8_historyOf_210 ?_
                                  rw [show nI 0 = b2i (hP σ (t0 σ a) (bt k) n (r + 1) = true) from (b2i_f (hP_r (fun q => q.elim h180 h197))).symm]
                                  exact ih160 (r + 1) (by omega) (by omega)
                                · --f
                                  refine w_k dX8_historyOf_200 ?_
                                  refine w_goto dX8_historyOf_201 ?_
                                  refine w_is (ls2 := [some (.ref 47), some (.int (nI a)), some (.int (nI n)), some (.int (nI y)), some (.int (nI (aN σ (t0 σ a) n (fun c => c) k))), some (.int (fst (aX σ (t0 σ a) n (fun c => c) k))), some (.int (aW σ (t0 σ a) n (fun c => c) k)), some (.int (aO σ (t0 σ a) n (fun c => c) k)), some (.int (nI k)), none, some (.int (nI 1)), some (.int (nI r))]) dX8_historyOf_205 rfl ?_
                                  refine w_iincN (ls2 := [some (.ref 47), some (.int (nI a)), some (.int (nI n)), some (.int (nI y)), some (.int (nI (aN σ (t0 σ a) n (fun c => c) k))), some (.int (fst (aX σ (t0 σ a) n (fun c => c) k))), some (.int (aW σ (t0 σ a) n (fun c => c) k)), some (.int (aO σ (t0 σ a) n (fun c => c) k)), some (.int (nI k)), none, some (.int (nI 1)), some (.int (nI (r + 1)))]) dX8_historyOf_207 rfl rfl ?_
                                  refine w_goto dX8_historyOf_210 ?_
                                  rw [show nI 1 = b2i (hP σ (t0 σ a) (bt k) n (r + 1) = true) from (b2i_t (hP_y h169 (Or.inr h197))).symm]
                                  exact ih160 (r + 1) (by omega) (by omega)
                      refine w_weak (ls2 := [some (.ref 47), some (.int (nI a)), some (.int (nI n)), some (.int (nI y)), some (.int (nI (aN σ (t0 σ a) n (fun c => c) k))), some (.int (fst (aX σ (t0 σ a) n (fun c => c) k))), some (.int (aW σ (t0 σ a) n (fun c => c) k)), some (.int (aO σ (t0 σ a) n (fun c => c) k)), some (.int (nI k)), none, some (.int (nI 1)), some (.int (nI 0))]) ⟨rfl, ⟨rfl, ⟨rfl, ⟨rfl, ⟨rfl, ⟨rfl, ⟨rfl, ⟨rfl, ⟨rfl, ⟨rfl, ⟨rfl, trivial⟩⟩⟩⟩⟩⟩⟩⟩⟩⟩⟩ ?_
                      rw [show nI 1 = b2i (hP σ (t0 σ a) (bt k) n 0 = true) from (b2i_t rfl).symm]
                      exact L160 _ 0 (by omega) (Nat.lt_succ_self _)
                    · --f
                      refine w_il dX8_historyOf_88 rfl ?_
                      refine w_il dX8_historyOf_90 rfl ?_
                      refine w_il dX8_historyOf_92 rfl ?_
                      refine w_ishrN dX8_historyOf_94 (by omega) (by omega) ?_
                      refine w_k dX8_historyOf_95 ?_
                      refine w_iand1 dX8_historyOf_96 ?_
                      refine w_iaddN dX8_historyOf_97 ?_
                      rw [show hT (t0 σ a) (bt k) d + k / 2 ^ d % 2 = hT (t0 σ a) (bt k) (d + 1) from rfl]
                      refine w_is (ls2 := [some (.ref 47), some (.int (nI a)), some (.int (nI n)), some (.int (nI y)), some (.int (nI (aN σ (t0 σ a) n (fun c => c) k))), some (.int (fst (aX σ (t0 σ a) n (fun c => c) k))), some (.int (aW σ (t0 σ a) n (fun c => c) k)), some (.int (aO σ (t0 σ a) n (fun c => c) k)), some (.int (nI k)), some (.int (nI (hT (t0 σ a) (bt k) (d + 1)))), some (.int (nI d)), none]) dX8_historyOf_98 rfl ?_
                      refine w_k dX8_historyOf_100 ?_
                      refine w_is (ls2 := [some (.ref 47), some (.int (nI a)), some (.int (nI n)), some (.int (nI y)), some (.int (nI (aN σ (t0 σ a) n (fun c => c) k))), some (.int (fst (aX σ (t0 σ a) n (fun c => c) k))), some (.int (aW σ (t0 σ a) n (fun c => c) k)), some (.int (aO σ (t0 σ a) n (fun c => c) k)), some (.int (nI k)), some (.int (nI (hT (t0 σ a) (bt k) (d + 1)))), some (.int (nI d)), some (.int (nI 0))]) dX8_historyOf_101 rfl ?_
                      have L103 : ∀ (n103 : Nat) (r : Nat) (ρ4 : Rho), (r ≤ 8) → (Fr [67] ρl1 ρ4) → (∀ q, q < 8 → ρ4.1 67 q = nI (if q < r then hF σ (t0 σ a) (bt k) q (d + 1) else hF σ (t0 σ a) (bt k) q d)) → (8 - r) < n103 → MW mX8_historyOf 5 103 [some (.ref 47), some (.int (nI a)), some (.int (nI n)), some (.int (nI y)), some (.int (nI (aN σ (t0 σ a) n (fun c => c) k))), some (.int (fst (aX σ (t0 σ a) n (fun c => c) k))), some (.int (aW σ (t0 σ a) n (fun c => c) k)), some (.int (aO σ (t0 σ a) n (fun c => c) k)), some (.int (nI k)), some (.int (nI (hT (t0 σ a) (bt k) (d + 1)))), some (.int (nI d)), some (.int (nI r))] [] ρ4 Q := by
                        intro n103
                        induction n103 with
                        | zero =>
                          intro r ρ4 hr hF4 hH4 hm103
                          exact absurd hm103 (Nat.not_lt_zero _)
                        | succ n103 ih103 =>
                          intro r ρ4 hr hF4 hH4 hm103
                          have wT := hT_le (T := t0 σ a) (β := bt k) (t0_lt hM.1 a) (bt_le k) (d + 1)
                          have wq := Th_le σ ((r + hT (t0 σ a) (bt k) (d + 1)) % 8)
                          refine w_il dX8_historyOf_103 rfl ?_
                          refine w_k dX8_historyOf_105 ?_
                          refine w_icgeN dX8_historyOf_107 (by omega) (by omega) (fun h107 => ?_) (fun h107 => ?_)
                          · --t
                            refine w_iincN (ls2 := [some (.ref 47), some (.int (nI a)), some (.int (nI n)), some (.int (nI y)), some (.int (nI (aN σ (t0 σ a) n (fun c => c) k))), some (.int (fst (aX σ (t0 σ a) n (fun c => c) k))), some (.int (aW σ (t0 σ a) n (fun c => c) k)), some (.int (aO σ (t0 σ a) n (fun c => c) k)), some (.int (nI k)), some (.int (nI (hT (t0 σ a) (bt k) (d + 1)))), some (.int (nI (d + 1))), some (.int (nI r))]) dX8_historyOf_148 rfl rfl ?_
                            refine w_goto dX8_historyOf_151 ?_
                            refine w_weak (ls2 := [some (.ref 47), some (.int (nI a)), some (.int (nI n)), some (.int (nI y)), some (.int (nI (aN σ (t0 σ a) n (fun c => c) k))), some (.int (fst (aX σ (t0 σ a) n (fun c => c) k))), some (.int (aW σ (t0 σ a) n (fun c => c) k)), some (.int (aO σ (t0 σ a) n (fun c => c) k)), some (.int (nI k)), some (.int (nI (hT (t0 σ a) (bt k) (d + 1)))), some (.int (nI (d + 1))), none]) ⟨rfl, ⟨rfl, ⟨rfl, ⟨rfl, ⟨rfl, ⟨rfl, ⟨rfl, ⟨rfl, ⟨rfl, ⟨rfl, ⟨rfl, trivial⟩⟩⟩⟩⟩⟩⟩⟩⟩⟩⟩ ?_
                            exact ih82 (d + 1) ρ4 (by omega) (hF4) (fun q hq => by rw [hH4 q hq, if_pos (by omega)]) (by omega)
                          · --f
                            refine w_al dX8_historyOf_110 rfl ?_
                            refine w_gr dX8_historyOf_111 fl_X8_68 sh47 rfl ?_
                            refine w_il dX8_historyOf_114 rfl ?_
                            refine w_dup2 dX8_historyOf_116 rfl rfl ?_
                            refine w_ialdV (v := (nI (hF σ (t0 σ a) (bt k) r d))) dX8_historyOf_117 sh67 (by omega) (by rw [hH4 r (by omega), if_neg (by omega)]) ?_
                            refine w_al dX8_historyOf_118 rfl ?_
                            refine w_gr dX8_historyOf_119 fl_X8_13 sh47 rfl ?_
                            refine w_il dX8_historyOf_122 rfl ?_
                            refine w_il dX8_historyOf_124 rfl ?_
                            refine w_iaddN dX8_historyOf_126 ?_
                            refine w_k dX8_historyOf_127 ?_
                            refine w_iremN dX8_historyOf_129 (by omega) (by omega) (by omega) ?_
                            refine w_ialdV (v := (nI (Th σ ((r + (hT (t0 σ a) (bt k) (d + 1))) % 8)))) dX8_historyOf_130 sh49 (by omega) ((Laid.fr hDl1 hF4 (by decide)).1.1 _ (by omega)) ?_
                            refine w_k dX8_historyOf_131 ?_
                            refine w_icneN dX8_historyOf_132 (by omega) (by omega) (fun h132 => ?_) (fun h132 => ?_)
                            · --t
                              refine w_k dX8_historyOf_139 ?_
                              refine w_iaddN dX8_historyOf_140 ?_
                              refine w_iastN dX8_historyOf_141 sh67 (by omega) ?_
                              refine w_iincN (ls2 := [some (.ref 47), some (.int (nI a)), some (.int (nI n)), some (.int (nI y)), some (.int (nI (aN σ (t0 σ a) n (fun c => c) k))), some (.int (fst (aX σ (t0 σ a) n (fun c => c) k))), some (.int (aW σ (t0 σ a) n (fun c => c) k)), some (.int (aO σ (t0 σ a) n (fun c => c) k)), some (.int (nI k)), some (.int (nI (hT (t0 σ a) (bt k) (d + 1)))), some (.int (nI d)), some (.int (nI (r + 1)))]) dX8_historyOf_142 rfl rfl ?_
                              refine w_goto dX8_historyOf_145 ?_
                              exact ih103 (r + 1) (wI ρ4 67 r (nI (hF σ (t0 σ a) (bt k) r d))) (by omega) (Fr.only hF4 only_wI (by decide)) (upd1 (f := fun q => nI (if q < r then hF σ (t0 σ a) (bt k) q (d + 1) else hF σ (t0 σ a) (bt k) q d)) (g := fun q => nI (if q < r + 1 then hF σ (t0 σ a) (bt k) q (d + 1) else hF σ (t0 σ a) (bt k) q d)) hH4 (by rw [if_pos (by omega)]; show _ = nI (hF σ (t0 σ a) (bt k) r d + isF σ r (hT (t0 σ a) (bt k) (d + 1))); rw [isF_n h132, Nat.add_zero]) (fun q hq => by simp only [show (q < r + 1) = (q < r) by simp; omega])) (by omega)
                            · --f
                              refine w_k dX8_historyOf_135 ?_
                              refine w_goto dX8_historyOf_136 ?_
                              refine w_iaddN dX8_historyOf_140 ?_
                              refine w_iastN dX8_historyOf_141 sh67 (by omega) ?_
                              refine w_iincN (ls2 := [some (.ref 47), some (.int (nI a)), some (.int (nI n)), some (.int (nI y)), some (.int (nI (aN σ (t0 σ a) n (fun c => c) k))), some (.int (fst (aX σ (t0 σ a) n (fun c => c) k))), some (.int (aW σ (t0 σ a) n (fun c => c) k)), some (.int (aO σ (t0 σ a) n (fun c => c) k)), some (.int (nI k)), some (.int (nI (hT (t0 σ a) (bt k) (d + 1)))), some (.int (nI d)), some (.int (nI (r + 1)))]) dX8_historyOf_142 rfl rfl ?_
                              refine w_goto dX8_historyOf_145 ?_
                              exact ih103 (r + 1) (wI ρ4 67 r (nI (hF σ (t0 σ a) (bt k) r d + 1))) (by omega) (Fr.only hF4 only_wI (by decide)) (upd1 (f := fun q => nI (if q < r then hF σ (t0 σ a) (bt k) q (d + 1) else hF σ (t0 σ a) (bt k) q d)) (g := fun q => nI (if q < r + 1 then hF σ (t0 σ a) (bt k) q (d + 1) else hF σ (t0 σ a) (bt k) q d)) hH4 (by rw [if_pos (by omega)]; show _ = nI (hF σ (t0 σ a) (bt k) r d + isF σ r (hT (t0 σ a) (bt k) (d + 1))); rw [isF_y h132]) (fun q hq => by simp only [show (q < r + 1) = (q < r) by simp; omega])) (by omega)
                      exact L103 _ 0 ρ3 (by omega) (hF3) (fun q hq => by rw [hH3 q hq, if_neg (by omega)]) (Nat.lt_succ_self _)
                exact L82 _ 0 ρ2 (by omega) (hF2) (fun r hr => hZ r (by omega)) (Nat.lt_succ_self _)
              · --f
                refine w_al dX8_historyOf_65 rfl ?_
                refine w_gr dX8_historyOf_66 fl_X8_68 sh47 rfl ?_
                refine w_il dX8_historyOf_69 rfl ?_
                refine w_k dX8_historyOf_71 ?_
                refine w_iastN dX8_historyOf_72 sh67 (by omega) ?_
                refine w_iincN (ls2 := [some (.ref 47), some (.int (nI a)), some (.int (nI n)), some (.int (nI y)), some (.int (nI (aN σ (t0 σ a) n (fun c => c) k))), some (.int (fst (aX σ (t0 σ a) n (fun c => c) k))), some (.int (aW σ (t0 σ a) n (fun c => c) k)), some (.int (aO σ (t0 σ a) n (fun c => c) k)), some (.int (nI k)), some (.int (nI (t0 σ a))), some (.int (nI (q + 1))), none]) dX8_historyOf_73 rfl rfl ?_
                refine w_goto dX8_historyOf_76 ?_
                exact ih58 (q + 1) (wI ρ2 67 q (nI 0)) (by omega) (Fr.only hF2 only_wI (by decide)) (ext1 (f := fun _ => nI 0) hZ rfl) (by omega)
          exact L58 _ 0 ρ1 (by omega) (hF1) (fun i hi => absurd hi (Nat.not_lt_zero _)) (Nat.lt_succ_self _)
        refine w_ifneN dX8_historyOf_33 (by omega) (fun h33 => ?_) (fun h33 => ?_)
        · --t
          refine w_al dX8_historyOf_45 rfl ?_
          refine w_gr dX8_historyOf_46 fl_X8_40 sh47 rfl ?_
          refine w_il dX8_historyOf_49 rfl ?_
          refine w_k dX8_historyOf_50 ?_
          refine w_isubN dX8_historyOf_51 (by omega) ?_
          refine w_ialdV (v := (nI (Tn σ (a - 1)))) dX8_historyOf_52 sh58 (by omega) ((Laid.fr hDl1 hF1 (by decide)).2 _ (by omega)) ?_
          rw [show Tn σ (a - 1) = t0 σ a from (if_neg h33).symm]
          exact J33
        · --f
          refine w_al dX8_historyOf_36 rfl ?_
          refine w_gr dX8_historyOf_37 fl_X8_37 sh47 rfl ?_
          refine w_k dX8_historyOf_40 ?_
          refine w_ialdV (v := (nI (σ.1 57 2))) dX8_historyOf_41 sh57 (by omega) ((MInv.fr hMl1 hF1 (by decide)).2.1 57 (by decide) _) ?_
          refine w_goto dX8_historyOf_42 ?_
          rw [show σ.1 57 2 = t0 σ a from (if_pos h33).symm]
          exact J33
  rw [show nI (2 ^ n - 1) = aW σ (t0 σ a) n (fun c => c) 0 from Int32.and_neg_one.symm]
  exact L24 _ 0 ρl1 (by omega) (Fr.rf) (Nat.lt_succ_self _)

set_option maxHeartbeats 4000000 in
theorem c_X8_history (ρ : Rho) (σ : Sg) (d : Int32) (c : Int32) (w : Int32) (hM : MInv σ ρ) : CallOK 6 mX8_history [.ref 47, .int d, .int c, .int w] ρ (fun r ρ2 => ∃ v, r = some v ∧ (v = .int (r_history σ d c w) ∧ MInv (σ) ρ2 ∧ EqC ρ ρ2)) := by
  refine callOK_of 0 (by decide +kernel) rfl (fun _ => Nat.le_of_ble_eq_true rfl) (ls := [some (.ref 47), some (.int d), some (.int c), some (.int w)]) rfl ?_
  generalize hQ : (fun r ρ2 => ∃ v, r = some v ∧ (v = .int (r_history σ d c w) ∧ MInv (σ) ρ2 ∧ EqC ρ ρ2) : Option Value → Rho → Prop) = Q
  refine w_il dX8_history_0 rfl ?_
  refine w_cSf dX8_history_1 (sl_X8_148 _ rfl) (by decide) (c_X8_isDay ρ d) rfl rfl (Nat.le_of_ble_eq_true rfl) ?_
  refine w_ifeqB dX8_history_4 (fun h4 => ?_) (fun h4 => ?_)
  · --t
    refine w_k dX8_history_44 ?_
    refine w_iret dX8_history_46 rfl ?_
    rw [← hQ]
    exact ⟨_, rfl, by rw [r_history, if_neg (fun z => h4 z.1)], hM, EqC.rf⟩
  · --f
    obtain ⟨a, ha, rfl⟩ := inR_nI h4 (by decide)
    refine w_il dX8_history_7 rfl ?_
    refine w_k dX8_history_8 ?_
    refine w_k dX8_history_9 ?_
    refine w_cSf dX8_history_11 (sl_X8_89 _ rfl) (by decide) (c_X8_in ρ c (nI 0) (nI 12)) rfl rfl (Nat.le_of_ble_eq_true rfl) ?_
    refine w_ifeqB dX8_history_14 (fun h14 => ?_) (fun h14 => ?_)
    · --t
      refine w_k dX8_history_44 ?_
      refine w_iret dX8_history_46 rfl ?_
      rw [← hQ]
      exact ⟨_, rfl, by rw [r_history, if_neg (fun z => h14 z.2.1)], hM, EqC.rf⟩
    · --f
      obtain ⟨n, hn, rfl⟩ := inR_nI h14 (by decide)
      refine w_il dX8_history_17 rfl ?_
      refine w_il dX8_history_18 rfl ?_
      refine w_iaddN dX8_history_19 ?_
      refine w_k dX8_history_20 ?_
      refine w_icgtN dX8_history_22 (by omega) (by omega) (fun h22 => ?_) (fun h22 => ?_)
      · --t
        refine w_k dX8_history_44 ?_
        refine w_iret dX8_history_46 rfl ?_
        rw [← hQ]
        exact ⟨_, rfl, by rw [r_history, if_neg (fun z => absurd (show a + n ≤ 100 by have q := z.2.2.1; rwa [nv_nI (a := a) (by omega), nv_nI (a := n) (by omega)] at q) (by omega))], hM, EqC.rf⟩
      · --f
        refine w_il dX8_history_25 rfl ?_
        refine w_k dX8_history_26 ?_
        refine w_k dX8_history_27 ?_
        refine w_cSf dX8_history_28 (sl_X8_89 _ rfl) (by decide) (c_X8_in ρ w (nI 0) (nI 3)) rfl rfl (Nat.le_of_ble_eq_true rfl) ?_
        refine w_ifeqB dX8_history_31 (fun h31 => ?_) (fun h31 => ?_)
        · --t
          refine w_k dX8_history_44 ?_
          refine w_iret dX8_history_46 rfl ?_
          rw [← hQ]
          exact ⟨_, rfl, by rw [r_history, if_neg (fun z => h31 z.2.2.2)], hM, EqC.rf⟩
        · --f
          obtain ⟨v, hv, rfl⟩ := inR_nI h31 (by decide)
          refine w_al dX8_history_34 rfl ?_
          refine w_il dX8_history_35 rfl ?_
          refine w_il dX8_history_36 rfl ?_
          refine w_il dX8_history_37 rfl ?_
          refine w_cVr dX8_history_38 (vl_X8_225 _ rfl) sh47 (by decide) (c_X8_historyOf ρ σ a n v hM (by omega) (by omega) (by omega)) rfl rfl (Nat.le_of_ble_eq_true rfl) (fun vh1 ρh1 hh1 => ?_)
          obtain ⟨rfl, hMh1, hEh1⟩ := hh1
          refine w_goto dX8_history_41 ?_
          refine w_iret dX8_history_46 rfl ?_
          rw [← hQ]
          exact ⟨_, rfl, by rw [r_history, if_pos ⟨h4, h14, by rw [nv_nI (a := a) (by omega), nv_nI (a := n) (by omega)]; omega, h31⟩, nv_nI (a := a) (by omega), nv_nI (a := n) (by omega), nv_nI (a := v) (by omega)], hMh1, (EqC.tr EqC.rf hEh1)⟩
