def prv (J : Nat → Nat → Nat) : Nat → Int32
  | 0 => -1
  | t + 1 => nI (brw J t (usd J t))
set_option maxHeartbeats 4000000 in
theorem c_X8_ones (ρ : Rho) (u : Nat) (hu : u < 2 ^ 31) : CallOK 0 mX8_ones [.int (nI u)] ρ (fun r ρ2 => r = some (.int (nI (pop u))) ∧ ρ2 = ρ) := by
  refine callOK_of 2 (by decide +kernel) rfl (fun _ => Nat.le_of_ble_eq_true rfl) (ls := [some (.int (nI u)), none, none]) rfl ?_
  generalize hQ : (fun r ρ2 => r = some (.int (nI (pop u))) ∧ ρ2 = ρ : Option Value → Rho → Prop) = Q
  refine w_k dX8_ones_0 ?_
  refine w_is (ls2 := [some (.int (nI u)), some (.int (nI 0)), none]) dX8_ones_1 rfl ?_
  refine w_k dX8_ones_2 ?_
  refine w_is (ls2 := [some (.int (nI u)), some (.int (nI 0)), some (.int (nI 0))]) dX8_ones_3 rfl ?_
  have L4 : ∀ (n4 : Nat) (k : Nat), (k ≤ 12) → (12 - k) < n4 → MW mX8_ones 0 4 [some (.int (nI u)), some (.int (nI (sumN (fun i => u / 2 ^ i % 2) k))), some (.int (nI k))] [] ρ Q := by
    intro n4
    induction n4 with
    | zero =>
      intro k hk hm4
      exact absurd hm4 (Nat.not_lt_zero _)
    | succ n4 ih4 =>
      intro k hk hm4
      refine w_il dX8_ones_4 rfl ?_
      refine w_k dX8_ones_5 ?_
      refine w_icgeN dX8_ones_7 (by omega) (by omega) (fun h7 => ?_) (fun h7 => ?_)
      · --t
        refine w_il dX8_ones_24 rfl ?_
        refine w_iret dX8_ones_25 rfl ?_
        rw [← hQ]
        exact ⟨by rw [show k = 12 by omega]; rfl, rfl⟩
      · --f
        refine w_il dX8_ones_10 rfl ?_
        refine w_il dX8_ones_11 rfl ?_
        refine w_il dX8_ones_12 rfl ?_
        refine w_ishrN dX8_ones_13 (by omega) (by omega) ?_
        refine w_k dX8_ones_14 ?_
        refine w_iand1 dX8_ones_15 ?_
        refine w_iaddN dX8_ones_16 ?_
        refine w_is (ls2 := [some (.int (nI u)), some (.int (nI (sumN (fun i => u / 2 ^ i % 2) k + (u / 2 ^ k % 2)))), some (.int (nI k))]) dX8_ones_17 rfl ?_
        refine w_iincN (ls2 := [some (.int (nI u)), some (.int (nI (sumN (fun i => u / 2 ^ i % 2) k + (u / 2 ^ k % 2)))), some (.int (nI (k + 1)))]) dX8_ones_18 rfl rfl ?_
        refine w_goto dX8_ones_21 ?_
        exact ih4 (k + 1) (by omega) (by omega)
  exact L4 _ 0 (by omega) (Nat.lt_succ_self _)

set_option maxHeartbeats 4000000 in
theorem c_X8_isIn (ρ : Rho) (u k : Nat) (hu : u < 2 ^ 31) (hk : k < 31) : CallOK 0 mX8_isIn [.int (nI u), .int (nI k)] ρ (fun r ρ2 => r = some (.int (b2i (u / 2 ^ k % 2 = 1))) ∧ ρ2 = ρ) := by
  refine callOK_of 0 (by decide +kernel) rfl (fun _ => Nat.le_of_ble_eq_true rfl) (ls := [some (.int (nI u)), some (.int (nI k))]) rfl ?_
  generalize hQ : (fun r ρ2 => r = some (.int (b2i (u / 2 ^ k % 2 = 1))) ∧ ρ2 = ρ : Option Value → Rho → Prop) = Q
  have w1 : u / 2 ^ k % 2 < 2 := Nat.mod_lt _ (by decide)
  refine w_il dX8_isIn_0 rfl ?_
  refine w_il dX8_isIn_1 rfl ?_
  refine w_ishrN dX8_isIn_2 (by omega) (by omega) ?_
  refine w_k dX8_isIn_3 ?_
  refine w_iand1 dX8_isIn_4 ?_
  refine w_k dX8_isIn_5 ?_
  refine w_icneN dX8_isIn_6 (by omega) (by omega) (fun h6 => ?_) (fun h6 => ?_)
  · --t
    refine w_k dX8_isIn_13 ?_
    refine w_zret dX8_isIn_14 rfl rfl ?_
    rw [← hQ]
    exact ⟨congrArg (fun z => some (Value.int z)) (b2i_f h6).symm, rfl⟩
  · --f
    refine w_k dX8_isIn_9 ?_
    refine w_goto dX8_isIn_10 ?_
    refine w_zret dX8_isIn_14 rfl rfl ?_
    rw [← hQ]
    exact ⟨congrArg (fun z => some (Value.int z)) (b2i_t h6).symm, rfl⟩

theorem bof_next {J : Nat → Nat → Nat} {ρ1 : Rho} {i k : Nat} (hi : i < 256) (h0 : i = 0 → k = 0) (h8 : i ≠ 0 → k = 8) (hM1 : ∀ v, 256 - i ≤ v → v < 256 → ρ1.1 65 v = nI (mjA J (i - 1) v)) : ∀ v, 256 - (i + 1) ≤ v → v < 256 → (wI ρ1 65 (255 - i) (nI (bst J (mjA J (i - 1)) (255 - i) k))).1 65 v = nI (mjA J (i + 1 - 1) v) := fun v h1 h2 => by
  by_cases z : i = 0
  · subst z
    rw [show v = 255 by omega, rI_eq, h0 rfl]; rfl
  · obtain ⟨q, rfl⟩ : ∃ q, i = q + 1 := ⟨i - 1, by omega⟩
    rw [show q + 1 + 1 - 1 = q + 1 by omega]
    by_cases e : v = 255 - (q + 1)
    · subst e; rw [rI_eq, h8 (by omega), show q + 1 - 1 = q by omega, show 255 - (q + 1) = 254 - q by omega, mjA_eq]
    · rw [rI_ne (fun y => e y.2), mjA_ne (by omega)]; exact hM1 v (by omega) h2
theorem neg1_lt {n : Nat} (h : n < 2 ^ 31) : (-1 : Int32) < nI n := by
  rw [Int32.lt_iff_toInt_lt, nI_toInt h]
  have : (-1 : Int32).toInt = -1 := by decide
  rw [this]; omega
set_option maxHeartbeats 4000000 in
theorem c_X8_bestOf (ρ : Rho) (σ : Sg) (w : Int32) (a b : Nat) (hM : MInv σ ρ) (hw : w = -1 ∨ ∃ x, x < 8 ∧ w = nI x) (hab : a ≤ b) (hb : b < 100) : CallOK 6 mX8_bestOf [.ref 47, .int w, .int (nI a), .int (nI b)] ρ (fun r ρ2 => ∃ v, r = some v ∧ (v = .int (nI (v_best (fun u q => jyN σ u q a (b + 1 - a)) w)) ∧ MInv σ ρ2 ∧ EqC ρ ρ2)) := by
  refine callOK_of 5 (by decide +kernel) rfl (fun _ => Nat.le_of_ble_eq_true rfl) (ls := [some (.ref 47), some (.int w), some (.int (nI a)), some (.int (nI b)), none, none, none, none, none]) rfl ?_
  generalize hQ : (fun r ρ2 => ∃ v, r = some v ∧ (v = .int (nI (v_best (fun u q => jyN σ u q a (b + 1 - a)) w)) ∧ MInv σ ρ2 ∧ EqC ρ ρ2) : Option Value → Rho → Prop) = Q
  have hb9 : ∀ t q, (fun u q => jyN σ u q a (b + 1 - a)) t q ≤ 900 := fun t q => jyN_b hM.1 t q a (b + 1 - a) (by omega)
  refine w_al dX8_bestOf_0 rfl ?_
  refine w_il dX8_bestOf_1 rfl ?_
  refine w_il dX8_bestOf_2 rfl ?_
  refine w_cVu dX8_bestOf_3 (vl_X8_210 _ rfl) sh47 (by decide) (c_X8_laysJoy ρ σ a b hM (by omega) (by omega)) rfl rfl (Nat.le_of_ble_eq_true rfl) (fun ρq hq9 => ?_)
  obtain ⟨hMq, hEq, hDq, hJ⟩ := hq9
  refine w_k dX8_bestOf_6 ?_
  refine w_is (ls2 := [some (.ref 47), some (.int w), some (.int (nI a)), some (.int (nI b)), some (.int (nI 255)), none, none, none, none]) dX8_bestOf_9 rfl ?_
  have L11 : ∀ (n11 : Nat) (i : Nat) (ρ1 : Rho), (i ≤ 256) → (Fr [65] ρq ρ1) → (∀ v, 256 - i ≤ v → v < 256 → ρ1.1 65 v = nI (mjA (fun u q => jyN σ u q a (b + 1 - a)) (i - 1) v)) → (256 - i) < n11 → MW mX8_bestOf 6 11 [some (.ref 47), some (.int w), some (.int (nI a)), some (.int (nI b)), some (.int (nI (256 - i) + (-1))), none, none, none, none] [] ρ1 Q := by
    intro n11
    induction n11 with
    | zero =>
      intro i ρ1 hi hF1 hM1 hm11
      exact absurd hm11 (Nat.not_lt_zero _)
    | succ n11 ih11 =>
      intro i ρ1 hi hF1 hM1 hm11
      refine w_il dX8_bestOf_11 rfl ?_
      refine w_iflt dX8_bestOf_13 (fun h13 => ?_) (fun h13 => ?_)
      · --t
        have e256 : i = 256 := Decidable.byContradiction fun c => by
          rw [show nI (256 - i) + (-1) = nI (255 - i) from by rw [show 256 - i = (255 - i) + 1 by omega, pk_m1]] at h13
          exact absurd h13 (nI_pos (by omega))
        have hMf : ∀ v, v < 256 → ρ1.1 65 v = nI (mj (fun u q => jyN σ u q a (b + 1 - a)) v) := fun v hv => by have := hM1 v (by omega) hv; rwa [e256] at this
        refine w_il dX8_bestOf_122 rfl ?_
        refine w_k dX8_bestOf_123 ?_
        refine w_icne dX8_bestOf_124 (fun h124 => ?_) (fun h124 => ?_)
        · --t
          obtain ⟨x, hx, rfl⟩ := hw.resolve_left h124
          refine w_k dX8_bestOf_134 ?_
          refine w_is (ls2 := [some (.ref 47), some (.int (nI x)), some (.int (nI a)), some (.int (nI b)), some (.int (nI 0)), none, none, none, none]) dX8_bestOf_135 rfl ?_
          refine w_k dX8_bestOf_137 ?_
          refine w_is (ls2 := [some (.ref 47), some (.int (nI x)), some (.int (nI a)), some (.int (nI b)), some (.int (nI 0)), some (.int (-1)), none, none, none]) dX8_bestOf_138 rfl ?_
          refine w_k dX8_bestOf_140 ?_
          refine w_is (ls2 := [some (.ref 47), some (.int (nI x)), some (.int (nI a)), some (.int (nI b)), some (.int (nI 0)), some (.int (-1)), some (.int (nI 0)), none, none]) dX8_bestOf_141 rfl ?_
          have L143 : ∀ (n143 : Nat) (t : Nat), (t ≤ x + 1) → (9 - t) < n143 → MW mX8_bestOf 6 143 [some (.ref 47), some (.int (nI x)), some (.int (nI a)), some (.int (nI b)), some (.int (nI (usd (fun u q => jyN σ u q a (b + 1 - a)) t))), some (.int (prv (fun u q => jyN σ u q a (b + 1 - a)) t)), some (.int (nI t)), none, none] [] ρ1 Q := by
            intro n143
            induction n143 with
            | zero =>
              intro t ht hm143
              exact absurd hm143 (Nat.not_lt_zero _)
            | succ n143 ih143 =>
              intro t ht hm143
              refine w_il dX8_bestOf_143 rfl ?_
              refine w_il dX8_bestOf_145 rfl ?_
              refine w_icgtN dX8_bestOf_146 (by omega) (by omega) (fun h146 => ?_) (fun h146 => ?_)
              · --t
                refine w_il dX8_bestOf_243 rfl ?_
                obtain rfl : t = x + 1 := by omega
                refine w_iret dX8_bestOf_245 rfl ?_
                rw [← hQ]
                exact ⟨_, rfl, by rw [v_best, if_neg h124, nv_nI (a := x) (by omega)]; rfl, (MInv.fr hMq hF1 (by decide)), (EqC.tr (EqC.tr EqC.rf hEq) (Fr.eqC hF1 (by decide)))⟩
              · --f
                have wu := usd_br (fun u q => jyN σ u q a (b + 1 - a)) (t := t) (by omega)
                have wv := (usd_ok (fun u q => jyN σ u q a (b + 1 - a)) t (by omega)).1
                refine w_k dX8_bestOf_149 ?_
                refine w_is (ls2 := [some (.ref 47), some (.int (nI x)), some (.int (nI a)), some (.int (nI b)), some (.int (nI (usd (fun u q => jyN σ u q a (b + 1 - a)) t))), some (.int (-1)), some (.int (nI t)), none, none]) dX8_bestOf_150 rfl ?_
                refine w_k dX8_bestOf_152 ?_
                refine w_is (ls2 := [some (.ref 47), some (.int (nI x)), some (.int (nI a)), some (.int (nI b)), some (.int (nI (usd (fun u q => jyN σ u q a (b + 1 - a)) t))), some (.int (-1)), some (.int (nI t)), some (.int (nI 0)), none]) dX8_bestOf_153 rfl ?_
                have L155 : ∀ (n155 : Nat) (k : Nat), (k ≤ 8) → (fi (rwB (fun u q => jyN σ u q a (b + 1 - a)) t (usd (fun u q => jyN σ u q a (b + 1 - a)) t)) (8 - k) k = brw (fun u q => jyN σ u q a (b + 1 - a)) t (usd (fun u q => jyN σ u q a (b + 1 - a)) t)) → (8 - k) < n155 → MW mX8_bestOf 6 155 [some (.ref 47), some (.int (nI x)), some (.int (nI a)), some (.int (nI b)), some (.int (nI (usd (fun u q => jyN σ u q a (b + 1 - a)) t))), some (.int (-1)), some (.int (nI t)), some (.int (nI k)), none] [] ρ1 Q := by
                  intro n155
                  induction n155 with
                  | zero =>
                    intro k hk hf hm155
                    exact absurd hm155 (Nat.not_lt_zero _)
                  | succ n155 ih155 =>
                    intro k hk hf hm155
                    refine w_il dX8_bestOf_155 rfl ?_
                    refine w_k dX8_bestOf_157 ?_
                    refine w_icgeN dX8_bestOf_159 (by omega) (by omega) (fun h159 => ?_) (fun h159 => ?_)
                    · --t
                      exfalso
                      rw [show 8 - k = 0 by omega] at hf
                      have hf2 : k = brw (fun u q => jyN σ u q a (b + 1 - a)) t (usd (fun u q => jyN σ u q a (b + 1 - a)) t) := hf
                      have := wu.1
                      omega
                    · --f
                      refine w_il dX8_bestOf_162 rfl ?_
                      refine w_k dX8_bestOf_164 ?_
                      refine w_icne dX8_bestOf_165 (fun h165 => ?_) (fun h165 => ?_)
                      · --t
                        exact absurd rfl h165
                      · --f
                        refine w_il dX8_bestOf_168 rfl ?_
                        refine w_il dX8_bestOf_170 rfl ?_
                        refine w_cSf dX8_bestOf_172 (sl_X8_216 _ rfl) (by decide) (c_X8_isIn ρ1 (usd (fun u q => jyN σ u q a (b + 1 - a)) t) k (by omega) (by omega)) rfl rfl (Nat.le_of_ble_eq_true rfl) ?_
                        refine w_ifneB dX8_bestOf_175 (fun h175 => ?_) (fun h175 => ?_)
                        · --t
                          refine w_k dX8_bestOf_219 ?_
                          refine w_is (ls2 := [some (.ref 47), some (.int (nI x)), some (.int (nI a)), some (.int (nI b)), some (.int (nI (usd (fun u q => jyN σ u q a (b + 1 - a)) t))), some (.int (-1)), some (.int (nI t)), some (.int (nI k)), none]) dX8_bestOf_220 rfl ?_
                          refine w_iincN (ls2 := [some (.ref 47), some (.int (nI x)), some (.int (nI a)), some (.int (nI b)), some (.int (nI (usd (fun u q => jyN σ u q a (b + 1 - a)) t))), some (.int (-1)), some (.int (nI t)), some (.int (nI (k + 1))), none]) dX8_bestOf_222 rfl rfl ?_
                          refine w_goto dX8_bestOf_225 ?_
                          exact ih155 (k + 1) (by omega) (by rw [← hf, fi_n (i := k) (by omega) (decide_eq_false (fun q => absurd q.1 (by omega)))]; rfl) (by omega)
                        · --f
                          have w6 : usd (fun u q => jyN σ u q a (b + 1 - a)) t / 2 ^ k % 2 < 2 := Nat.mod_lt _ (by decide)
                          have hz : usd (fun u q => jyN σ u q a (b + 1 - a)) t / 2 ^ k % 2 = 0 := by omega
                          have wb := bt_up (usd (fun u q => jyN σ u q a (b + 1 - a)) t) (by omega) k (by omega) hz
                          have wb1 := wb.1
                          have wb2 := wb.2.1
                          have w1 : mj (fun u q => jyN σ u q a (b + 1 - a)) (usd (fun u q => jyN σ u q a (b + 1 - a)) t ||| 2 ^ k) ≤ 900 * 255 := mjA_le (J := (fun u q => jyN σ u q a (b + 1 - a))) hb9 255 _
                          have w2 : mj (fun u q => jyN σ u q a (b + 1 - a)) (usd (fun u q => jyN σ u q a (b + 1 - a)) t) ≤ 900 * 255 := mjA_le (J := (fun u q => jyN σ u q a (b + 1 - a))) hb9 255 _
                          have w3 := hb9 t k
                          dsimp only at w3
                          refine w_al dX8_bestOf_178 rfl ?_
                          refine w_gr dX8_bestOf_179 fl_X8_59 sh47 rfl ?_
                          refine w_k dX8_bestOf_182 ?_
                          refine w_il dX8_bestOf_184 rfl ?_
                          refine w_imulN dX8_bestOf_186 ?_
                          refine w_il dX8_bestOf_187 rfl ?_
                          refine w_iaddN dX8_bestOf_189 ?_
                          refine w_ialdV (v := (nI (jyN σ t k a (b + 1 - a)))) dX8_bestOf_190 sh64 (by omega) ((hJ.fr hF1 (by decide)).at2 _ _ (by omega) (by omega)) ?_
                          refine w_al dX8_bestOf_191 rfl ?_
                          refine w_gr dX8_bestOf_192 fl_X8_62 sh47 rfl ?_
                          refine w_il dX8_bestOf_195 rfl ?_
                          refine w_k dX8_bestOf_197 ?_
                          refine w_il dX8_bestOf_198 rfl ?_
                          refine w_ishl1 dX8_bestOf_200 (by omega) ?_
                          refine w_iorN dX8_bestOf_201 ?_
                          refine w_ialdV (v := (nI (mj (fun u q => jyN σ u q a (b + 1 - a)) ((usd (fun u q => jyN σ u q a (b + 1 - a)) t) ||| 2 ^ k)))) dX8_bestOf_202 sh65 (by omega) (hMf _ (by omega)) ?_
                          refine w_iaddN dX8_bestOf_203 ?_
                          refine w_al dX8_bestOf_204 rfl ?_
                          refine w_gr dX8_bestOf_205 fl_X8_62 sh47 rfl ?_
                          refine w_il dX8_bestOf_208 rfl ?_
                          refine w_ialdV (v := (nI (mj (fun u q => jyN σ u q a (b + 1 - a)) (usd (fun u q => jyN σ u q a (b + 1 - a)) t)))) dX8_bestOf_210 sh65 (by omega) (hMf _ (by omega)) ?_
                          refine w_icneN dX8_bestOf_211 (by omega) (by omega) (fun h211 => ?_) (fun h211 => ?_)
                          · --t
                            refine w_k dX8_bestOf_219 ?_
                            refine w_is (ls2 := [some (.ref 47), some (.int (nI x)), some (.int (nI a)), some (.int (nI b)), some (.int (nI (usd (fun u q => jyN σ u q a (b + 1 - a)) t))), some (.int (-1)), some (.int (nI t)), some (.int (nI k)), none]) dX8_bestOf_220 rfl ?_
                            refine w_iincN (ls2 := [some (.ref 47), some (.int (nI x)), some (.int (nI a)), some (.int (nI b)), some (.int (nI (usd (fun u q => jyN σ u q a (b + 1 - a)) t))), some (.int (-1)), some (.int (nI t)), some (.int (nI (k + 1))), none]) dX8_bestOf_222 rfl rfl ?_
                            refine w_goto dX8_bestOf_225 ?_
                            exact ih155 (k + 1) (by omega) (by rw [← hf, fi_n (i := k) (by omega) (decide_eq_false (fun q => h211 q.2))]; rfl) (by omega)
                          · --f
                            have eb : brw (fun u q => jyN σ u q a (b + 1 - a)) t (usd (fun u q => jyN σ u q a (b + 1 - a)) t) = k := by rw [← hf, fi_y (i := k) (by omega) (decide_eq_true ⟨hz, h211⟩)]
                            refine w_il dX8_bestOf_214 rfl ?_
                            refine w_goto dX8_bestOf_216 ?_
                            refine w_is (ls2 := [some (.ref 47), some (.int (nI x)), some (.int (nI a)), some (.int (nI b)), some (.int (nI (usd (fun u q => jyN σ u q a (b + 1 - a)) t))), some (.int (nI k)), some (.int (nI t)), some (.int (nI k)), none]) dX8_bestOf_220 rfl ?_
                            refine w_iincN (ls2 := [some (.ref 47), some (.int (nI x)), some (.int (nI a)), some (.int (nI b)), some (.int (nI (usd (fun u q => jyN σ u q a (b + 1 - a)) t))), some (.int (nI k)), some (.int (nI t)), some (.int (nI (k + 1))), none]) dX8_bestOf_222 rfl rfl ?_
                            refine w_goto dX8_bestOf_225 ?_
                            refine w_il dX8_bestOf_155 rfl ?_
                            refine w_k dX8_bestOf_157 ?_
                            refine w_icgeN dX8_bestOf_159 (by omega) (by omega) (fun h159 => ?_) (fun h159 => ?_)
                            · --t
                              refine w_il dX8_bestOf_228 rfl ?_
                              refine w_k dX8_bestOf_230 ?_
                              refine w_il dX8_bestOf_231 rfl ?_
                              refine w_ishl1 dX8_bestOf_233 (by omega) ?_
                              refine w_iorN dX8_bestOf_234 ?_
                              refine w_is (ls2 := [some (.ref 47), some (.int (nI x)), some (.int (nI a)), some (.int (nI b)), some (.int (nI ((usd (fun u q => jyN σ u q a (b + 1 - a)) t) ||| 2 ^ k))), some (.int (nI k)), some (.int (nI t)), some (.int (nI (k + 1))), none]) dX8_bestOf_235 rfl ?_
                              refine w_iincN (ls2 := [some (.ref 47), some (.int (nI x)), some (.int (nI a)), some (.int (nI b)), some (.int (nI ((usd (fun u q => jyN σ u q a (b + 1 - a)) t) ||| 2 ^ k))), some (.int (nI k)), some (.int (nI (t + 1))), some (.int (nI (k + 1))), none]) dX8_bestOf_237 rfl rfl ?_
                              refine w_goto dX8_bestOf_240 ?_
                              refine w_weak (ls2 := [some (.ref 47), some (.int (nI x)), some (.int (nI a)), some (.int (nI b)), some (.int (nI ((usd (fun u q => jyN σ u q a (b + 1 - a)) t) ||| 2 ^ k))), some (.int (nI k)), some (.int (nI (t + 1))), none, none]) ⟨rfl, ⟨rfl, ⟨rfl, ⟨rfl, ⟨rfl, ⟨rfl, ⟨rfl, trivial⟩⟩⟩⟩⟩⟩⟩ ?_
                              rw [show usd (fun u q => jyN σ u q a (b + 1 - a)) t ||| 2 ^ k = usd (fun u q => jyN σ u q a (b + 1 - a)) (t + 1) from by rw [usd, eb], show nI k = prv (fun u q => jyN σ u q a (b + 1 - a)) (t + 1) from by rw [prv, eb]]
                              exact ih143 (t + 1) (by omega) (by omega)
                            · --f
                              refine w_il dX8_bestOf_162 rfl ?_
                              refine w_k dX8_bestOf_164 ?_
                              refine w_icne dX8_bestOf_165 (fun h165 => ?_) (fun h165 => ?_)
                              · --t
                                refine w_il dX8_bestOf_228 rfl ?_
                                refine w_k dX8_bestOf_230 ?_
                                refine w_il dX8_bestOf_231 rfl ?_
                                refine w_ishl1 dX8_bestOf_233 (by omega) ?_
                                refine w_iorN dX8_bestOf_234 ?_
                                refine w_is (ls2 := [some (.ref 47), some (.int (nI x)), some (.int (nI a)), some (.int (nI b)), some (.int (nI ((usd (fun u q => jyN σ u q a (b + 1 - a)) t) ||| 2 ^ k))), some (.int (nI k)), some (.int (nI t)), some (.int (nI (k + 1))), none]) dX8_bestOf_235 rfl ?_
                                refine w_iincN (ls2 := [some (.ref 47), some (.int (nI x)), some (.int (nI a)), some (.int (nI b)), some (.int (nI ((usd (fun u q => jyN σ u q a (b + 1 - a)) t) ||| 2 ^ k))), some (.int (nI k)), some (.int (nI (t + 1))), some (.int (nI (k + 1))), none]) dX8_bestOf_237 rfl rfl ?_
                                refine w_goto dX8_bestOf_240 ?_
                                refine w_weak (ls2 := [some (.ref 47), some (.int (nI x)), some (.int (nI a)), some (.int (nI b)), some (.int (nI ((usd (fun u q => jyN σ u q a (b + 1 - a)) t) ||| 2 ^ k))), some (.int (nI k)), some (.int (nI (t + 1))), none, none]) ⟨rfl, ⟨rfl, ⟨rfl, ⟨rfl, ⟨rfl, ⟨rfl, ⟨rfl, trivial⟩⟩⟩⟩⟩⟩⟩ ?_
                                rw [show usd (fun u q => jyN σ u q a (b + 1 - a)) t ||| 2 ^ k = usd (fun u q => jyN σ u q a (b + 1 - a)) (t + 1) from by rw [usd, eb], show nI k = prv (fun u q => jyN σ u q a (b + 1 - a)) (t + 1) from by rw [prv, eb]]
                                exact ih143 (t + 1) (by omega) (by omega)
                              · --f
                                exact absurd h165 (nIneg (by omega))
                exact L155 _ 0 (by omega) (rfl) (Nat.lt_succ_self _)
          exact L143 _ 0 (by omega) (Nat.lt_succ_self _)
        · --f
          refine w_al dX8_bestOf_127 rfl ?_
          refine w_gr dX8_bestOf_128 fl_X8_62 sh47 rfl ?_
          refine w_k dX8_bestOf_131 ?_
          refine w_ialdV (v := (nI (mj (fun u q => jyN σ u q a (b + 1 - a)) 0))) dX8_bestOf_132 sh65 (by omega) (hMf _ (by omega)) ?_
          refine w_iret dX8_bestOf_133 rfl ?_
          rw [← hQ]
          exact ⟨_, rfl, by rw [v_best, if_pos h124], (MInv.fr hMq hF1 (by decide)), (EqC.tr (EqC.tr EqC.rf hEq) (Fr.eqC hF1 (by decide)))⟩
      · --f
        have hi2 : i < 256 := Nat.lt_of_le_of_ne hi (fun e => h13 (by subst e; decide))
        rw [show nI (256 - i) + (-1) = nI (255 - i) from by rw [show 256 - i = (255 - i) + 1 by omega, pk_m1]]
        have wp : i = 0 → pop (255 - i) = 8 := fun e => by subst e; exact pop_255
        have wp2 : i ≠ 0 → pop (255 - i) < 8 := fun e => pop_lt _ (by omega)
        refine w_il dX8_bestOf_16 rfl ?_
        refine w_cSf dX8_bestOf_18 (sl_X8_213 _ rfl) (by decide) (c_X8_ones ρ1 (255 - i) (by omega)) rfl rfl (Nat.le_of_ble_eq_true rfl) ?_
        refine w_is (ls2 := [some (.ref 47), some (.int w), some (.int (nI a)), some (.int (nI b)), some (.int (nI (255 - i))), some (.int (nI (pop (255 - i)))), none, none, none]) dX8_bestOf_21 rfl ?_
        refine w_k dX8_bestOf_23 ?_
        refine w_is (ls2 := [some (.ref 47), some (.int w), some (.int (nI a)), some (.int (nI b)), some (.int (nI (255 - i))), some (.int (nI (pop (255 - i)))), some (.int (nI 0)), none, none]) dX8_bestOf_24 rfl ?_
        refine w_k dX8_bestOf_26 ?_
        refine w_is (ls2 := [some (.ref 47), some (.int w), some (.int (nI a)), some (.int (nI b)), some (.int (nI (255 - i))), some (.int (nI (pop (255 - i)))), some (.int (nI 0)), some (.int (nI 0)), none]) dX8_bestOf_27 rfl ?_
        have L29 : ∀ (n29 : Nat) (k : Nat), (k ≤ 8) → (i = 0 → k = 0) → (8 - k) < n29 → MW mX8_bestOf 6 29 [some (.ref 47), some (.int w), some (.int (nI a)), some (.int (nI b)), some (.int (nI (255 - i))), some (.int (nI (pop (255 - i)))), some (.int (nI (bst (fun u q => jyN σ u q a (b + 1 - a)) (mjA (fun u q => jyN σ u q a (b + 1 - a)) (i - 1)) (255 - i) k))), some (.int (nI k)), none] [] ρ1 Q := by
          intro n29
          induction n29 with
          | zero =>
            intro k hk hki hm29
            exact absurd hm29 (Nat.not_lt_zero _)
          | succ n29 ih29 =>
            intro k hk hki hm29
            have w5 := bst_le (J := (fun u q => jyN σ u q a (b + 1 - a))) hb9 (mjA_le hb9 (i - 1)) (u := 255 - i) k
            have w6 : (255 - i) / 2 ^ k % 2 < 2 := Nat.mod_lt _ (by decide)
            have w7 : pop (255 - i) ≤ 8 := by omega
            refine w_il dX8_bestOf_29 rfl ?_
            refine w_k dX8_bestOf_31 ?_
            refine w_icgeN dX8_bestOf_33 (by omega) (by omega) (fun h33 => ?_) (fun h33 => ?_)
            · --t
              refine w_al dX8_bestOf_107 rfl ?_
              refine w_gr dX8_bestOf_108 fl_X8_62 sh47 rfl ?_
              refine w_il dX8_bestOf_111 rfl ?_
              refine w_il dX8_bestOf_113 rfl ?_
              refine w_iastN dX8_bestOf_115 sh65 (by omega) ?_
              refine w_iinc (ls2 := [some (.ref 47), some (.int w), some (.int (nI a)), some (.int (nI b)), some (.int ((nI (255 - i)) + (-1))), some (.int (nI (pop (255 - i)))), some (.int (nI (bst (fun u q => jyN σ u q a (b + 1 - a)) (mjA (fun u q => jyN σ u q a (b + 1 - a)) (i - 1)) (255 - i) k))), some (.int (nI k)), none]) dX8_bestOf_116 rfl rfl ?_
              refine w_goto dX8_bestOf_119 ?_
              refine w_weak (ls2 := [some (.ref 47), some (.int w), some (.int (nI a)), some (.int (nI b)), some (.int ((nI (255 - i)) + (-1))), none, none, none, none]) ⟨rfl, ⟨rfl, ⟨rfl, ⟨rfl, ⟨rfl, trivial⟩⟩⟩⟩⟩ ?_
              rw [show nI (255 - i) + (-1) = nI (256 - (i + 1)) + (-1) from by rw [show 256 - (i + 1) = 255 - i by omega]]
              exact ih11 (i + 1) (wI ρ1 65 (255 - i) (nI (bst (fun u q => jyN σ u q a (b + 1 - a)) (mjA (fun u q => jyN σ u q a (b + 1 - a)) (i - 1)) (255 - i) k))) (by omega) (Fr.only hF1 only_wI (by decide)) (bof_next (by omega) (by omega) (by omega) hM1) (by omega)
            · --f
              refine w_il dX8_bestOf_36 rfl ?_
              refine w_k dX8_bestOf_38 ?_
              refine w_icgeN dX8_bestOf_40 (by omega) (by omega) (fun h40 => ?_) (fun h40 => ?_)
              · --t
                refine w_al dX8_bestOf_107 rfl ?_
                refine w_gr dX8_bestOf_108 fl_X8_62 sh47 rfl ?_
                refine w_il dX8_bestOf_111 rfl ?_
                refine w_il dX8_bestOf_113 rfl ?_
                refine w_iastN dX8_bestOf_115 sh65 (by omega) ?_
                refine w_iinc (ls2 := [some (.ref 47), some (.int w), some (.int (nI a)), some (.int (nI b)), some (.int ((nI (255 - i)) + (-1))), some (.int (nI (pop (255 - i)))), some (.int (nI (bst (fun u q => jyN σ u q a (b + 1 - a)) (mjA (fun u q => jyN σ u q a (b + 1 - a)) (i - 1)) (255 - i) k))), some (.int (nI k)), none]) dX8_bestOf_116 rfl rfl ?_
                refine w_goto dX8_bestOf_119 ?_
                refine w_weak (ls2 := [some (.ref 47), some (.int w), some (.int (nI a)), some (.int (nI b)), some (.int ((nI (255 - i)) + (-1))), none, none, none, none]) ⟨rfl, ⟨rfl, ⟨rfl, ⟨rfl, ⟨rfl, trivial⟩⟩⟩⟩⟩ ?_
                rw [show nI (255 - i) + (-1) = nI (256 - (i + 1)) + (-1) from by rw [show 256 - (i + 1) = 255 - i by omega]]
                exact ih11 (i + 1) (wI ρ1 65 (255 - i) (nI (bst (fun u q => jyN σ u q a (b + 1 - a)) (mjA (fun u q => jyN σ u q a (b + 1 - a)) (i - 1)) (255 - i) k))) (by omega) (Fr.only hF1 only_wI (by decide)) (bof_next (by omega) (by omega) (by omega) hM1) (by omega)
              · --f
                refine w_il dX8_bestOf_43 rfl ?_
                refine w_il dX8_bestOf_45 rfl ?_
                refine w_cSf dX8_bestOf_47 (sl_X8_216 _ rfl) (by decide) (c_X8_isIn ρ1 (255 - i) k (by omega) (by omega)) rfl rfl (Nat.le_of_ble_eq_true rfl) ?_
                refine w_ifeqB dX8_bestOf_50 (fun h50 => ?_) (fun h50 => ?_)
                · --t
                  have hz : (255 - i) / 2 ^ k % 2 = 0 := by omega
                  have wb := bt_up (255 - i) (by omega) k (by omega) hz
                  have wb1 := wb.1
                  have wb2 := wb.2.1
                  have w1 := mjA_le (J := (fun u q => jyN σ u q a (b + 1 - a))) hb9 (i - 1) ((255 - i) ||| 2 ^ k)
                  have w3 := hb9 (pop (255 - i)) k
                  dsimp only at w3
                  refine w_al dX8_bestOf_57 rfl ?_
                  refine w_gr dX8_bestOf_58 fl_X8_59 sh47 rfl ?_
                  refine w_k dX8_bestOf_61 ?_
                  refine w_il dX8_bestOf_63 rfl ?_
                  refine w_imulN dX8_bestOf_65 ?_
                  refine w_il dX8_bestOf_66 rfl ?_
                  refine w_iaddN dX8_bestOf_68 ?_
                  refine w_ialdV (v := (nI (jyN σ (pop (255 - i)) k a (b + 1 - a)))) dX8_bestOf_69 sh64 (by omega) ((hJ.fr hF1 (by decide)).at2 _ _ (by omega) (by omega)) ?_
                  refine w_al dX8_bestOf_70 rfl ?_
                  refine w_gr dX8_bestOf_71 fl_X8_62 sh47 rfl ?_
                  refine w_il dX8_bestOf_74 rfl ?_
                  refine w_k dX8_bestOf_76 ?_
                  refine w_il dX8_bestOf_77 rfl ?_
                  refine w_ishl1 dX8_bestOf_79 (by omega) ?_
                  refine w_iorN dX8_bestOf_80 ?_
                  refine w_ialdV (v := (nI (mjA (fun u q => jyN σ u q a (b + 1 - a)) (i - 1) ((255 - i) ||| 2 ^ k)))) dX8_bestOf_81 sh65 (by omega) (hM1 _ (by omega) (by omega)) ?_
                  refine w_iaddN dX8_bestOf_82 ?_
                  refine w_is (ls2 := [some (.ref 47), some (.int w), some (.int (nI a)), some (.int (nI b)), some (.int (nI (255 - i))), some (.int (nI (pop (255 - i)))), some (.int (nI (bst (fun u q => jyN σ u q a (b + 1 - a)) (mjA (fun u q => jyN σ u q a (b + 1 - a)) (i - 1)) (255 - i) k))), some (.int (nI k)), some (.int (nI (jyN σ (pop (255 - i)) k a (b + 1 - a) + (mjA (fun u q => jyN σ u q a (b + 1 - a)) (i - 1) ((255 - i) ||| 2 ^ k)))))]) dX8_bestOf_83 rfl ?_
                  refine w_il dX8_bestOf_85 rfl ?_
                  refine w_il dX8_bestOf_87 rfl ?_
                  refine w_icleN dX8_bestOf_89 (by omega) (by omega) (fun h89 => ?_) (fun h89 => ?_)
                  · --t
                    refine w_il dX8_bestOf_97 rfl ?_
                    refine w_is (ls2 := [some (.ref 47), some (.int w), some (.int (nI a)), some (.int (nI b)), some (.int (nI (255 - i))), some (.int (nI (pop (255 - i)))), some (.int (nI (bst (fun u q => jyN σ u q a (b + 1 - a)) (mjA (fun u q => jyN σ u q a (b + 1 - a)) (i - 1)) (255 - i) k))), some (.int (nI k)), some (.int (nI (jyN σ (pop (255 - i)) k a (b + 1 - a) + (mjA (fun u q => jyN σ u q a (b + 1 - a)) (i - 1) ((255 - i) ||| 2 ^ k)))))]) dX8_bestOf_99 rfl ?_
                    refine w_iincN (ls2 := [some (.ref 47), some (.int w), some (.int (nI a)), some (.int (nI b)), some (.int (nI (255 - i))), some (.int (nI (pop (255 - i)))), some (.int (nI (bst (fun u q => jyN σ u q a (b + 1 - a)) (mjA (fun u q => jyN σ u q a (b + 1 - a)) (i - 1)) (255 - i) k))), some (.int (nI (k + 1))), some (.int (nI (jyN σ (pop (255 - i)) k a (b + 1 - a) + (mjA (fun u q => jyN σ u q a (b + 1 - a)) (i - 1) ((255 - i) ||| 2 ^ k)))))]) dX8_bestOf_101 rfl rfl ?_
                    refine w_goto dX8_bestOf_104 ?_
                    refine w_weak (ls2 := [some (.ref 47), some (.int w), some (.int (nI a)), some (.int (nI b)), some (.int (nI (255 - i))), some (.int (nI (pop (255 - i)))), some (.int (nI (bst (fun u q => jyN σ u q a (b + 1 - a)) (mjA (fun u q => jyN σ u q a (b + 1 - a)) (i - 1)) (255 - i) k))), some (.int (nI (k + 1))), none]) ⟨rfl, ⟨rfl, ⟨rfl, ⟨rfl, ⟨rfl, ⟨rfl, ⟨rfl, ⟨rfl, trivial⟩⟩⟩⟩⟩⟩⟩⟩ ?_
                    rw [show bst (fun u q => jyN σ u q a (b + 1 - a)) (mjA (fun u q => jyN σ u q a (b + 1 - a)) (i - 1)) (255 - i) k = bst (fun u q => jyN σ u q a (b + 1 - a)) (mjA (fun u q => jyN σ u q a (b + 1 - a)) (i - 1)) (255 - i) (k + 1) from by rw [bst_y hz]; omega]
                    exact ih29 (k + 1) (by omega) (by omega) (by omega)
                  · --f
                    refine w_il dX8_bestOf_92 rfl ?_
                    refine w_goto dX8_bestOf_94 ?_
                    refine w_is (ls2 := [some (.ref 47), some (.int w), some (.int (nI a)), some (.int (nI b)), some (.int (nI (255 - i))), some (.int (nI (pop (255 - i)))), some (.int (nI (jyN σ (pop (255 - i)) k a (b + 1 - a) + (mjA (fun u q => jyN σ u q a (b + 1 - a)) (i - 1) ((255 - i) ||| 2 ^ k))))), some (.int (nI k)), some (.int (nI (jyN σ (pop (255 - i)) k a (b + 1 - a) + (mjA (fun u q => jyN σ u q a (b + 1 - a)) (i - 1) ((255 - i) ||| 2 ^ k)))))]) dX8_bestOf_99 rfl ?_
                    refine w_iincN (ls2 := [some (.ref 47), some (.int w), some (.int (nI a)), some (.int (nI b)), some (.int (nI (255 - i))), some (.int (nI (pop (255 - i)))), some (.int (nI (jyN σ (pop (255 - i)) k a (b + 1 - a) + (mjA (fun u q => jyN σ u q a (b + 1 - a)) (i - 1) ((255 - i) ||| 2 ^ k))))), some (.int (nI (k + 1))), some (.int (nI (jyN σ (pop (255 - i)) k a (b + 1 - a) + (mjA (fun u q => jyN σ u q a (b + 1 - a)) (i - 1) ((255 - i) ||| 2 ^ k)))))]) dX8_bestOf_101 rfl rfl ?_
                    refine w_goto dX8_bestOf_104 ?_
                    refine w_weak (ls2 := [some (.ref 47), some (.int w), some (.int (nI a)), some (.int (nI b)), some (.int (nI (255 - i))), some (.int (nI (pop (255 - i)))), some (.int (nI (jyN σ (pop (255 - i)) k a (b + 1 - a) + (mjA (fun u q => jyN σ u q a (b + 1 - a)) (i - 1) ((255 - i) ||| 2 ^ k))))), some (.int (nI (k + 1))), none]) ⟨rfl, ⟨rfl, ⟨rfl, ⟨rfl, ⟨rfl, ⟨rfl, ⟨rfl, ⟨rfl, trivial⟩⟩⟩⟩⟩⟩⟩⟩ ?_
                    rw [show jyN σ (pop (255 - i)) k a (b + 1 - a) + (mjA (fun u q => jyN σ u q a (b + 1 - a)) (i - 1) ((255 - i) ||| 2 ^ k)) = bst (fun u q => jyN σ u q a (b + 1 - a)) (mjA (fun u q => jyN σ u q a (b + 1 - a)) (i - 1)) (255 - i) (k + 1) from by rw [bst_y hz]; omega]
                    exact ih29 (k + 1) (by omega) (by omega) (by omega)
                · --f
                  refine w_k dX8_bestOf_53 ?_
                  refine w_goto dX8_bestOf_54 ?_
                  refine w_is (ls2 := [some (.ref 47), some (.int w), some (.int (nI a)), some (.int (nI b)), some (.int (nI (255 - i))), some (.int (nI (pop (255 - i)))), some (.int (nI (bst (fun u q => jyN σ u q a (b + 1 - a)) (mjA (fun u q => jyN σ u q a (b + 1 - a)) (i - 1)) (255 - i) k))), some (.int (nI k)), some (.int (-1))]) dX8_bestOf_83 rfl ?_
                  refine w_il dX8_bestOf_85 rfl ?_
                  refine w_il dX8_bestOf_87 rfl ?_
                  refine w_icle dX8_bestOf_89 (fun h89 => ?_) (fun h89 => ?_)
                  · --t
                    refine w_il dX8_bestOf_97 rfl ?_
                    refine w_is (ls2 := [some (.ref 47), some (.int w), some (.int (nI a)), some (.int (nI b)), some (.int (nI (255 - i))), some (.int (nI (pop (255 - i)))), some (.int (nI (bst (fun u q => jyN σ u q a (b + 1 - a)) (mjA (fun u q => jyN σ u q a (b + 1 - a)) (i - 1)) (255 - i) k))), some (.int (nI k)), some (.int (-1))]) dX8_bestOf_99 rfl ?_
                    refine w_iincN (ls2 := [some (.ref 47), some (.int w), some (.int (nI a)), some (.int (nI b)), some (.int (nI (255 - i))), some (.int (nI (pop (255 - i)))), some (.int (nI (bst (fun u q => jyN σ u q a (b + 1 - a)) (mjA (fun u q => jyN σ u q a (b + 1 - a)) (i - 1)) (255 - i) k))), some (.int (nI (k + 1))), some (.int (-1))]) dX8_bestOf_101 rfl rfl ?_
                    refine w_goto dX8_bestOf_104 ?_
                    refine w_weak (ls2 := [some (.ref 47), some (.int w), some (.int (nI a)), some (.int (nI b)), some (.int (nI (255 - i))), some (.int (nI (pop (255 - i)))), some (.int (nI (bst (fun u q => jyN σ u q a (b + 1 - a)) (mjA (fun u q => jyN σ u q a (b + 1 - a)) (i - 1)) (255 - i) k))), some (.int (nI (k + 1))), none]) ⟨rfl, ⟨rfl, ⟨rfl, ⟨rfl, ⟨rfl, ⟨rfl, ⟨rfl, ⟨rfl, trivial⟩⟩⟩⟩⟩⟩⟩⟩ ?_
                    rw [← bst_n (M := mjA (fun u q => jyN σ u q a (b + 1 - a)) (i - 1)) (u := 255 - i) (k := k) (by omega)]
                    exact ih29 (k + 1) (by omega) (by omega) (by omega)
                  · --f
                    exact absurd (Int32.le_of_lt (neg1_lt (by omega))) h89
        exact L29 _ 0 (by omega) (by omega) (Nat.lt_succ_self _)
  rw [show nI 255 = nI (256 - 0) + (-1) from by decide]
  exact L11 _ 0 ρq (by omega) (Fr.rf) (fun v h1 h2 => by omega) (Nat.lt_succ_self _)

set_option maxHeartbeats 4000000 in
theorem c_X8_best (ρ : Rho) (σ : Sg) (w f t : Int32) (hM : MInv σ ρ) : CallOK 7 mX8_best [.ref 47, .int w, .int f, .int t] ρ (fun r ρ2 => ∃ v, r = some v ∧ (v = .int (r_best σ w f t) ∧ MInv σ ρ2 ∧ EqC ρ ρ2)) := by
  refine callOK_of 0 (by decide +kernel) rfl (fun _ => Nat.le_of_ble_eq_true rfl) (ls := [some (.ref 47), some (.int w), some (.int f), some (.int t)]) rfl ?_
  generalize hQ : (fun r ρ2 => ∃ v, r = some v ∧ (v = .int (r_best σ w f t) ∧ MInv σ ρ2 ∧ EqC ρ ρ2) : Option Value → Rho → Prop) = Q
  refine w_il dX8_best_0 rfl ?_
  refine w_k dX8_best_1 ?_
  refine w_iceq dX8_best_2 (fun h2 => ?_) (fun h2 => ?_)
  · --t
    refine w_il dX8_best_12 rfl ?_
    refine w_il dX8_best_13 rfl ?_
    refine w_cSf dX8_best_14 (sl_X8_166 _ rfl) (by decide) (c_X8_isSpan ρ f t) rfl rfl (Nat.le_of_ble_eq_true rfl) ?_
    refine w_ifeqB dX8_best_17 (fun h17 => ?_) (fun h17 => ?_)
    · --t
      refine w_k dX8_best_30 ?_
      refine w_iret dX8_best_32 rfl ?_
      rw [← hQ]
      exact ⟨_, rfl, by rw [r_best, if_neg (fun z => h17 z.2)], hM, EqC.rf⟩
    · --f
      obtain ⟨a, b, hab, hb, rfl, rfl⟩ := spn_nI h17
      refine w_al dX8_best_20 rfl ?_
      refine w_il dX8_best_21 rfl ?_
      refine w_il dX8_best_22 rfl ?_
      refine w_il dX8_best_23 rfl ?_
      refine w_cVr dX8_best_24 (vl_X8_219 _ rfl) sh47 (by decide) (c_X8_bestOf ρ σ w a b hM (Or.inl h2) (by omega) (by omega)) rfl rfl (Nat.le_of_ble_eq_true rfl) (fun vb ρb hb8 => ?_)
      obtain ⟨rfl, hMb, hEb⟩ := hb8
      refine w_goto dX8_best_27 ?_
      refine w_iret dX8_best_32 rfl ?_
      rw [← hQ]
      exact ⟨_, rfl, by rw [r_best, if_pos ⟨Or.inl h2, h17⟩, nv_nI (a := a) (by omega), nv_nI (a := b) (by omega)], hMb, (EqC.tr EqC.rf hEb)⟩
  · --f
    refine w_il dX8_best_5 rfl ?_
    refine w_cSf dX8_best_6 (sl_X8_118 _ rfl) (by decide) (c_X8_isEighth ρ w) rfl rfl (Nat.le_of_ble_eq_true rfl) ?_
    refine w_ifeqB dX8_best_9 (fun h9 => ?_) (fun h9 => ?_)
    · --t
      refine w_k dX8_best_30 ?_
      refine w_iret dX8_best_32 rfl ?_
      rw [← hQ]
      exact ⟨_, rfl, by rw [r_best, if_neg (fun z => z.1.elim h2 h9)], hM, EqC.rf⟩
    · --f
      obtain ⟨x, hx, rfl⟩ := inR_nI h9 (by decide)
      refine w_il dX8_best_12 rfl ?_
      refine w_il dX8_best_13 rfl ?_
      refine w_cSf dX8_best_14 (sl_X8_166 _ rfl) (by decide) (c_X8_isSpan ρ f t) rfl rfl (Nat.le_of_ble_eq_true rfl) ?_
      refine w_ifeqB dX8_best_17 (fun h17 => ?_) (fun h17 => ?_)
      · --t
        refine w_k dX8_best_30 ?_
        refine w_iret dX8_best_32 rfl ?_
        rw [← hQ]
        exact ⟨_, rfl, by rw [r_best, if_neg (fun z => h17 z.2)], hM, EqC.rf⟩
      · --f
        obtain ⟨a, b, hab, hb, rfl, rfl⟩ := spn_nI h17
        refine w_al dX8_best_20 rfl ?_
        refine w_il dX8_best_21 rfl ?_
        refine w_il dX8_best_22 rfl ?_
        refine w_il dX8_best_23 rfl ?_
        refine w_cVr dX8_best_24 (vl_X8_219 _ rfl) sh47 (by decide) (c_X8_bestOf ρ σ (nI x) a b hM (Or.inr ⟨x, by omega, rfl⟩) (by omega) (by omega)) rfl rfl (Nat.le_of_ble_eq_true rfl) (fun vb ρb hb8 => ?_)
        obtain ⟨rfl, hMb, hEb⟩ := hb8
        refine w_goto dX8_best_27 ?_
        refine w_iret dX8_best_32 rfl ?_
        rw [← hQ]
        exact ⟨_, rfl, by rw [r_best, if_pos ⟨Or.inr h9, h17⟩, nv_nI (a := a) (by omega), nv_nI (a := b) (by omega)], hMb, (EqC.tr EqC.rf hEb)⟩
