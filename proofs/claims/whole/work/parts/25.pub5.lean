abbrev g_share (p q f t w : Int32) : Prop := inR p (nI 0) (nI 7) ∧ inR q (nI 0) (nI 4) ∧ spn f t ∧ inR w (nI 0) (nI 1)
def r_share (σ : Sg) (p q f t w : Int32) : Int64 := if g_share p q f t w then lowT (dyN σ (nv p) (nv q) (nv f) (nv t + 1 - nv f)) (nv t + 1 - nv f) (nv w) else -9223372036854775806
abbrev g_shine (p f t : Int32) : Prop := inR p (nI 0) (nI 7) ∧ spn f t
def r_shine (σ : Sg) (p f t : Int32) : Int32 := if g_shine p f t then nI (shN σ (nv p) (nv f) (nv t + 1 - nv f)) else -2
abbrev g_ahead (q f t w : Int32) : Prop := inR q (nI 0) (nI 4) ∧ spn f t ∧ inR w (nI 0) (nI 1)
def v_ahead (σ : Sg) (y a n w : Nat) : Int32 := if w = 0 then nI (bsR σ y a n 8) else nI (dyN σ (bsR σ y a n 8) y a n) - nI (fwR σ y a n 8)
def r_ahead (σ : Sg) (q f t w : Int32) : Int32 := if g_ahead q f t w then v_ahead σ (nv q) (nv f) (nv t + 1 - nv f) (nv w) else -2
abbrev g_joy (p q f t : Int32) : Prop := inR p (nI 0) (nI 7) ∧ inR q (nI 0) (nI 7) ∧ spn f t
def r_joy (σ : Sg) (p q f t : Int32) : Int32 := if g_joy p q f t then nI (jyN σ (nv p) (nv q) (nv f) (nv t + 1 - nv f)) else -2
abbrev g_next (p q u d : Int32) : Prop := inR p (nI 0) (nI 7) ∧ inR q (nI 0) (nI 4) ∧ inR u (nI 0) (nI 4) ∧ inR d (nI 0) (nI 99)
def n100 (n : Nat) : Int32 := if n < 100 then nI n else -1
def r_next (σ : Sg) (p q u d : Int32) : Int32 := if g_next p q u d then n100 (fnT σ (wkB σ (nv p) (nv q) (nv u)) (100 - nv d)) else -2
abbrev g_waits (p d : Int32) : Prop := inR p (nI 0) (nI 7) ∧ inR d (nI 0) (nI 99)
def r_waits (σ : Sg) (p d : Int32) : Int32 := if g_waits p d then v_wait σ (nv p) (nv d) else -2
abbrev g_dig (d m : Int32) : Prop := inR d (nI 0) (nI 99) ∧ inR m (nI 0) (nI 99)
def r_dig (σ : Sg) (d m : Int32) : Int32 := if g_dig d m then (dgS σ (nv d) (nv m) 8).1 else -2
theorem dyC_y {σ : Sg} {r y a n k : Nat} (h : Th σ ((r + k) % 8) = y) : dyC σ r y a n (k + 1) = dyC σ r y a n k + tal σ a n k := by
  show _ + (if _ then _ else _) = _
  rw [if_pos h]; rfl
theorem dyC_n {σ : Sg} {r y a n k : Nat} (h : Th σ ((r + k) % 8) ≠ y) : dyC σ r y a n (k + 1) = dyC σ r y a n k := by
  show _ + (if _ then _ else _) = _
  rw [if_neg h]; rfl
theorem dyN_y {σ : Sg} {r y a n : Nat} (h : Th σ (dr σ r (a + n)) = y) : dyN σ r y a (n + 1) = dyN σ r y a n + 1 := by rw [dyN_s, if_pos h]
theorem dyN_n {σ : Sg} {r y a n : Nat} (h : Th σ (dr σ r (a + n)) ≠ y) : dyN σ r y a (n + 1) = dyN σ r y a n := by rw [dyN_s, if_neg h]; rfl
theorem bs1 (σ : Sg) (y a n : Nat) : bsR σ y a n 1 = 0 := by
  show (if _ then 0 else 0) = 0
  split <;> rfl
theorem fw1 (σ : Sg) (y a n : Nat) (hn : n ≤ 100) : fwR σ y a n 1 = dyN σ 0 y a n := by
  have := dyN_le σ 0 y a n
  show min 100 (dyN σ 0 y a n) = _
  omega
theorem bs_n {σ : Sg} {y a n k : Nat} (h : dyN σ k y a n ≤ dyN σ (bsR σ y a n k) y a n) : bsR σ y a n k = bsR σ y a n (k + 1) := by
  rw [bsR, if_neg (by omega)]
theorem bs_y {σ : Sg} {y a n k : Nat} (h : dyN σ (bsR σ y a n k) y a n < dyN σ k y a n) : nI k = nI (bsR σ y a n (k + 1)) := by
  rw [bsR, if_pos h]
theorem bs_d {σ : Sg} {y a n k : Nat} (h : dyN σ (bsR σ y a n k) y a n < dyN σ k y a n) : nI (dyN σ k y a n) = nI (dyN σ (bsR σ y a n (k + 1)) y a n) := by
  rw [bsR, if_pos h]
theorem fw_y {σ : Sg} {y a n k : Nat} (h : dyN σ k y a n < fwR σ y a n k) : nI (dyN σ k y a n) = nI (fwR σ y a n (k + 1)) := by
  rw [fwR, show min (fwR σ y a n k) (dyN σ k y a n) = dyN σ k y a n by omega]
theorem fw_n {σ : Sg} {y a n k : Nat} (h : fwR σ y a n k ≤ dyN σ k y a n) : fwR σ y a n k = fwR σ y a n (k + 1) := by
  rw [fwR, show min (fwR σ y a n k) (dyN σ k y a n) = fwR σ y a n k by omega]
theorem mnT_y {p : Nat → Bool} {f : Nat → Nat} {k : Nat} (h : p k = true) : mnT p f (k + 1) = min (mnT p f k) (f k) := if_pos h
theorem mnT_n {p : Nat → Bool} {f : Nat → Nat} {k : Nat} (h : p k = false) : mnT p f (k + 1) = mnT p f k := by rw [mnT, h]; rfl
set_option maxHeartbeats 4000000 in
theorem c_X7_isSpan (ρ : Rho) (f t : Int32) : CallOK 2 mX7_isSpan [.int f, .int t] ρ (fun r ρ2 => r = some (.int (b2i (spn f t))) ∧ ρ2 = ρ) := by
  refine callOK_of 0 (by decide +kernel) rfl (fun _ => Nat.le_of_ble_eq_true rfl) (ls := [some (.int f), some (.int t)]) rfl ?_
  generalize hQ : (fun r ρ2 => r = some (.int (b2i (spn f t))) ∧ ρ2 = ρ : Option Value → Rho → Prop) = Q
  refine w_il dX7_isSpan_0 rfl ?_
  refine w_cSf dX7_isSpan_1 (sl_X7_87 _ rfl) (by decide) (c_X7_isDay ρ f) rfl rfl (Nat.le_of_ble_eq_true rfl) ?_
  refine w_ifeqB dX7_isSpan_4 (fun h4 => ?_) (fun h4 => ?_)
  · --t
    refine w_k dX7_isSpan_23 ?_
    refine w_zret dX7_isSpan_24 rfl rfl ?_
    rw [← hQ]
    exact ⟨congrArg (fun z => some (Value.int z)) (b2i_f (fun z => h4 z.1)).symm, rfl⟩
  · --f
    refine w_il dX7_isSpan_7 rfl ?_
    refine w_cSf dX7_isSpan_8 (sl_X7_87 _ rfl) (by decide) (c_X7_isDay ρ t) rfl rfl (Nat.le_of_ble_eq_true rfl) ?_
    refine w_ifeqB dX7_isSpan_11 (fun h11 => ?_) (fun h11 => ?_)
    · --t
      refine w_k dX7_isSpan_23 ?_
      refine w_zret dX7_isSpan_24 rfl rfl ?_
      rw [← hQ]
      exact ⟨congrArg (fun z => some (Value.int z)) (b2i_f (fun z => h11 (spn_to z))).symm, rfl⟩
    · --f
      refine w_il dX7_isSpan_14 rfl ?_
      refine w_il dX7_isSpan_15 rfl ?_
      refine w_icgt dX7_isSpan_16 (fun h16 => ?_) (fun h16 => ?_)
      · --t
        refine w_k dX7_isSpan_23 ?_
        refine w_zret dX7_isSpan_24 rfl rfl ?_
        rw [← hQ]
        exact ⟨congrArg (fun z => some (Value.int z)) (b2i_f (fun z => Int32.not_lt.mpr z.2.1 h16)).symm, rfl⟩
      · --f
        refine w_k dX7_isSpan_19 ?_
        refine w_goto dX7_isSpan_20 ?_
        refine w_zret dX7_isSpan_24 rfl rfl ?_
        rw [← hQ]
        exact ⟨congrArg (fun z => some (Value.int z)) (b2i_t ⟨h4, Int32.not_lt.mp h16, h11.2⟩).symm, rfl⟩

set_option maxHeartbeats 4000000 in
theorem c_X8_isSpan (ρ : Rho) (f t : Int32) : CallOK 2 mX8_isSpan [.int f, .int t] ρ (fun r ρ2 => r = some (.int (b2i (spn f t))) ∧ ρ2 = ρ) := by
  refine callOK_of 0 (by decide +kernel) rfl (fun _ => Nat.le_of_ble_eq_true rfl) (ls := [some (.int f), some (.int t)]) rfl ?_
  generalize hQ : (fun r ρ2 => r = some (.int (b2i (spn f t))) ∧ ρ2 = ρ : Option Value → Rho → Prop) = Q
  refine w_il dX8_isSpan_0 rfl ?_
  refine w_cSf dX8_isSpan_1 (sl_X8_148 _ rfl) (by decide) (c_X8_isDay ρ f) rfl rfl (Nat.le_of_ble_eq_true rfl) ?_
  refine w_ifeqB dX8_isSpan_4 (fun h4 => ?_) (fun h4 => ?_)
  · --t
    refine w_k dX8_isSpan_21 ?_
    refine w_zret dX8_isSpan_22 rfl rfl ?_
    rw [← hQ]
    exact ⟨congrArg (fun z => some (Value.int z)) (b2i_f (fun z => h4 z.1)).symm, rfl⟩
  · --f
    refine w_il dX8_isSpan_7 rfl ?_
    refine w_il dX8_isSpan_8 rfl ?_
    refine w_k dX8_isSpan_9 ?_
    refine w_cSf dX8_isSpan_11 (sl_X8_89 _ rfl) (by decide) (c_X8_in ρ t f (nI 99)) rfl rfl (Nat.le_of_ble_eq_true rfl) ?_
    refine w_ifeqB dX8_isSpan_14 (fun h14 => ?_) (fun h14 => ?_)
    · --t
      refine w_k dX8_isSpan_21 ?_
      refine w_zret dX8_isSpan_22 rfl rfl ?_
      rw [← hQ]
      exact ⟨congrArg (fun z => some (Value.int z)) (b2i_f (fun z => h14 z.2)).symm, rfl⟩
    · --f
      refine w_k dX8_isSpan_17 ?_
      refine w_goto dX8_isSpan_18 ?_
      refine w_zret dX8_isSpan_22 rfl rfl ?_
      rw [← hQ]
      exact ⟨congrArg (fun z => some (Value.int z)) (b2i_t ⟨h4, h14⟩).symm, rfl⟩

set_option maxHeartbeats 4000000 in
theorem c_X8_no (ρ : Rho) : CallOK 0 mX8_no [.int (-2)] ρ (fun r ρ2 => r = some (.long (-9223372036854775806)) ∧ ρ2 = ρ) := by
  refine callOK_of 0 (by decide +kernel) rfl (fun _ => Nat.le_of_ble_eq_true rfl) (ls := [some (.int (-2))]) rfl ?_
  generalize hQ : (fun r ρ2 => r = some (.long (-9223372036854775806)) ∧ ρ2 = ρ : Option Value → Rho → Prop) = Q
  refine w_kl dX8_no_0 ?_
  refine w_il dX8_no_3 rfl ?_
  refine w_i2l dX8_no_4 ?_
  refine w_lsub dX8_no_5 ?_
  refine w_lret dX8_no_6 rfl ?_
  rw [← hQ]
  exact ⟨congrArg (fun z => some (Value.long z)) (by decide), rfl⟩

set_option maxHeartbeats 4000000 in
theorem c_X7_lowestTerms (ρ : Rho) (a b w : Nat) (hab : a ≤ b) (h0 : 0 < b) (hb : b ≤ 2 ^ 48) (hw : w < 2) : CallOK 0 mX7_lowestTerms [.long (lN a), .long (lN b), .int (nI w)] ρ (fun r ρ2 => r = some (.long (lowT a b w)) ∧ ρ2 = ρ) := by
  refine callOK_of 7 (by decide +kernel) rfl (fun _ => Nat.le_of_ble_eq_true rfl) (ls := [some (.long (lN a)), none, some (.long (lN b)), none, some (.int (nI w)), none, none, none, none, none, none, none]) rfl ?_
  generalize hQ : (fun r ρ2 => r = some (.long (lowT a b w)) ∧ ρ2 = ρ : Option Value → Rho → Prop) = Q
  refine w_ll dX7_lowestTerms_0 rfl ?_
  refine w_ls (ls2 := [some (.long (lN a)), none, some (.long (lN b)), none, some (.int (nI w)), some (.long (lN b)), none, none, none, none, none, none]) dX7_lowestTerms_1 rfl ?_
  refine w_ll dX7_lowestTerms_3 rfl ?_
  refine w_ls (ls2 := [some (.long (lN a)), none, some (.long (lN b)), none, some (.int (nI w)), some (.long (lN b)), none, some (.long (lN a)), none, none, none, none]) dX7_lowestTerms_4 rfl ?_
  refine w_k dX7_lowestTerms_6 ?_
  refine w_is (ls2 := [some (.long (lN a)), none, some (.long (lN b)), none, some (.int (nI w)), some (.long (lN b)), none, some (.long (lN a)), none, some (.int (nI 0)), none, none]) dX7_lowestTerms_7 rfl ?_
  have L9 : ∀ (n9 : Nat) (d : Nat) (r : Nat) (s : Nat), (Nat.gcd d r = Nat.gcd a b) → (0 < d) → (r ≤ d) → (d ≤ b) → (s ≤ 100) → (d * r * 2 ^ s < 2 ^ 98) → (100 - s) < n9 → MW mX7_lowestTerms 0 9 [some (.long (lN a)), none, some (.long (lN b)), none, some (.int (nI w)), some (.long (lN d)), none, some (.long (lN r)), none, some (.int (nI s)), none, none] [] ρ Q := by
    intro n9
    induction n9 with
    | zero =>
      intro d r s hg hd hrd hdb hs hE hm9
      exact absurd hm9 (Nat.not_lt_zero _)
    | succ n9 ih9 =>
      intro d r s hg hd hrd hdb hs hE hm9
      refine w_il dX7_lowestTerms_9 rfl ?_
      refine w_k dX7_lowestTerms_11 ?_
      refine w_icgeN dX7_lowestTerms_13 (by omega) (by omega) (fun h13 => ?_) (fun h13 => ?_)
      · --t
        have er : r = 0 := by rcases Nat.eq_zero_or_pos r with q | q; exact q; exact absurd (euclid_s q hd hE) (by omega)
        have eg : Nat.gcd a b = d := by rw [← hg, er, Nat.gcd_zero_right]
        refine w_ll dX7_lowestTerms_44 rfl ?_
        refine w_kl dX7_lowestTerms_46 ?_
        refine w_lcmp dX7_lowestTerms_47 ?_
        refine w_ifgt dX7_lowestTerms_48 (fun h48 => ?_) (fun h48 => ?_)
        · --t
          refine w_il dX7_lowestTerms_55 rfl ?_
          refine w_ifneN dX7_lowestTerms_57 (by omega) (fun h57 => ?_) (fun h57 => ?_)
          · --t
            refine w_ll dX7_lowestTerms_67 rfl ?_
            refine w_ll dX7_lowestTerms_68 rfl ?_
            refine w_ldivL dX7_lowestTerms_70 (by omega) (by omega) (by omega) ?_
            refine w_lret dX7_lowestTerms_71 rfl ?_
            rw [← hQ]
            exact ⟨congrArg (fun z => some (Value.long z)) (by rw [lowT, if_neg h57, eg]), rfl⟩
          · --f
            refine w_ll dX7_lowestTerms_60 rfl ?_
            refine w_ll dX7_lowestTerms_61 rfl ?_
            refine w_ldivL dX7_lowestTerms_63 (by omega) (by omega) (by omega) ?_
            refine w_goto dX7_lowestTerms_64 ?_
            refine w_lret dX7_lowestTerms_71 rfl ?_
            rw [← hQ]
            exact ⟨congrArg (fun z => some (Value.long z)) (by rw [lowT, if_pos h57, eg]), rfl⟩
        · --f
          exact absurd (lgcp (by omega) hd) h48
      · --f
        refine w_ll dX7_lowestTerms_16 rfl ?_
        refine w_kl dX7_lowestTerms_18 ?_
        refine w_lcmp dX7_lowestTerms_19 ?_
        refine w_ifeq dX7_lowestTerms_20 (fun h20 => ?_) (fun h20 => ?_)
        · --t
          have er : r = 0 := (lgc0 (by omega) (by decide)).mp h20
          have eg : Nat.gcd a b = d := by rw [← hg, er, Nat.gcd_zero_right]
          refine w_ll dX7_lowestTerms_44 rfl ?_
          refine w_kl dX7_lowestTerms_46 ?_
          refine w_lcmp dX7_lowestTerms_47 ?_
          refine w_ifgt dX7_lowestTerms_48 (fun h48 => ?_) (fun h48 => ?_)
          · --t
            refine w_il dX7_lowestTerms_55 rfl ?_
            refine w_ifneN dX7_lowestTerms_57 (by omega) (fun h57 => ?_) (fun h57 => ?_)
            · --t
              refine w_ll dX7_lowestTerms_67 rfl ?_
              refine w_ll dX7_lowestTerms_68 rfl ?_
              refine w_ldivL dX7_lowestTerms_70 (by omega) (by omega) (by omega) ?_
              refine w_lret dX7_lowestTerms_71 rfl ?_
              rw [← hQ]
              exact ⟨congrArg (fun z => some (Value.long z)) (by rw [lowT, if_neg h57, eg]), rfl⟩
            · --f
              refine w_ll dX7_lowestTerms_60 rfl ?_
              refine w_ll dX7_lowestTerms_61 rfl ?_
              refine w_ldivL dX7_lowestTerms_63 (by omega) (by omega) (by omega) ?_
              refine w_goto dX7_lowestTerms_64 ?_
              refine w_lret dX7_lowestTerms_71 rfl ?_
              rw [← hQ]
              exact ⟨congrArg (fun z => some (Value.long z)) (by rw [lowT, if_pos h57, eg]), rfl⟩
          · --f
            exact absurd (lgcp (by omega) hd) h48
        · --f
          have hr0 : 0 < r := Nat.pos_of_ne_zero (fun e => h20 ((lgc0 (by omega) (by decide)).mpr e))
          refine w_ll dX7_lowestTerms_23 rfl ?_
          refine w_ll dX7_lowestTerms_25 rfl ?_
          refine w_lremL dX7_lowestTerms_27 (by omega) (by omega) (by omega) ?_
          refine w_ls (ls2 := [some (.long (lN a)), none, some (.long (lN b)), none, some (.int (nI w)), some (.long (lN d)), none, some (.long (lN r)), none, some (.int (nI s)), some (.long (lN (d % r))), none]) dX7_lowestTerms_28 rfl ?_
          refine w_ll dX7_lowestTerms_30 rfl ?_
          refine w_ls (ls2 := [some (.long (lN a)), none, some (.long (lN b)), none, some (.int (nI w)), some (.long (lN r)), none, some (.long (lN r)), none, some (.int (nI s)), some (.long (lN (d % r))), none]) dX7_lowestTerms_32 rfl ?_
          refine w_ll dX7_lowestTerms_34 rfl ?_
          refine w_ls (ls2 := [some (.long (lN a)), none, some (.long (lN b)), none, some (.int (nI w)), some (.long (lN r)), none, some (.long (lN (d % r))), none, some (.int (nI s)), some (.long (lN (d % r))), none]) dX7_lowestTerms_36 rfl ?_
          refine w_iincN (ls2 := [some (.long (lN a)), none, some (.long (lN b)), none, some (.int (nI w)), some (.long (lN r)), none, some (.long (lN (d % r))), none, some (.int (nI (s + 1))), some (.long (lN (d % r))), none]) dX7_lowestTerms_38 rfl rfl ?_
          refine w_goto dX7_lowestTerms_41 ?_
          refine w_weak (ls2 := [some (.long (lN a)), none, some (.long (lN b)), none, some (.int (nI w)), some (.long (lN r)), none, some (.long (lN (d % r))), none, some (.int (nI (s + 1))), none, none]) ⟨rfl, ⟨rfl, ⟨rfl, ⟨rfl, ⟨rfl, ⟨rfl, trivial⟩⟩⟩⟩⟩⟩ ?_
          exact ih9 r (d % r) (s + 1) (by rw [← hg, Nat.gcd_comm d r, Nat.gcd_rec r d, Nat.gcd_comm]) (hr0) (by have := Nat.mod_lt d hr0; omega) (by omega) (by omega) (euclid hr0 hrd hE) (by omega)
  exact L9 _ b a 0 (Nat.gcd_comm b a) (h0) (hab) (Nat.le_refl _) (by omega) (by rw [Nat.pow_zero, Nat.mul_one]; calc b * a ≤ 2 ^ 48 * 2 ^ 48 := Nat.mul_le_mul hb (Nat.le_trans hab hb)
        _ < 2 ^ 98 := by decide) (Nat.lt_succ_self _)

set_option maxHeartbeats 4000000 in
theorem c_X8_lowest (ρ : Rho) (a b w : Nat) (hab : a ≤ b) (h0 : 0 < b) (hb : b ≤ 2 ^ 48) (hw : w < 2) : CallOK 0 mX8_lowest [.long (lN a), .long (lN b), .int (nI w)] ρ (fun r ρ2 => r = some (.long (lowT a b w)) ∧ ρ2 = ρ) := by
  refine callOK_of 6 (by decide +kernel) rfl (fun _ => Nat.le_of_ble_eq_true rfl) (ls := [some (.long (lN a)), none, some (.long (lN b)), none, some (.int (nI w)), none, none, none, none, none, none]) rfl ?_
  generalize hQ : (fun r ρ2 => r = some (.long (lowT a b w)) ∧ ρ2 = ρ : Option Value → Rho → Prop) = Q
  refine w_ll dX8_lowest_0 rfl ?_
  refine w_ls (ls2 := [some (.long (lN a)), none, some (.long (lN b)), none, some (.int (nI w)), some (.long (lN a)), none, none, none, none, none]) dX8_lowest_1 rfl ?_
  refine w_ll dX8_lowest_3 rfl ?_
  refine w_ls (ls2 := [some (.long (lN a)), none, some (.long (lN b)), none, some (.int (nI w)), some (.long (lN a)), none, some (.long (lN b)), none, none, none]) dX8_lowest_4 rfl ?_
  have L6 : ∀ (n6 : Nat) (d : Nat) (r : Nat), (Nat.gcd d r = Nat.gcd a b) → (d ≤ b) → (r ≤ b) → (0 < d ∨ 0 < r) → r < n6 → MW mX8_lowest 0 6 [some (.long (lN a)), none, some (.long (lN b)), none, some (.int (nI w)), some (.long (lN d)), none, some (.long (lN r)), none, none, none] [] ρ Q := by
    intro n6
    induction n6 with
    | zero =>
      intro d r hg hdb hrb hdr hm6
      exact absurd hm6 (Nat.not_lt_zero _)
    | succ n6 ih6 =>
      intro d r hg hdb hrb hdr hm6
      refine w_ll dX8_lowest_6 rfl ?_
      refine w_kl dX8_lowest_8 ?_
      refine w_lcmp dX8_lowest_9 ?_
      refine w_ifeq dX8_lowest_10 (fun h10 => ?_) (fun h10 => ?_)
      · --t
        have er : r = 0 := (lgc0 (by omega) (by decide)).mp h10
        have eg : Nat.gcd a b = d := by rw [← hg, er, Nat.gcd_zero_right]
        refine w_il dX8_lowest_31 rfl ?_
        refine w_ifneN dX8_lowest_33 (by omega) (fun h33 => ?_) (fun h33 => ?_)
        · --t
          refine w_ll dX8_lowest_43 rfl ?_
          refine w_ll dX8_lowest_44 rfl ?_
          refine w_ldivL dX8_lowest_46 (by omega) (by omega) (by omega) ?_
          refine w_lret dX8_lowest_47 rfl ?_
          rw [← hQ]
          exact ⟨congrArg (fun z => some (Value.long z)) (by rw [lowT, if_neg h33, eg]), rfl⟩
        · --f
          refine w_ll dX8_lowest_36 rfl ?_
          refine w_ll dX8_lowest_37 rfl ?_
          refine w_ldivL dX8_lowest_39 (by omega) (by omega) (by omega) ?_
          refine w_goto dX8_lowest_40 ?_
          refine w_lret dX8_lowest_47 rfl ?_
          rw [← hQ]
          exact ⟨congrArg (fun z => some (Value.long z)) (by rw [lowT, if_pos h33, eg]), rfl⟩
      · --f
        have hr0 : 0 < r := Nat.pos_of_ne_zero (fun e => h10 ((lgc0 (by omega) (by decide)).mpr e))
        refine w_ll dX8_lowest_13 rfl ?_
        refine w_ll dX8_lowest_15 rfl ?_
        refine w_lremL dX8_lowest_17 (by omega) (by omega) (by omega) ?_
        refine w_ls (ls2 := [some (.long (lN a)), none, some (.long (lN b)), none, some (.int (nI w)), some (.long (lN d)), none, some (.long (lN r)), none, some (.long (lN (d % r))), none]) dX8_lowest_18 rfl ?_
        refine w_ll dX8_lowest_20 rfl ?_
        refine w_ls (ls2 := [some (.long (lN a)), none, some (.long (lN b)), none, some (.int (nI w)), some (.long (lN r)), none, some (.long (lN r)), none, some (.long (lN (d % r))), none]) dX8_lowest_22 rfl ?_
        refine w_ll dX8_lowest_24 rfl ?_
        refine w_ls (ls2 := [some (.long (lN a)), none, some (.long (lN b)), none, some (.int (nI w)), some (.long (lN r)), none, some (.long (lN (d % r))), none, some (.long (lN (d % r))), none]) dX8_lowest_26 rfl ?_
        refine w_goto dX8_lowest_28 ?_
        refine w_weak (ls2 := [some (.long (lN a)), none, some (.long (lN b)), none, some (.int (nI w)), some (.long (lN r)), none, some (.long (lN (d % r))), none, none, none]) ⟨rfl, ⟨rfl, ⟨rfl, ⟨rfl, ⟨rfl, trivial⟩⟩⟩⟩⟩ ?_
        exact ih6 r (d % r) (by rw [← hg, Nat.gcd_comm d r, Nat.gcd_rec r d, Nat.gcd_comm]) (by omega) (by have := Nat.mod_lt d hr0; omega) (Or.inl hr0) (by have := Nat.mod_lt d hr0; omega)
  exact L6 _ a b (rfl) (hab) (Nat.le_refl _) (Or.inr h0) (Nat.lt_succ_self _)

set_option maxHeartbeats 4000000 in
theorem c_X7_daysWith (ρ : Rho) (σ : Sg) (x y a n : Nat) (hL : CLd σ ρ) (h16 : ∀ t, t < 8 → ρ.1 16 t = nI (tal σ a n t)) (hx : x < 8) (hy : y < 5) (hn : n ≤ 100) : CallOK 0 mX7_daysWith [.ref 0, .int (nI x), .int (nI y)] ρ (fun r ρ2 => r = some (.int (nI (dyN σ x y a n))) ∧ ρ2 = ρ) := by
  refine callOK_of 2 (by decide +kernel) rfl (fun _ => Nat.le_of_ble_eq_true rfl) (ls := [some (.ref 0), some (.int (nI x)), some (.int (nI y)), none, none]) rfl ?_
  generalize hQ : (fun r ρ2 => r = some (.int (nI (dyN σ x y a n))) ∧ ρ2 = ρ : Option Value → Rho → Prop) = Q
  refine w_k dX7_daysWith_0 ?_
  refine w_is (ls2 := [some (.ref 0), some (.int (nI x)), some (.int (nI y)), some (.int (nI 0)), none]) dX7_daysWith_1 rfl ?_
  refine w_k dX7_daysWith_2 ?_
  refine w_is (ls2 := [some (.ref 0), some (.int (nI x)), some (.int (nI y)), some (.int (nI 0)), some (.int (nI 0))]) dX7_daysWith_3 rfl ?_
  have L5 : ∀ (n5 : Nat) (k : Nat), (k ≤ 8) → (8 - k) < n5 → MW mX7_daysWith 0 5 [some (.ref 0), some (.int (nI x)), some (.int (nI y)), some (.int (nI (dyC σ x y a n k))), some (.int (nI k))] [] ρ Q := by
    intro n5
    induction n5 with
    | zero =>
      intro k hk hm5
      exact absurd hm5 (Nat.not_lt_zero _)
    | succ n5 ih5 =>
      intro k hk hm5
      have wt := Th_le σ ((x + k) % 8)
      have wd := dyC_le σ x y a n k
      have we := tal_le σ a n k
      refine w_il dX7_daysWith_5 rfl ?_
      refine w_k dX7_daysWith_7 ?_
      refine w_icgeN dX7_daysWith_9 (by omega) (by omega) (fun h9 => ?_) (fun h9 => ?_)
      · --t
        refine w_il dX7_daysWith_50 rfl ?_
        refine w_iret dX7_daysWith_51 rfl ?_
        rw [← hQ]
        exact ⟨by rw [show k = 8 by omega, dyC_8], rfl⟩
      · --f
        refine w_al dX7_daysWith_12 rfl ?_
        refine w_gr dX7_daysWith_13 fl_X7_10 sh0 rfl ?_
        refine w_gr dX7_daysWith_16 fl_X7_77 sh1 rfl ?_
        refine w_il dX7_daysWith_19 rfl ?_
        refine w_il dX7_daysWith_20 rfl ?_
        refine w_iaddN dX7_daysWith_22 ?_
        refine w_k dX7_daysWith_23 ?_
        refine w_iand7 dX7_daysWith_25 (by omega) ?_
        refine w_ialdV (v := (nI (Th σ ((x + k) % 8)))) dX7_daysWith_26 sh3 (by omega) (hL.1 _ (by omega)) ?_
        refine w_il dX7_daysWith_27 rfl ?_
        refine w_icneN dX7_daysWith_28 (by omega) (by omega) (fun h28 => ?_) (fun h28 => ?_)
        · --t
          refine w_iincN (ls2 := [some (.ref 0), some (.int (nI x)), some (.int (nI y)), some (.int (nI (dyC σ x y a n k))), some (.int (nI (k + 1)))]) dX7_daysWith_44 rfl rfl ?_
          refine w_goto dX7_daysWith_47 ?_
          rw [← dyC_n h28]
          exact ih5 (k + 1) (by omega) (by omega)
        · --f
          refine w_il dX7_daysWith_31 rfl ?_
          refine w_al dX7_daysWith_32 rfl ?_
          refine w_gr dX7_daysWith_33 fl_X7_19 sh0 rfl ?_
          refine w_gr dX7_daysWith_36 fl_X7_165 sh10 rfl ?_
          refine w_il dX7_daysWith_39 rfl ?_
          refine w_ialdV (v := (nI (tal σ a n k))) dX7_daysWith_41 sh16 (by omega) (h16 _ (by omega)) ?_
          refine w_iaddN dX7_daysWith_42 ?_
          refine w_is (ls2 := [some (.ref 0), some (.int (nI x)), some (.int (nI y)), some (.int (nI (dyC σ x y a n k + (tal σ a n k)))), some (.int (nI k))]) dX7_daysWith_43 rfl ?_
          refine w_iincN (ls2 := [some (.ref 0), some (.int (nI x)), some (.int (nI y)), some (.int (nI (dyC σ x y a n k + (tal σ a n k)))), some (.int (nI (k + 1)))]) dX7_daysWith_44 rfl rfl ?_
          refine w_goto dX7_daysWith_47 ?_
          rw [← dyC_y h28]
          exact ih5 (k + 1) (by omega) (by omega)
  exact L5 _ 0 (by omega) (Nat.lt_succ_self _)

set_option maxHeartbeats 4000000 in
theorem c_X8_daysOf (ρ : Rho) (σ : Sg) (x y a b : Nat) (hD : Laid σ ρ) (hx : x < 8) (hy : y < 5) (hab : a ≤ b) (hb : b < 100) : CallOK 1 mX8_daysOf [.ref 47, .int (nI x), .int (nI y), .int (nI a), .int (nI b)] ρ (fun r ρ2 => r = some (.int (nI (dyN σ x y a (b + 1 - a)))) ∧ ρ2 = ρ) := by
  refine callOK_of 2 (by decide +kernel) rfl (fun _ => Nat.le_of_ble_eq_true rfl) (ls := [some (.ref 47), some (.int (nI x)), some (.int (nI y)), some (.int (nI a)), some (.int (nI b)), none, none]) rfl ?_
  generalize hQ : (fun r ρ2 => r = some (.int (nI (dyN σ x y a (b + 1 - a)))) ∧ ρ2 = ρ : Option Value → Rho → Prop) = Q
  refine w_k dX8_daysOf_0 ?_
  refine w_is (ls2 := [some (.ref 47), some (.int (nI x)), some (.int (nI y)), some (.int (nI a)), some (.int (nI b)), some (.int (nI 0)), none]) dX8_daysOf_1 rfl ?_
  refine w_il dX8_daysOf_3 rfl ?_
  refine w_is (ls2 := [some (.ref 47), some (.int (nI x)), some (.int (nI y)), some (.int (nI a)), some (.int (nI b)), some (.int (nI 0)), some (.int (nI a))]) dX8_daysOf_4 rfl ?_
  have L6 : ∀ (n6 : Nat) (i : Nat), (i ≤ b + 1 - a) → (b + 1 - a - i) < n6 → MW mX8_daysOf 1 6 [some (.ref 47), some (.int (nI x)), some (.int (nI y)), some (.int (nI a)), some (.int (nI b)), some (.int (nI (dyN σ x y a i))), some (.int (nI (a + i)))] [] ρ Q := by
    intro n6
    induction n6 with
    | zero =>
      intro i hi hm6
      exact absurd hm6 (Nat.not_lt_zero _)
    | succ n6 ih6 =>
      intro i hi hm6
      have wt := Th_le σ (dr σ x (a + i))
      have wd := dyN_le σ x y a i
      have we := dr_lt σ x (a + i)
      refine w_il dX8_daysOf_6 rfl ?_
      refine w_il dX8_daysOf_8 rfl ?_
      refine w_icgtN dX8_daysOf_10 (by omega) (by omega) (fun h10 => ?_) (fun h10 => ?_)
      · --t
        refine w_il dX8_daysOf_45 rfl ?_
        refine w_iret dX8_daysOf_47 rfl ?_
        rw [← hQ]
        exact ⟨by rw [show i = b + 1 - a by omega], rfl⟩
      · --f
        refine w_il dX8_daysOf_13 rfl ?_
        refine w_al dX8_daysOf_15 rfl ?_
        refine w_gr dX8_daysOf_16 fl_X8_13 sh47 rfl ?_
        refine w_al dX8_daysOf_19 rfl ?_
        refine w_il dX8_daysOf_20 rfl ?_
        refine w_il dX8_daysOf_21 rfl ?_
        refine w_cVf dX8_daysOf_23 (vl_X8_157 _ rfl) sh47 (by decide) (c_X8_doorAt ρ σ x (a + i) hD (by omega) (by omega)) rfl rfl (Nat.le_of_ble_eq_true rfl) ?_
        refine w_ialdV (v := (nI (Th σ (dr σ x (a + i))))) dX8_daysOf_26 sh49 (by omega) (hD.1.1 _ (by omega)) ?_
        refine w_il dX8_daysOf_27 rfl ?_
        refine w_icneN dX8_daysOf_28 (by omega) (by omega) (fun h28 => ?_) (fun h28 => ?_)
        · --t
          refine w_k dX8_daysOf_35 ?_
          refine w_iaddN dX8_daysOf_36 ?_
          refine w_is (ls2 := [some (.ref 47), some (.int (nI x)), some (.int (nI y)), some (.int (nI a)), some (.int (nI b)), some (.int (nI (dyN σ x y a i))), some (.int (nI (a + i)))]) dX8_daysOf_37 rfl ?_
          refine w_iincN (ls2 := [some (.ref 47), some (.int (nI x)), some (.int (nI y)), some (.int (nI a)), some (.int (nI b)), some (.int (nI (dyN σ x y a i))), some (.int (nI (a + i + 1)))]) dX8_daysOf_39 rfl rfl ?_
          refine w_goto dX8_daysOf_42 ?_
          rw [← dyN_n h28]
          exact ih6 (i + 1) (by omega) (by omega)
        · --f
          refine w_k dX8_daysOf_31 ?_
          refine w_goto dX8_daysOf_32 ?_
          refine w_iaddN dX8_daysOf_36 ?_
          refine w_is (ls2 := [some (.ref 47), some (.int (nI x)), some (.int (nI y)), some (.int (nI a)), some (.int (nI b)), some (.int (nI (dyN σ x y a i + 1))), some (.int (nI (a + i)))]) dX8_daysOf_37 rfl ?_
          refine w_iincN (ls2 := [some (.ref 47), some (.int (nI x)), some (.int (nI y)), some (.int (nI a)), some (.int (nI b)), some (.int (nI (dyN σ x y a i + 1))), some (.int (nI (a + i + 1)))]) dX8_daysOf_39 rfl rfl ?_
          refine w_goto dX8_daysOf_42 ?_
          rw [← dyN_y h28]
          exact ih6 (i + 1) (by omega) (by omega)
  exact L6 _ 0 (by omega) (Nat.lt_succ_self _)

set_option maxHeartbeats 4000000 in
theorem c_X7_share (ρ : Rho) (σ : Sg) (p : Int32) (q : Int32) (f : Int32) (t : Int32) (w : Int32) (hC : CInv σ ρ) : CallOK 3 mX7_share [.ref 0, .int p, .int q, .int f, .int t, .int w] ρ (fun r ρ2 => ∃ v, r = some v ∧ (v = .long (r_share σ p q f t w) ∧ CInv (σ) ρ2 ∧ EqM ρ ρ2)) := by
  refine callOK_of 0 (by decide +kernel) rfl (fun _ => Nat.le_of_ble_eq_true rfl) (ls := [some (.ref 0), some (.int p), some (.int q), some (.int f), some (.int t), some (.int w)]) rfl ?_
  generalize hQ : (fun r ρ2 => ∃ v, r = some v ∧ (v = .long (r_share σ p q f t w) ∧ CInv (σ) ρ2 ∧ EqM ρ ρ2) : Option Value → Rho → Prop) = Q
  refine w_il dX7_share_0 rfl ?_
  refine w_k dX7_share_1 ?_
  refine w_cSf dX7_share_3 (sl_X7_61 _ rfl) (by decide) (c_X7_within ρ p (nI 7)) rfl rfl (Nat.le_of_ble_eq_true rfl) ?_
  refine w_ifeqB dX7_share_6 (fun h6 => ?_) (fun h6 => ?_)
  · --t
    refine w_kl dX7_share_34 ?_
    refine w_lret dX7_share_37 rfl ?_
    rw [← hQ]
    exact ⟨_, rfl, by rw [r_share, if_neg (fun z => h6 z.1)], ⟨hC.1, hC.2.1, hC.2.2⟩, EqM.rf⟩
  · --f
    obtain ⟨x, hx, rfl⟩ := inR_nI h6 (by decide)
    refine w_il dX7_share_9 rfl ?_
    refine w_cSf dX7_share_10 (sl_X7_147 _ rfl) (by decide) (c_X7_isThing ρ q) rfl rfl (Nat.le_of_ble_eq_true rfl) ?_
    refine w_ifeqB dX7_share_13 (fun h13 => ?_) (fun h13 => ?_)
    · --t
      refine w_kl dX7_share_34 ?_
      refine w_lret dX7_share_37 rfl ?_
      rw [← hQ]
      exact ⟨_, rfl, by rw [r_share, if_neg (fun z => h13 z.2.1)], ⟨hC.1, hC.2.1, hC.2.2⟩, EqM.rf⟩
    · --f
      obtain ⟨y, hy, rfl⟩ := inR_nI h13 (by decide)
      refine w_il dX7_share_16 rfl ?_
      refine w_il dX7_share_17 rfl ?_
      refine w_cSf dX7_share_19 (sl_X7_150 _ rfl) (by decide) (c_X7_isSpan ρ f t) rfl rfl (Nat.le_of_ble_eq_true rfl) ?_
      refine w_ifeqB dX7_share_22 (fun h22 => ?_) (fun h22 => ?_)
      · --t
        refine w_kl dX7_share_34 ?_
        refine w_lret dX7_share_37 rfl ?_
        rw [← hQ]
        exact ⟨_, rfl, by rw [r_share, if_neg (fun z => h22 z.2.2.1)], ⟨hC.1, hC.2.1, hC.2.2⟩, EqM.rf⟩
      · --f
        obtain ⟨a, b, hab, hb, rfl, rfl⟩ := spn_nI h22
        refine w_il dX7_share_25 rfl ?_
        refine w_k dX7_share_27 ?_
        refine w_cSf dX7_share_28 (sl_X7_61 _ rfl) (by decide) (c_X7_within ρ w (nI 1)) rfl rfl (Nat.le_of_ble_eq_true rfl) ?_
        refine w_ifneB dX7_share_31 (fun h31 => ?_) (fun h31 => ?_)
        · --t
          obtain ⟨z, hz, rfl⟩ := inR_nI h31 (by decide)
          refine w_al dX7_share_38 rfl ?_
          refine w_gr dX7_share_39 fl_X7_19 sh0 rfl ?_
          refine w_il dX7_share_42 rfl ?_
          refine w_il dX7_share_43 rfl ?_
          refine w_cVu dX7_share_45 (vl_X7_155 _ rfl) sh10 (by decide) (c_X1_tally ρ σ a b hC.2.2 (by omega) (by omega)) rfl rfl (Nat.le_of_ble_eq_true rfl) (fun ρt ht9 => ?_)
          obtain ⟨hFt, htt⟩ := ht9
          refine w_al dX7_share_48 rfl ?_
          refine w_il dX7_share_49 rfl ?_
          refine w_il dX7_share_50 rfl ?_
          refine w_cVf dX7_share_51 (vl_X7_158 _ rfl) sh0 (by decide) (c_X7_daysWith ρt σ x y a (b + 1 - a) (CLd.fr hC.2.1 hFt (by decide)) htt (by omega) (by omega) (by omega)) rfl rfl (Nat.le_of_ble_eq_true rfl) ?_
          have wn := dyN_le σ x y a (b + 1 - a)
          refine w_i2lN dX7_share_54 (by omega) ?_
          refine w_il dX7_share_55 rfl ?_
          refine w_il dX7_share_57 rfl ?_
          refine w_isubN dX7_share_58 (by omega) ?_
          refine w_k dX7_share_59 ?_
          refine w_iaddN dX7_share_60 ?_
          rw [show b - a + 1 = b + 1 - a by omega]
          have wn := dyN_le σ x y a (b + 1 - a)
          refine w_i2lN dX7_share_61 (by omega) ?_
          refine w_il dX7_share_62 rfl ?_
          refine w_cSf dX7_share_64 (sl_X7_161 _ rfl) (by decide) (c_X7_lowestTerms ρt (dyN σ x y a (b + 1 - a)) (b + 1 - a) z (by omega) (by omega) (by omega) (by omega)) rfl rfl (Nat.le_of_ble_eq_true rfl) ?_
          refine w_lret dX7_share_67 rfl ?_
          rw [← hQ]
          exact ⟨_, rfl, by rw [r_share, if_pos ⟨h6, h13, h22, h31⟩, nv_nI (a := x) (by omega), nv_nI (a := y) (by omega), nv_nI (a := a) (by omega), nv_nI (a := b) (by omega), nv_nI (a := z) (by omega)], ⟨(CP.fr hC.1 hFt (by decide)), (CLd.fr hC.2.1 hFt (by decide)), (CTn.fr hC.2.2 hFt (by decide))⟩, (Fr.eqM hFt (by decide))⟩
        · --f
          refine w_kl dX7_share_34 ?_
          refine w_lret dX7_share_37 rfl ?_
          rw [← hQ]
          exact ⟨_, rfl, by rw [r_share, if_neg (fun z => h31 z.2.2.2)], ⟨hC.1, hC.2.1, hC.2.2⟩, EqM.rf⟩

set_option maxHeartbeats 4000000 in
theorem c_X8_share (ρ : Rho) (σ : Sg) (p : Int32) (q : Int32) (f : Int32) (t : Int32) (w : Int32) (hM : MInv σ ρ) : CallOK 5 mX8_share [.ref 47, .int p, .int q, .int f, .int t, .int w] ρ (fun r ρ2 => ∃ v, r = some v ∧ (v = .long (r_share σ p q f t w) ∧ MInv (σ) ρ2 ∧ EqC ρ ρ2)) := by
  refine callOK_of 0 (by decide +kernel) rfl (fun _ => Nat.le_of_ble_eq_true rfl) (ls := [some (.ref 47), some (.int p), some (.int q), some (.int f), some (.int t), some (.int w)]) rfl ?_
  generalize hQ : (fun r ρ2 => ∃ v, r = some v ∧ (v = .long (r_share σ p q f t w) ∧ MInv (σ) ρ2 ∧ EqC ρ ρ2) : Option Value → Rho → Prop) = Q
  refine w_il dX8_share_0 rfl ?_
  refine w_cSf dX8_share_1 (sl_X8_118 _ rfl) (by decide) (c_X8_isEighth ρ p) rfl rfl (Nat.le_of_ble_eq_true rfl) ?_
  refine w_ifeqB dX8_share_4 (fun h4 => ?_) (fun h4 => ?_)
  · --t
    refine w_k dX8_share_33 ?_
    refine w_cSf dX8_share_35 (sl_X8_169 _ rfl) (by decide) (c_X8_no ρ) rfl rfl (Nat.le_of_ble_eq_true rfl) ?_
    refine w_lret dX8_share_38 rfl ?_
    rw [← hQ]
    exact ⟨_, rfl, by rw [r_share, if_neg (fun z => h4 z.1)], hM, EqC.rf⟩
  · --f
    obtain ⟨x, hx, rfl⟩ := inR_nI h4 (by decide)
    refine w_il dX8_share_7 rfl ?_
    refine w_cSf dX8_share_8 (sl_X8_163 _ rfl) (by decide) (c_X8_isThing ρ q) rfl rfl (Nat.le_of_ble_eq_true rfl) ?_
    refine w_ifeqB dX8_share_11 (fun h11 => ?_) (fun h11 => ?_)
    · --t
      refine w_k dX8_share_33 ?_
      refine w_cSf dX8_share_35 (sl_X8_169 _ rfl) (by decide) (c_X8_no ρ) rfl rfl (Nat.le_of_ble_eq_true rfl) ?_
      refine w_lret dX8_share_38 rfl ?_
      rw [← hQ]
      exact ⟨_, rfl, by rw [r_share, if_neg (fun z => h11 z.2.1)], hM, EqC.rf⟩
    · --f
      obtain ⟨y, hy, rfl⟩ := inR_nI h11 (by decide)
      refine w_il dX8_share_14 rfl ?_
      refine w_il dX8_share_15 rfl ?_
      refine w_cSf dX8_share_17 (sl_X8_166 _ rfl) (by decide) (c_X8_isSpan ρ f t) rfl rfl (Nat.le_of_ble_eq_true rfl) ?_
      refine w_ifeqB dX8_share_20 (fun h20 => ?_) (fun h20 => ?_)
      · --t
        refine w_k dX8_share_33 ?_
        refine w_cSf dX8_share_35 (sl_X8_169 _ rfl) (by decide) (c_X8_no ρ) rfl rfl (Nat.le_of_ble_eq_true rfl) ?_
        refine w_lret dX8_share_38 rfl ?_
        rw [← hQ]
        exact ⟨_, rfl, by rw [r_share, if_neg (fun z => h20 z.2.2.1)], hM, EqC.rf⟩
      · --f
        obtain ⟨a, b, hab, hb, rfl, rfl⟩ := spn_nI h20
        refine w_il dX8_share_23 rfl ?_
        refine w_k dX8_share_25 ?_
        refine w_k dX8_share_26 ?_
        refine w_cSf dX8_share_27 (sl_X8_89 _ rfl) (by decide) (c_X8_in ρ w (nI 0) (nI 1)) rfl rfl (Nat.le_of_ble_eq_true rfl) ?_
        refine w_ifneB dX8_share_30 (fun h30 => ?_) (fun h30 => ?_)
        · --t
          obtain ⟨z, hz, rfl⟩ := inR_nI h30 (by decide)
          refine w_al dX8_share_39 rfl ?_
          refine w_cVu dX8_share_40 (vl_X8_145 _ rfl) sh47 (by decide) (c_X8_lays ρ σ hM) rfl rfl (Nat.le_of_ble_eq_true rfl) (fun ρl1 hl1 => ?_)
          obtain ⟨hMl1, hEl1, hDl1⟩ := hl1
          refine w_al dX8_share_43 rfl ?_
          refine w_il dX8_share_44 rfl ?_
          refine w_il dX8_share_45 rfl ?_
          refine w_il dX8_share_46 rfl ?_
          refine w_il dX8_share_47 rfl ?_
          refine w_cVf dX8_share_49 (vl_X8_173 _ rfl) sh47 (by decide) (c_X8_daysOf ρl1 σ x y a b hDl1 (by omega) (by omega) (by omega) (by omega)) rfl rfl (Nat.le_of_ble_eq_true rfl) ?_
          have wn := dyN_le σ x y a (b + 1 - a)
          refine w_i2lN dX8_share_52 (by omega) ?_
          refine w_il dX8_share_53 rfl ?_
          refine w_il dX8_share_55 rfl ?_
          refine w_isubN dX8_share_56 (by omega) ?_
          refine w_k dX8_share_57 ?_
          refine w_iaddN dX8_share_58 ?_
          rw [show b - a + 1 = b + 1 - a by omega]
          have wn := dyN_le σ x y a (b + 1 - a)
          refine w_i2lN dX8_share_59 (by omega) ?_
          refine w_il dX8_share_60 rfl ?_
          refine w_cSf dX8_share_62 (sl_X8_177 _ rfl) (by decide) (c_X8_lowest ρl1 (dyN σ x y a (b + 1 - a)) (b + 1 - a) z (by omega) (by omega) (by omega) (by omega)) rfl rfl (Nat.le_of_ble_eq_true rfl) ?_
          refine w_lret dX8_share_65 rfl ?_
          rw [← hQ]
          exact ⟨_, rfl, by rw [r_share, if_pos ⟨h4, h11, h20, h30⟩, nv_nI (a := x) (by omega), nv_nI (a := y) (by omega), nv_nI (a := a) (by omega), nv_nI (a := b) (by omega), nv_nI (a := z) (by omega)], hMl1, (EqC.tr EqC.rf hEl1)⟩
        · --f
          refine w_k dX8_share_33 ?_
          refine w_cSf dX8_share_35 (sl_X8_169 _ rfl) (by decide) (c_X8_no ρ) rfl rfl (Nat.le_of_ble_eq_true rfl) ?_
          refine w_lret dX8_share_38 rfl ?_
          rw [← hQ]
          exact ⟨_, rfl, by rw [r_share, if_neg (fun z => h30 z.2.2.2)], hM, EqC.rf⟩

set_option maxHeartbeats 4000000 in
theorem c_X7_shine (ρ : Rho) (σ : Sg) (p : Int32) (f : Int32) (t : Int32) (hC : CInv σ ρ) : CallOK 3 mX7_shine [.ref 0, .int p, .int f, .int t] ρ (fun r ρ2 => ∃ v, r = some v ∧ (v = .int (r_shine σ p f t) ∧ CInv (σ) ρ2 ∧ EqM ρ ρ2)) := by
  refine callOK_of 2 (by decide +kernel) rfl (fun _ => Nat.le_of_ble_eq_true rfl) (ls := [some (.ref 0), some (.int p), some (.int f), some (.int t), none, none]) rfl ?_
  generalize hQ : (fun r ρ2 => ∃ v, r = some v ∧ (v = .int (r_shine σ p f t) ∧ CInv (σ) ρ2 ∧ EqM ρ ρ2) : Option Value → Rho → Prop) = Q
  refine w_il dX7_shine_0 rfl ?_
  refine w_k dX7_shine_1 ?_
  refine w_cSf dX7_shine_3 (sl_X7_61 _ rfl) (by decide) (c_X7_within ρ p (nI 7)) rfl rfl (Nat.le_of_ble_eq_true rfl) ?_
  refine w_ifeqB dX7_shine_6 (fun h6 => ?_) (fun h6 => ?_)
  · --t
    refine w_k dX7_shine_17 ?_
    refine w_iret dX7_shine_19 rfl ?_
    rw [← hQ]
    exact ⟨_, rfl, by rw [r_shine, if_neg (fun z => h6 z.1)], ⟨hC.1, hC.2.1, hC.2.2⟩, EqM.rf⟩
  · --f
    obtain ⟨x, hx, rfl⟩ := inR_nI h6 (by decide)
    refine w_il dX7_shine_9 rfl ?_
    refine w_il dX7_shine_10 rfl ?_
    refine w_cSf dX7_shine_11 (sl_X7_150 _ rfl) (by decide) (c_X7_isSpan ρ f t) rfl rfl (Nat.le_of_ble_eq_true rfl) ?_
    refine w_ifneB dX7_shine_14 (fun h14 => ?_) (fun h14 => ?_)
    · --t
      obtain ⟨a, b, hab, hb, rfl, rfl⟩ := spn_nI h14
      refine w_al dX7_shine_20 rfl ?_
      refine w_gr dX7_shine_21 fl_X7_19 sh0 rfl ?_
      refine w_il dX7_shine_24 rfl ?_
      refine w_il dX7_shine_25 rfl ?_
      refine w_cVu dX7_shine_26 (vl_X7_155 _ rfl) sh10 (by decide) (c_X1_tally ρ σ a b hC.2.2 (by omega) (by omega)) rfl rfl (Nat.le_of_ble_eq_true rfl) (fun ρt ht9 => ?_)
      obtain ⟨hFt, htt⟩ := ht9
      refine w_k dX7_shine_29 ?_
      refine w_is (ls2 := [some (.ref 0), some (.int (nI x)), some (.int (nI a)), some (.int (nI b)), some (.int (nI 0)), none]) dX7_shine_30 rfl ?_
      refine w_k dX7_shine_32 ?_
      refine w_is (ls2 := [some (.ref 0), some (.int (nI x)), some (.int (nI a)), some (.int (nI b)), some (.int (nI 0)), some (.int (nI 0))]) dX7_shine_33 rfl ?_
      have L35 : ∀ (n35 : Nat) (k : Nat), (k ≤ 8) → (8 - k) < n35 → MW mX7_shine 3 35 [some (.ref 0), some (.int (nI x)), some (.int (nI a)), some (.int (nI b)), some (.int (nI (shC σ x a (b + 1 - a) k))), some (.int (nI k))] [] ρt Q := by
        intro n35
        induction n35 with
        | zero =>
          intro k hk hm35
          exact absurd hm35 (Nat.not_lt_zero _)
        | succ n35 ih35 =>
          intro k hk hm35
          have wl := shC_le hC.1.1 x a (b + 1 - a) k (by omega)
          refine w_il dX7_shine_35 rfl ?_
          refine w_k dX7_shine_37 ?_
          refine w_icgeN dX7_shine_39 (by omega) (by omega) (fun h39 => ?_) (fun h39 => ?_)
          · --t
            refine w_il dX7_shine_79 rfl ?_
            refine w_iret dX7_shine_81 rfl ?_
            rw [← hQ]
            exact ⟨_, rfl, by rw [r_shine, if_pos ⟨h6, h14⟩, nv_nI (a := x) (by omega), nv_nI (a := a) (by omega), nv_nI (a := b) (by omega), ← shC_8, show k = 8 by omega], ⟨(CP.fr hC.1 hFt (by decide)), (CLd.fr hC.2.1 hFt (by decide)), (CTn.fr hC.2.2 hFt (by decide))⟩, (Fr.eqM hFt (by decide))⟩
          · --f
            refine w_il dX7_shine_42 rfl ?_
            refine w_al dX7_shine_44 rfl ?_
            refine w_gr dX7_shine_45 fl_X7_19 sh0 rfl ?_
            refine w_gr dX7_shine_48 fl_X7_165 sh10 rfl ?_
            refine w_il dX7_shine_51 rfl ?_
            refine w_ialdV (v := (nI (tal σ a (b + 1 - a) k))) dX7_shine_53 sh16 (by omega) (htt _ (by omega)) ?_
            refine w_al dX7_shine_54 rfl ?_
            refine w_gr dX7_shine_55 fl_X7_10 sh0 rfl ?_
            refine w_gr dX7_shine_58 fl_X7_84 sh1 rfl ?_
            refine w_il dX7_shine_61 rfl ?_
            refine w_il dX7_shine_62 rfl ?_
            refine w_iaddN dX7_shine_64 ?_
            refine w_k dX7_shine_65 ?_
            refine w_iand7 dX7_shine_67 (by omega) ?_
            refine w_ialdV (v := (nI (σ.1 52 ((x + k) % 8)))) dX7_shine_68 sh5 (by omega) ((CP.fr hC.1 hFt (by decide)).2.1 (5, 52) (by decide) _) ?_
            refine w_imulN dX7_shine_69 ?_
            refine w_iaddN dX7_shine_70 ?_
            refine w_is (ls2 := [some (.ref 0), some (.int (nI x)), some (.int (nI a)), some (.int (nI b)), some (.int (nI (shC σ x a (b + 1 - a) k + ((tal σ a (b + 1 - a) k) * (σ.1 52 ((x + k) % 8)))))), some (.int (nI k))]) dX7_shine_71 rfl ?_
            refine w_iincN (ls2 := [some (.ref 0), some (.int (nI x)), some (.int (nI a)), some (.int (nI b)), some (.int (nI (shC σ x a (b + 1 - a) k + ((tal σ a (b + 1 - a) k) * (σ.1 52 ((x + k) % 8)))))), some (.int (nI (k + 1)))]) dX7_shine_73 rfl rfl ?_
            refine w_goto dX7_shine_76 ?_
            exact ih35 (k + 1) (by omega) (by omega)
      exact L35 _ 0 (by omega) (Nat.lt_succ_self _)
    · --f
      refine w_k dX7_shine_17 ?_
      refine w_iret dX7_shine_19 rfl ?_
      rw [← hQ]
      exact ⟨_, rfl, by rw [r_shine, if_neg (fun z => h14 z.2)], ⟨hC.1, hC.2.1, hC.2.2⟩, EqM.rf⟩

set_option maxHeartbeats 4000000 in
theorem c_X8_shineOf (ρ : Rho) (σ : Sg) (x : Nat) (a : Nat) (b : Nat) (hM : MInv σ ρ) (hx : x < 8) (hab : a ≤ b) (hb : b < 100) : CallOK 5 mX8_shineOf [.ref 47, .int (nI x), .int (nI a), .int (nI b)] ρ (fun r ρ2 => ∃ v, r = some v ∧ (v = .int (nI (shN σ x a (b + 1 - a))) ∧ MInv σ ρ2 ∧ EqC ρ ρ2)) := by
  refine callOK_of 2 (by decide +kernel) rfl (fun _ => Nat.le_of_ble_eq_true rfl) (ls := [some (.ref 47), some (.int (nI x)), some (.int (nI a)), some (.int (nI b)), none, none]) rfl ?_
  generalize hQ : (fun r ρ2 => ∃ v, r = some v ∧ (v = .int (nI (shN σ x a (b + 1 - a))) ∧ MInv σ ρ2 ∧ EqC ρ ρ2) : Option Value → Rho → Prop) = Q
  refine w_al dX8_shineOf_0 rfl ?_
  refine w_cVu dX8_shineOf_1 (vl_X8_145 _ rfl) sh47 (by decide) (c_X8_lays ρ σ hM) rfl rfl (Nat.le_of_ble_eq_true rfl) (fun ρl1 hl1 => ?_)
  obtain ⟨hMl1, hEl1, hDl1⟩ := hl1
  refine w_k dX8_shineOf_4 ?_
  refine w_is (ls2 := [some (.ref 47), some (.int (nI x)), some (.int (nI a)), some (.int (nI b)), some (.int (nI 0)), none]) dX8_shineOf_5 rfl ?_
  refine w_il dX8_shineOf_7 rfl ?_
  refine w_is (ls2 := [some (.ref 47), some (.int (nI x)), some (.int (nI a)), some (.int (nI b)), some (.int (nI 0)), some (.int (nI a))]) dX8_shineOf_8 rfl ?_
  have L10 : ∀ (n10 : Nat) (i : Nat), (i ≤ b + 1 - a) → (b + 1 - a - i) < n10 → MW mX8_shineOf 5 10 [some (.ref 47), some (.int (nI x)), some (.int (nI a)), some (.int (nI b)), some (.int (nI (shN σ x a i))), some (.int (nI (a + i)))] [] ρl1 Q := by
    intro n10
    induction n10 with
    | zero =>
      intro i hi hm10
      exact absurd hm10 (Nat.not_lt_zero _)
    | succ n10 ih10 =>
      intro i hi hm10
      have wd := shN_le hM.1 x a i
      have we := dr_lt σ x (a + i)
      refine w_il dX8_shineOf_10 rfl ?_
      refine w_il dX8_shineOf_12 rfl ?_
      refine w_icgtN dX8_shineOf_13 (by omega) (by omega) (fun h13 => ?_) (fun h13 => ?_)
      · --t
        refine w_il dX8_shineOf_39 rfl ?_
        refine w_iret dX8_shineOf_41 rfl ?_
        rw [← hQ]
        exact ⟨_, rfl, by rw [show i = b + 1 - a by omega], hMl1, (EqC.tr EqC.rf hEl1)⟩
      · --f
        refine w_il dX8_shineOf_16 rfl ?_
        refine w_al dX8_shineOf_18 rfl ?_
        refine w_gr dX8_shineOf_19 fl_X8_22 sh47 rfl ?_
        refine w_al dX8_shineOf_22 rfl ?_
        refine w_il dX8_shineOf_23 rfl ?_
        refine w_il dX8_shineOf_24 rfl ?_
        refine w_cVf dX8_shineOf_26 (vl_X8_157 _ rfl) sh47 (by decide) (c_X8_doorAt ρl1 σ x (a + i) hDl1 (by omega) (by omega)) rfl rfl (Nat.le_of_ble_eq_true rfl) ?_
        refine w_ialdV (v := (nI (σ.1 52 (dr σ x (a + i))))) dX8_shineOf_29 sh52 (by omega) (hMl1.2.1 52 (by decide) _) ?_
        refine w_iaddN dX8_shineOf_30 ?_
        refine w_is (ls2 := [some (.ref 47), some (.int (nI x)), some (.int (nI a)), some (.int (nI b)), some (.int (nI (shN σ x a i + (σ.1 52 (dr σ x (a + i)))))), some (.int (nI (a + i)))]) dX8_shineOf_31 rfl ?_
        refine w_iincN (ls2 := [some (.ref 47), some (.int (nI x)), some (.int (nI a)), some (.int (nI b)), some (.int (nI (shN σ x a i + (σ.1 52 (dr σ x (a + i)))))), some (.int (nI (a + i + 1)))]) dX8_shineOf_33 rfl rfl ?_
        refine w_goto dX8_shineOf_36 ?_
        exact ih10 (i + 1) (by omega) (by omega)
  exact L10 _ 0 (by omega) (Nat.lt_succ_self _)

set_option maxHeartbeats 4000000 in
theorem c_X8_shine (ρ : Rho) (σ : Sg) (p : Int32) (f : Int32) (t : Int32) (hM : MInv σ ρ) : CallOK 6 mX8_shine [.ref 47, .int p, .int f, .int t] ρ (fun r ρ2 => ∃ v, r = some v ∧ (v = .int (r_shine σ p f t) ∧ MInv (σ) ρ2 ∧ EqC ρ ρ2)) := by
  refine callOK_of 0 (by decide +kernel) rfl (fun _ => Nat.le_of_ble_eq_true rfl) (ls := [some (.ref 47), some (.int p), some (.int f), some (.int t)]) rfl ?_
  generalize hQ : (fun r ρ2 => ∃ v, r = some v ∧ (v = .int (r_shine σ p f t) ∧ MInv (σ) ρ2 ∧ EqC ρ ρ2) : Option Value → Rho → Prop) = Q
  refine w_il dX8_shine_0 rfl ?_
  refine w_cSf dX8_shine_1 (sl_X8_118 _ rfl) (by decide) (c_X8_isEighth ρ p) rfl rfl (Nat.le_of_ble_eq_true rfl) ?_
  refine w_ifeqB dX8_shine_4 (fun h4 => ?_) (fun h4 => ?_)
  · --t
    refine w_k dX8_shine_25 ?_
    refine w_iret dX8_shine_27 rfl ?_
    rw [← hQ]
    exact ⟨_, rfl, by rw [r_shine, if_neg (fun z => h4 z.1)], hM, EqC.rf⟩
  · --f
    obtain ⟨x, hx, rfl⟩ := inR_nI h4 (by decide)
    refine w_il dX8_shine_7 rfl ?_
    refine w_il dX8_shine_8 rfl ?_
    refine w_cSf dX8_shine_9 (sl_X8_166 _ rfl) (by decide) (c_X8_isSpan ρ f t) rfl rfl (Nat.le_of_ble_eq_true rfl) ?_
    refine w_ifeqB dX8_shine_12 (fun h12 => ?_) (fun h12 => ?_)
    · --t
      refine w_k dX8_shine_25 ?_
      refine w_iret dX8_shine_27 rfl ?_
      rw [← hQ]
      exact ⟨_, rfl, by rw [r_shine, if_neg (fun z => h12 z.2)], hM, EqC.rf⟩
    · --f
      obtain ⟨a, b, hab, hb, rfl, rfl⟩ := spn_nI h12
      refine w_al dX8_shine_15 rfl ?_
      refine w_il dX8_shine_16 rfl ?_
      refine w_il dX8_shine_17 rfl ?_
      refine w_il dX8_shine_18 rfl ?_
      refine w_cVr dX8_shine_19 (vl_X8_181 _ rfl) sh47 (by decide) (c_X8_shineOf ρ σ x a b hM (by omega) (by omega) (by omega)) rfl rfl (Nat.le_of_ble_eq_true rfl) (fun vh1 ρh1 hh1 => ?_)
      obtain ⟨rfl, hMh1, hEh1⟩ := hh1
      refine w_goto dX8_shine_22 ?_
      refine w_iret dX8_shine_27 rfl ?_
      rw [← hQ]
      exact ⟨_, rfl, by rw [r_shine, if_pos ⟨h4, h12⟩, nv_nI (a := x) (by omega), nv_nI (a := a) (by omega), nv_nI (a := b) (by omega)], hMh1, (EqC.tr EqC.rf hEh1)⟩

set_option maxHeartbeats 4000000 in
theorem c_X7_ahead (ρ : Rho) (σ : Sg) (q : Int32) (f : Int32) (t : Int32) (w : Int32) (hC : CInv σ ρ) : CallOK 3 mX7_ahead [.ref 0, .int q, .int f, .int t, .int w] ρ (fun r ρ2 => ∃ v, r = some v ∧ (v = .int (r_ahead σ q f t w) ∧ CInv (σ) ρ2 ∧ EqM ρ ρ2)) := by
  refine callOK_of 5 (by decide +kernel) rfl (fun _ => Nat.le_of_ble_eq_true rfl) (ls := [some (.ref 0), some (.int q), some (.int f), some (.int t), some (.int w), none, none, none, none, none]) rfl ?_
  generalize hQ : (fun r ρ2 => ∃ v, r = some v ∧ (v = .int (r_ahead σ q f t w) ∧ CInv (σ) ρ2 ∧ EqM ρ ρ2) : Option Value → Rho → Prop) = Q
  refine w_il dX7_ahead_0 rfl ?_
  refine w_cSf dX7_ahead_1 (sl_X7_147 _ rfl) (by decide) (c_X7_isThing ρ q) rfl rfl (Nat.le_of_ble_eq_true rfl) ?_
  refine w_ifeqB dX7_ahead_4 (fun h4 => ?_) (fun h4 => ?_)
  · --t
    refine w_k dX7_ahead_24 ?_
    refine w_iret dX7_ahead_26 rfl ?_
    rw [← hQ]
    exact ⟨_, rfl, by rw [r_ahead, if_neg (fun z => h4 z.1)], ⟨hC.1, hC.2.1, hC.2.2⟩, EqM.rf⟩
  · --f
    obtain ⟨y, hy, rfl⟩ := inR_nI h4 (by decide)
    refine w_il dX7_ahead_7 rfl ?_
    refine w_il dX7_ahead_8 rfl ?_
    refine w_cSf dX7_ahead_9 (sl_X7_150 _ rfl) (by decide) (c_X7_isSpan ρ f t) rfl rfl (Nat.le_of_ble_eq_true rfl) ?_
    refine w_ifeqB dX7_ahead_12 (fun h12 => ?_) (fun h12 => ?_)
    · --t
      refine w_k dX7_ahead_24 ?_
      refine w_iret dX7_ahead_26 rfl ?_
      rw [← hQ]
      exact ⟨_, rfl, by rw [r_ahead, if_neg (fun z => h12 z.2.1)], ⟨hC.1, hC.2.1, hC.2.2⟩, EqM.rf⟩
    · --f
      obtain ⟨a, b, hab, hb, rfl, rfl⟩ := spn_nI h12
      refine w_il dX7_ahead_15 rfl ?_
      refine w_k dX7_ahead_17 ?_
      refine w_cSf dX7_ahead_18 (sl_X7_61 _ rfl) (by decide) (c_X7_within ρ w (nI 1)) rfl rfl (Nat.le_of_ble_eq_true rfl) ?_
      refine w_ifneB dX7_ahead_21 (fun h21 => ?_) (fun h21 => ?_)
      · --t
        obtain ⟨z, hz, rfl⟩ := inR_nI h21 (by decide)
        refine w_al dX7_ahead_27 rfl ?_
        refine w_gr dX7_ahead_28 fl_X7_19 sh0 rfl ?_
        refine w_il dX7_ahead_31 rfl ?_
        refine w_il dX7_ahead_32 rfl ?_
        refine w_cVu dX7_ahead_33 (vl_X7_155 _ rfl) sh10 (by decide) (c_X1_tally ρ σ a b hC.2.2 (by omega) (by omega)) rfl rfl (Nat.le_of_ble_eq_true rfl) (fun ρt ht9 => ?_)
        obtain ⟨hFt, htt⟩ := ht9
        refine w_k dX7_ahead_36 ?_
        refine w_is (ls2 := [some (.ref 0), some (.int (nI y)), some (.int (nI a)), some (.int (nI b)), some (.int (nI z)), some (.int (nI 0)), none, none, none, none]) dX7_ahead_37 rfl ?_
        refine w_al dX7_ahead_39 rfl ?_
        refine w_k dX7_ahead_40 ?_
        refine w_il dX7_ahead_41 rfl ?_
        refine w_cVf dX7_ahead_42 (vl_X7_158 _ rfl) sh0 (by decide) (c_X7_daysWith ρt σ 0 y a (b + 1 - a) (CLd.fr hC.2.1 hFt (by decide)) htt (by omega) (by omega) (by omega)) rfl rfl (Nat.le_of_ble_eq_true rfl) ?_
        have w3 := dyN_le σ 0 y a (b + 1 - a)
        refine w_is (ls2 := [some (.ref 0), some (.int (nI y)), some (.int (nI a)), some (.int (nI b)), some (.int (nI z)), some (.int (nI 0)), some (.int (nI (dyN σ 0 y a (b + 1 - a)))), none, none, none]) dX7_ahead_45 rfl ?_
        refine w_il dX7_ahead_47 rfl ?_
        refine w_is (ls2 := [some (.ref 0), some (.int (nI y)), some (.int (nI a)), some (.int (nI b)), some (.int (nI z)), some (.int (nI 0)), some (.int (nI (dyN σ 0 y a (b + 1 - a)))), some (.int (nI (dyN σ 0 y a (b + 1 - a)))), none, none]) dX7_ahead_49 rfl ?_
        refine w_k dX7_ahead_51 ?_
        refine w_is (ls2 := [some (.ref 0), some (.int (nI y)), some (.int (nI a)), some (.int (nI b)), some (.int (nI z)), some (.int (nI 0)), some (.int (nI (dyN σ 0 y a (b + 1 - a)))), some (.int (nI (dyN σ 0 y a (b + 1 - a)))), some (.int (nI 1)), none]) dX7_ahead_52 rfl ?_
        have L54 : ∀ (n54 : Nat) (k : Nat), (k ≤ 8) → (1 ≤ k) → (8 - k) < n54 → MW mX7_ahead 3 54 [some (.ref 0), some (.int (nI y)), some (.int (nI a)), some (.int (nI b)), some (.int (nI z)), some (.int (nI (bsR σ y a (b + 1 - a) k))), some (.int (nI (dyN σ (bsR σ y a (b + 1 - a) k) y a (b + 1 - a)))), some (.int (nI (fwR σ y a (b + 1 - a) k))), some (.int (nI k)), none] [] ρt Q := by
          intro n54
          induction n54 with
          | zero =>
            intro k hk hk1 hm54
            exact absurd hm54 (Nat.not_lt_zero _)
          | succ n54 ih54 =>
            intro k hk hk1 hm54
            have w4 := dyN_le σ (bsR σ y a (b + 1 - a) k) y a (b + 1 - a)
            have w5 := dyN_le σ k y a (b + 1 - a)
            have w6 := fwR_le σ y a (b + 1 - a) k
            refine w_il dX7_ahead_54 rfl ?_
            refine w_k dX7_ahead_56 ?_
            refine w_icgeN dX7_ahead_58 (by omega) (by omega) (fun h58 => ?_) (fun h58 => ?_)
            · --t
              refine w_il dX7_ahead_100 rfl ?_
              refine w_ifneN dX7_ahead_102 (by omega) (fun h102 => ?_) (fun h102 => ?_)
              · --t
                refine w_il dX7_ahead_110 rfl ?_
                refine w_il dX7_ahead_112 rfl ?_
                refine w_isub dX7_ahead_114 ?_
                refine w_iret dX7_ahead_115 rfl ?_
                rw [← hQ]
                exact ⟨_, rfl, by rw [r_ahead, if_pos ⟨h4, h12, h21⟩, nv_nI (a := y) (by omega), nv_nI (a := a) (by omega), nv_nI (a := b) (by omega), nv_nI (a := z) (by omega), v_ahead, if_neg h102, show k = 8 by omega], ⟨(CP.fr hC.1 hFt (by decide)), (CLd.fr hC.2.1 hFt (by decide)), (CTn.fr hC.2.2 hFt (by decide))⟩, (Fr.eqM hFt (by decide))⟩
              · --f
                refine w_il dX7_ahead_105 rfl ?_
                refine w_goto dX7_ahead_107 ?_
                refine w_iret dX7_ahead_115 rfl ?_
                rw [← hQ]
                exact ⟨_, rfl, by rw [r_ahead, if_pos ⟨h4, h12, h21⟩, nv_nI (a := y) (by omega), nv_nI (a := a) (by omega), nv_nI (a := b) (by omega), nv_nI (a := z) (by omega), v_ahead, if_pos h102, show k = 8 by omega], ⟨(CP.fr hC.1 hFt (by decide)), (CLd.fr hC.2.1 hFt (by decide)), (CTn.fr hC.2.2 hFt (by decide))⟩, (Fr.eqM hFt (by decide))⟩
            · --f
              refine w_al dX7_ahead_61 rfl ?_
              refine w_il dX7_ahead_62 rfl ?_
              refine w_il dX7_ahead_64 rfl ?_
              refine w_cVf dX7_ahead_65 (vl_X7_158 _ rfl) sh0 (by decide) (c_X7_daysWith ρt σ k y a (b + 1 - a) (CLd.fr hC.2.1 hFt (by decide)) htt (by omega) (by omega) (by omega)) rfl rfl (Nat.le_of_ble_eq_true rfl) ?_
              refine w_is (ls2 := [some (.ref 0), some (.int (nI y)), some (.int (nI a)), some (.int (nI b)), some (.int (nI z)), some (.int (nI (bsR σ y a (b + 1 - a) k))), some (.int (nI (dyN σ (bsR σ y a (b + 1 - a) k) y a (b + 1 - a)))), some (.int (nI (fwR σ y a (b + 1 - a) k))), some (.int (nI k)), some (.int (nI (dyN σ k y a (b + 1 - a))))]) dX7_ahead_68 rfl ?_
              refine w_il dX7_ahead_70 rfl ?_
              refine w_il dX7_ahead_72 rfl ?_
              refine w_icleN dX7_ahead_74 (by omega) (by omega) (fun h74 => ?_) (fun h74 => ?_)
              · --t
                refine w_il dX7_ahead_85 rfl ?_
                refine w_il dX7_ahead_87 rfl ?_
                refine w_mminN dX7_ahead_89 (sl_X7_168 _ rfl) (by decide) (Nat.le_of_ble_eq_true rfl) (by omega) (by omega) ?_
                refine w_is (ls2 := [some (.ref 0), some (.int (nI y)), some (.int (nI a)), some (.int (nI b)), some (.int (nI z)), some (.int (nI (bsR σ y a (b + 1 - a) k))), some (.int (nI (dyN σ (bsR σ y a (b + 1 - a) k) y a (b + 1 - a)))), some (.int (nI (min (fwR σ y a (b + 1 - a) k) (dyN σ k y a (b + 1 - a))))), some (.int (nI k)), some (.int (nI (dyN σ k y a (b + 1 - a))))]) dX7_ahead_92 rfl ?_
                refine w_iincN (ls2 := [some (.ref 0), some (.int (nI y)), some (.int (nI a)), some (.int (nI b)), some (.int (nI z)), some (.int (nI (bsR σ y a (b + 1 - a) k))), some (.int (nI (dyN σ (bsR σ y a (b + 1 - a) k) y a (b + 1 - a)))), some (.int (nI (min (fwR σ y a (b + 1 - a) k) (dyN σ k y a (b + 1 - a))))), some (.int (nI (k + 1))), some (.int (nI (dyN σ k y a (b + 1 - a))))]) dX7_ahead_94 rfl rfl ?_
                refine w_goto dX7_ahead_97 ?_
                refine w_weak (ls2 := [some (.ref 0), some (.int (nI y)), some (.int (nI a)), some (.int (nI b)), some (.int (nI z)), some (.int (nI (bsR σ y a (b + 1 - a) k))), some (.int (nI (dyN σ (bsR σ y a (b + 1 - a) k) y a (b + 1 - a)))), some (.int (nI (min (fwR σ y a (b + 1 - a) k) (dyN σ k y a (b + 1 - a))))), some (.int (nI (k + 1))), none]) ⟨rfl, ⟨rfl, ⟨rfl, ⟨rfl, ⟨rfl, ⟨rfl, ⟨rfl, ⟨rfl, ⟨rfl, trivial⟩⟩⟩⟩⟩⟩⟩⟩⟩ ?_
                rw [bs_n h74]
                exact ih54 (k + 1) (by omega) (by omega) (by omega)
              · --f
                refine w_il dX7_ahead_77 rfl ?_
                refine w_is (ls2 := [some (.ref 0), some (.int (nI y)), some (.int (nI a)), some (.int (nI b)), some (.int (nI z)), some (.int (nI (bsR σ y a (b + 1 - a) k))), some (.int (nI (dyN σ k y a (b + 1 - a)))), some (.int (nI (fwR σ y a (b + 1 - a) k))), some (.int (nI k)), some (.int (nI (dyN σ k y a (b + 1 - a))))]) dX7_ahead_79 rfl ?_
                refine w_il dX7_ahead_81 rfl ?_
                refine w_is (ls2 := [some (.ref 0), some (.int (nI y)), some (.int (nI a)), some (.int (nI b)), some (.int (nI z)), some (.int (nI k)), some (.int (nI (dyN σ k y a (b + 1 - a)))), some (.int (nI (fwR σ y a (b + 1 - a) k))), some (.int (nI k)), some (.int (nI (dyN σ k y a (b + 1 - a))))]) dX7_ahead_83 rfl ?_
                refine w_il dX7_ahead_85 rfl ?_
                refine w_il dX7_ahead_87 rfl ?_
                refine w_mminN dX7_ahead_89 (sl_X7_168 _ rfl) (by decide) (Nat.le_of_ble_eq_true rfl) (by omega) (by omega) ?_
                refine w_is (ls2 := [some (.ref 0), some (.int (nI y)), some (.int (nI a)), some (.int (nI b)), some (.int (nI z)), some (.int (nI k)), some (.int (nI (dyN σ k y a (b + 1 - a)))), some (.int (nI (min (fwR σ y a (b + 1 - a) k) (dyN σ k y a (b + 1 - a))))), some (.int (nI k)), some (.int (nI (dyN σ k y a (b + 1 - a))))]) dX7_ahead_92 rfl ?_
                refine w_iincN (ls2 := [some (.ref 0), some (.int (nI y)), some (.int (nI a)), some (.int (nI b)), some (.int (nI z)), some (.int (nI k)), some (.int (nI (dyN σ k y a (b + 1 - a)))), some (.int (nI (min (fwR σ y a (b + 1 - a) k) (dyN σ k y a (b + 1 - a))))), some (.int (nI (k + 1))), some (.int (nI (dyN σ k y a (b + 1 - a))))]) dX7_ahead_94 rfl rfl ?_
                refine w_goto dX7_ahead_97 ?_
                refine w_weak (ls2 := [some (.ref 0), some (.int (nI y)), some (.int (nI a)), some (.int (nI b)), some (.int (nI z)), some (.int (nI k)), some (.int (nI (dyN σ k y a (b + 1 - a)))), some (.int (nI (min (fwR σ y a (b + 1 - a) k) (dyN σ k y a (b + 1 - a))))), some (.int (nI (k + 1))), none]) ⟨rfl, ⟨rfl, ⟨rfl, ⟨rfl, ⟨rfl, ⟨rfl, ⟨rfl, ⟨rfl, ⟨rfl, trivial⟩⟩⟩⟩⟩⟩⟩⟩⟩ ?_
                rw [bs_d h74, bs_y h74]
                exact ih54 (k + 1) (by omega) (by omega) (by omega)
        have L54b := L54 _ 1 (by omega) (by omega) (Nat.lt_succ_self _)
        rw [bs1, fw1 σ y a (b + 1 - a) (by omega)] at L54b
        exact L54b
      · --f
        refine w_k dX7_ahead_24 ?_
        refine w_iret dX7_ahead_26 rfl ?_
        rw [← hQ]
        exact ⟨_, rfl, by rw [r_ahead, if_neg (fun z => h21 z.2.2)], ⟨hC.1, hC.2.1, hC.2.2⟩, EqM.rf⟩

set_option maxHeartbeats 4000000 in
theorem c_X8_aheadOf (ρ : Rho) (σ : Sg) (y : Nat) (a : Nat) (b : Nat) (z : Nat) (hM : MInv σ ρ) (hy : y < 5) (hab : a ≤ b) (hb : b < 100) (hz : z < 2) : CallOK 5 mX8_aheadOf [.ref 47, .int (nI y), .int (nI a), .int (nI b), .int (nI z)] ρ (fun r ρ2 => ∃ v, r = some v ∧ (v = .int (v_ahead σ y a (b + 1 - a) z) ∧ MInv σ ρ2 ∧ EqC ρ ρ2)) := by
  refine callOK_of 4 (by decide +kernel) rfl (fun _ => Nat.le_of_ble_eq_true rfl) (ls := [some (.ref 47), some (.int (nI y)), some (.int (nI a)), some (.int (nI b)), some (.int (nI z)), none, none, none, none]) rfl ?_
  generalize hQ : (fun r ρ2 => ∃ v, r = some v ∧ (v = .int (v_ahead σ y a (b + 1 - a) z) ∧ MInv σ ρ2 ∧ EqC ρ ρ2) : Option Value → Rho → Prop) = Q
  refine w_al dX8_aheadOf_0 rfl ?_
  refine w_cVu dX8_aheadOf_1 (vl_X8_145 _ rfl) sh47 (by decide) (c_X8_lays ρ σ hM) rfl rfl (Nat.le_of_ble_eq_true rfl) (fun ρl1 hl1 => ?_)
  obtain ⟨hMl1, hEl1, hDl1⟩ := hl1
  refine w_k dX8_aheadOf_4 ?_
  refine w_is (ls2 := [some (.ref 47), some (.int (nI y)), some (.int (nI a)), some (.int (nI b)), some (.int (nI z)), some (.int (nI 0)), none, none, none]) dX8_aheadOf_5 rfl ?_
  refine w_k dX8_aheadOf_7 ?_
  refine w_is (ls2 := [some (.ref 47), some (.int (nI y)), some (.int (nI a)), some (.int (nI b)), some (.int (nI z)), some (.int (nI 0)), some (.int (nI 100)), none, none]) dX8_aheadOf_9 rfl ?_
  refine w_k dX8_aheadOf_11 ?_
  refine w_is (ls2 := [some (.ref 47), some (.int (nI y)), some (.int (nI a)), some (.int (nI b)), some (.int (nI z)), some (.int (nI 0)), some (.int (nI 100)), some (.int (nI 0)), none]) dX8_aheadOf_12 rfl ?_
  have L14 : ∀ (n14 : Nat) (k : Nat), (k ≤ 8) → (8 - k) < n14 → MW mX8_aheadOf 5 14 [some (.ref 47), some (.int (nI y)), some (.int (nI a)), some (.int (nI b)), some (.int (nI z)), some (.int (nI (bsR σ y a (b + 1 - a) k))), some (.int (nI (fwR σ y a (b + 1 - a) k))), some (.int (nI k)), none] [] ρl1 Q := by
    intro n14
    induction n14 with
    | zero =>
      intro k hk hm14
      exact absurd hm14 (Nat.not_lt_zero _)
    | succ n14 ih14 =>
      intro k hk hm14
      have w4 := dyN_le σ (bsR σ y a (b + 1 - a) k) y a (b + 1 - a)
      have w5 := dyN_le σ k y a (b + 1 - a)
      have w6 := fwR_le σ y a (b + 1 - a) k
      have w7 := bsR_lt8 σ y a (b + 1 - a) k hk
      refine w_il dX8_aheadOf_14 rfl ?_
      refine w_k dX8_aheadOf_16 ?_
      refine w_icgeN dX8_aheadOf_18 (by omega) (by omega) (fun h18 => ?_) (fun h18 => ?_)
      · --t
        refine w_il dX8_aheadOf_77 rfl ?_
        refine w_ifneN dX8_aheadOf_79 (by omega) (fun h79 => ?_) (fun h79 => ?_)
        · --t
          refine w_al dX8_aheadOf_87 rfl ?_
          refine w_il dX8_aheadOf_88 rfl ?_
          refine w_il dX8_aheadOf_90 rfl ?_
          refine w_il dX8_aheadOf_91 rfl ?_
          refine w_il dX8_aheadOf_92 rfl ?_
          refine w_cVf dX8_aheadOf_93 (vl_X8_173 _ rfl) sh47 (by decide) (c_X8_daysOf ρl1 σ (bsR σ y a (b + 1 - a) k) y a b hDl1 (by omega) (by omega) (by omega) (by omega)) rfl rfl (Nat.le_of_ble_eq_true rfl) ?_
          refine w_il dX8_aheadOf_96 rfl ?_
          refine w_isub dX8_aheadOf_98 ?_
          refine w_iret dX8_aheadOf_99 rfl ?_
          rw [← hQ]
          exact ⟨_, rfl, by rw [v_ahead, if_neg h79, show k = 8 by omega], hMl1, (EqC.tr EqC.rf hEl1)⟩
        · --f
          refine w_il dX8_aheadOf_82 rfl ?_
          refine w_goto dX8_aheadOf_84 ?_
          refine w_iret dX8_aheadOf_99 rfl ?_
          rw [← hQ]
          exact ⟨_, rfl, by rw [v_ahead, if_pos h79, show k = 8 by omega], hMl1, (EqC.tr EqC.rf hEl1)⟩
      · --f
        refine w_al dX8_aheadOf_21 rfl ?_
        refine w_il dX8_aheadOf_22 rfl ?_
        refine w_il dX8_aheadOf_24 rfl ?_
        refine w_il dX8_aheadOf_25 rfl ?_
        refine w_il dX8_aheadOf_26 rfl ?_
        refine w_cVf dX8_aheadOf_27 (vl_X8_173 _ rfl) sh47 (by decide) (c_X8_daysOf ρl1 σ k y a b hDl1 (by omega) (by omega) (by omega) (by omega)) rfl rfl (Nat.le_of_ble_eq_true rfl) ?_
        refine w_is (ls2 := [some (.ref 47), some (.int (nI y)), some (.int (nI a)), some (.int (nI b)), some (.int (nI z)), some (.int (nI (bsR σ y a (b + 1 - a) k))), some (.int (nI (fwR σ y a (b + 1 - a) k))), some (.int (nI k)), some (.int (nI (dyN σ k y a (b + 1 - a))))]) dX8_aheadOf_30 rfl ?_
        refine w_il dX8_aheadOf_32 rfl ?_
        refine w_al dX8_aheadOf_34 rfl ?_
        refine w_il dX8_aheadOf_35 rfl ?_
        refine w_il dX8_aheadOf_37 rfl ?_
        refine w_il dX8_aheadOf_38 rfl ?_
        refine w_il dX8_aheadOf_39 rfl ?_
        refine w_cVf dX8_aheadOf_40 (vl_X8_173 _ rfl) sh47 (by decide) (c_X8_daysOf ρl1 σ (bsR σ y a (b + 1 - a) k) y a b hDl1 (by omega) (by omega) (by omega) (by omega)) rfl rfl (Nat.le_of_ble_eq_true rfl) ?_
        refine w_icleN dX8_aheadOf_43 (by omega) (by omega) (fun h43 => ?_) (fun h43 => ?_)
        · --t
          refine w_il dX8_aheadOf_51 rfl ?_
          refine w_is (ls2 := [some (.ref 47), some (.int (nI y)), some (.int (nI a)), some (.int (nI b)), some (.int (nI z)), some (.int (nI (bsR σ y a (b + 1 - a) k))), some (.int (nI (fwR σ y a (b + 1 - a) k))), some (.int (nI k)), some (.int (nI (dyN σ k y a (b + 1 - a))))]) dX8_aheadOf_53 rfl ?_
          refine w_il dX8_aheadOf_55 rfl ?_
          refine w_il dX8_aheadOf_57 rfl ?_
          refine w_icgeN dX8_aheadOf_59 (by omega) (by omega) (fun h59 => ?_) (fun h59 => ?_)
          · --t
            refine w_il dX8_aheadOf_67 rfl ?_
            refine w_is (ls2 := [some (.ref 47), some (.int (nI y)), some (.int (nI a)), some (.int (nI b)), some (.int (nI z)), some (.int (nI (bsR σ y a (b + 1 - a) k))), some (.int (nI (fwR σ y a (b + 1 - a) k))), some (.int (nI k)), some (.int (nI (dyN σ k y a (b + 1 - a))))]) dX8_aheadOf_69 rfl ?_
            refine w_iincN (ls2 := [some (.ref 47), some (.int (nI y)), some (.int (nI a)), some (.int (nI b)), some (.int (nI z)), some (.int (nI (bsR σ y a (b + 1 - a) k))), some (.int (nI (fwR σ y a (b + 1 - a) k))), some (.int (nI (k + 1))), some (.int (nI (dyN σ k y a (b + 1 - a))))]) dX8_aheadOf_71 rfl rfl ?_
            refine w_goto dX8_aheadOf_74 ?_
            refine w_weak (ls2 := [some (.ref 47), some (.int (nI y)), some (.int (nI a)), some (.int (nI b)), some (.int (nI z)), some (.int (nI (bsR σ y a (b + 1 - a) k))), some (.int (nI (fwR σ y a (b + 1 - a) k))), some (.int (nI (k + 1))), none]) ⟨rfl, ⟨rfl, ⟨rfl, ⟨rfl, ⟨rfl, ⟨rfl, ⟨rfl, ⟨rfl, trivial⟩⟩⟩⟩⟩⟩⟩⟩ ?_
            rw [bs_n h43, fw_n h59]
            exact ih14 (k + 1) (by omega) (by omega)
          · --f
            refine w_il dX8_aheadOf_62 rfl ?_
            refine w_goto dX8_aheadOf_64 ?_
            refine w_is (ls2 := [some (.ref 47), some (.int (nI y)), some (.int (nI a)), some (.int (nI b)), some (.int (nI z)), some (.int (nI (bsR σ y a (b + 1 - a) k))), some (.int (nI (dyN σ k y a (b + 1 - a)))), some (.int (nI k)), some (.int (nI (dyN σ k y a (b + 1 - a))))]) dX8_aheadOf_69 rfl ?_
            refine w_iincN (ls2 := [some (.ref 47), some (.int (nI y)), some (.int (nI a)), some (.int (nI b)), some (.int (nI z)), some (.int (nI (bsR σ y a (b + 1 - a) k))), some (.int (nI (dyN σ k y a (b + 1 - a)))), some (.int (nI (k + 1))), some (.int (nI (dyN σ k y a (b + 1 - a))))]) dX8_aheadOf_71 rfl rfl ?_
            refine w_goto dX8_aheadOf_74 ?_
            refine w_weak (ls2 := [some (.ref 47), some (.int (nI y)), some (.int (nI a)), some (.int (nI b)), some (.int (nI z)), some (.int (nI (bsR σ y a (b + 1 - a) k))), some (.int (nI (dyN σ k y a (b + 1 - a)))), some (.int (nI (k + 1))), none]) ⟨rfl, ⟨rfl, ⟨rfl, ⟨rfl, ⟨rfl, ⟨rfl, ⟨rfl, ⟨rfl, trivial⟩⟩⟩⟩⟩⟩⟩⟩ ?_
            rw [bs_n h43, fw_y h59]
            exact ih14 (k + 1) (by omega) (by omega)
        · --f
          refine w_il dX8_aheadOf_46 rfl ?_
          refine w_goto dX8_aheadOf_48 ?_
          refine w_is (ls2 := [some (.ref 47), some (.int (nI y)), some (.int (nI a)), some (.int (nI b)), some (.int (nI z)), some (.int (nI k)), some (.int (nI (fwR σ y a (b + 1 - a) k))), some (.int (nI k)), some (.int (nI (dyN σ k y a (b + 1 - a))))]) dX8_aheadOf_53 rfl ?_
          refine w_il dX8_aheadOf_55 rfl ?_
          refine w_il dX8_aheadOf_57 rfl ?_
          refine w_icgeN dX8_aheadOf_59 (by omega) (by omega) (fun h59 => ?_) (fun h59 => ?_)
          · --t
            refine w_il dX8_aheadOf_67 rfl ?_
            refine w_is (ls2 := [some (.ref 47), some (.int (nI y)), some (.int (nI a)), some (.int (nI b)), some (.int (nI z)), some (.int (nI k)), some (.int (nI (fwR σ y a (b + 1 - a) k))), some (.int (nI k)), some (.int (nI (dyN σ k y a (b + 1 - a))))]) dX8_aheadOf_69 rfl ?_
            refine w_iincN (ls2 := [some (.ref 47), some (.int (nI y)), some (.int (nI a)), some (.int (nI b)), some (.int (nI z)), some (.int (nI k)), some (.int (nI (fwR σ y a (b + 1 - a) k))), some (.int (nI (k + 1))), some (.int (nI (dyN σ k y a (b + 1 - a))))]) dX8_aheadOf_71 rfl rfl ?_
            refine w_goto dX8_aheadOf_74 ?_
            refine w_weak (ls2 := [some (.ref 47), some (.int (nI y)), some (.int (nI a)), some (.int (nI b)), some (.int (nI z)), some (.int (nI k)), some (.int (nI (fwR σ y a (b + 1 - a) k))), some (.int (nI (k + 1))), none]) ⟨rfl, ⟨rfl, ⟨rfl, ⟨rfl, ⟨rfl, ⟨rfl, ⟨rfl, ⟨rfl, trivial⟩⟩⟩⟩⟩⟩⟩⟩ ?_
            rw [bs_y h43, fw_n h59]
            exact ih14 (k + 1) (by omega) (by omega)
          · --f
            refine w_il dX8_aheadOf_62 rfl ?_
            refine w_goto dX8_aheadOf_64 ?_
            refine w_is (ls2 := [some (.ref 47), some (.int (nI y)), some (.int (nI a)), some (.int (nI b)), some (.int (nI z)), some (.int (nI k)), some (.int (nI (dyN σ k y a (b + 1 - a)))), some (.int (nI k)), some (.int (nI (dyN σ k y a (b + 1 - a))))]) dX8_aheadOf_69 rfl ?_
            refine w_iincN (ls2 := [some (.ref 47), some (.int (nI y)), some (.int (nI a)), some (.int (nI b)), some (.int (nI z)), some (.int (nI k)), some (.int (nI (dyN σ k y a (b + 1 - a)))), some (.int (nI (k + 1))), some (.int (nI (dyN σ k y a (b + 1 - a))))]) dX8_aheadOf_71 rfl rfl ?_
            refine w_goto dX8_aheadOf_74 ?_
            refine w_weak (ls2 := [some (.ref 47), some (.int (nI y)), some (.int (nI a)), some (.int (nI b)), some (.int (nI z)), some (.int (nI k)), some (.int (nI (dyN σ k y a (b + 1 - a)))), some (.int (nI (k + 1))), none]) ⟨rfl, ⟨rfl, ⟨rfl, ⟨rfl, ⟨rfl, ⟨rfl, ⟨rfl, ⟨rfl, trivial⟩⟩⟩⟩⟩⟩⟩⟩ ?_
            rw [bs_y h43, fw_y h59]
            exact ih14 (k + 1) (by omega) (by omega)
  exact L14 _ 0 (by omega) (Nat.lt_succ_self _)

set_option maxHeartbeats 4000000 in
theorem c_X8_ahead (ρ : Rho) (σ : Sg) (q : Int32) (f : Int32) (t : Int32) (w : Int32) (hM : MInv σ ρ) : CallOK 6 mX8_ahead [.ref 47, .int q, .int f, .int t, .int w] ρ (fun r ρ2 => ∃ v, r = some v ∧ (v = .int (r_ahead σ q f t w) ∧ MInv (σ) ρ2 ∧ EqC ρ ρ2)) := by
  refine callOK_of 0 (by decide +kernel) rfl (fun _ => Nat.le_of_ble_eq_true rfl) (ls := [some (.ref 47), some (.int q), some (.int f), some (.int t), some (.int w)]) rfl ?_
  generalize hQ : (fun r ρ2 => ∃ v, r = some v ∧ (v = .int (r_ahead σ q f t w) ∧ MInv (σ) ρ2 ∧ EqC ρ ρ2) : Option Value → Rho → Prop) = Q
  refine w_il dX8_ahead_0 rfl ?_
  refine w_cSf dX8_ahead_1 (sl_X8_163 _ rfl) (by decide) (c_X8_isThing ρ q) rfl rfl (Nat.le_of_ble_eq_true rfl) ?_
  refine w_ifeqB dX8_ahead_4 (fun h4 => ?_) (fun h4 => ?_)
  · --t
    refine w_k dX8_ahead_37 ?_
    refine w_iret dX8_ahead_39 rfl ?_
    rw [← hQ]
    exact ⟨_, rfl, by rw [r_ahead, if_neg (fun z => h4 z.1)], hM, EqC.rf⟩
  · --f
    obtain ⟨y, hy, rfl⟩ := inR_nI h4 (by decide)
    refine w_il dX8_ahead_7 rfl ?_
    refine w_il dX8_ahead_8 rfl ?_
    refine w_cSf dX8_ahead_9 (sl_X8_166 _ rfl) (by decide) (c_X8_isSpan ρ f t) rfl rfl (Nat.le_of_ble_eq_true rfl) ?_
    refine w_ifeqB dX8_ahead_12 (fun h12 => ?_) (fun h12 => ?_)
    · --t
      refine w_k dX8_ahead_37 ?_
      refine w_iret dX8_ahead_39 rfl ?_
      rw [← hQ]
      exact ⟨_, rfl, by rw [r_ahead, if_neg (fun z => h12 z.2.1)], hM, EqC.rf⟩
    · --f
      obtain ⟨a, b, hab, hb, rfl, rfl⟩ := spn_nI h12
      refine w_il dX8_ahead_15 rfl ?_
      refine w_k dX8_ahead_17 ?_
      refine w_k dX8_ahead_18 ?_
      refine w_cSf dX8_ahead_19 (sl_X8_89 _ rfl) (by decide) (c_X8_in ρ w (nI 0) (nI 1)) rfl rfl (Nat.le_of_ble_eq_true rfl) ?_
      refine w_ifeqB dX8_ahead_22 (fun h22 => ?_) (fun h22 => ?_)
      · --t
        refine w_k dX8_ahead_37 ?_
        refine w_iret dX8_ahead_39 rfl ?_
        rw [← hQ]
        exact ⟨_, rfl, by rw [r_ahead, if_neg (fun z => h22 z.2.2)], hM, EqC.rf⟩
      · --f
        obtain ⟨z, hz, rfl⟩ := inR_nI h22 (by decide)
        refine w_al dX8_ahead_25 rfl ?_
        refine w_il dX8_ahead_26 rfl ?_
        refine w_il dX8_ahead_27 rfl ?_
        refine w_il dX8_ahead_28 rfl ?_
        refine w_il dX8_ahead_29 rfl ?_
        refine w_cVr dX8_ahead_31 (vl_X8_184 _ rfl) sh47 (by decide) (c_X8_aheadOf ρ σ y a b z hM (by omega) (by omega) (by omega) (by omega)) rfl rfl (Nat.le_of_ble_eq_true rfl) (fun vh1 ρh1 hh1 => ?_)
        obtain ⟨rfl, hMh1, hEh1⟩ := hh1
        refine w_goto dX8_ahead_34 ?_
        refine w_iret dX8_ahead_39 rfl ?_
        rw [← hQ]
        exact ⟨_, rfl, by rw [r_ahead, if_pos ⟨h4, h12, h22⟩, nv_nI (a := y) (by omega), nv_nI (a := a) (by omega), nv_nI (a := b) (by omega), nv_nI (a := z) (by omega)], hMh1, (EqC.tr EqC.rf hEh1)⟩

set_option maxHeartbeats 4000000 in
theorem c_X5_joyIn (ρ : Rho) (σ : Sg) (x q a n : Nat) (hP : CP σ ρ) (hL : CLd σ ρ) (h16 : ∀ t, t < 8 → ρ.1 16 t = nI (tal σ a n t)) (hx : x < 8) (hq : q < 8) (hn : n ≤ 100) : CallOK 0 mX5_joyIn [.ref 26, .int (nI x), .int (nI q), .ref 1, .ref 16] ρ (fun r ρ2 => r = some (.int (nI (jyN σ x q a n))) ∧ ρ2 = ρ) := by
  refine callOK_of 3 (by decide +kernel) rfl (fun _ => Nat.le_of_ble_eq_true rfl) (ls := [some (.ref 26), some (.int (nI x)), some (.int (nI q)), some (.ref 1), some (.ref 16), none, none, none]) rfl ?_
  generalize hQ : (fun r ρ2 => r = some (.int (nI (jyN σ x q a n))) ∧ ρ2 = ρ : Option Value → Rho → Prop) = Q
  refine w_k dX5_joyIn_0 ?_
  refine w_is (ls2 := [some (.ref 26), some (.int (nI x)), some (.int (nI q)), some (.ref 1), some (.ref 16), some (.int (nI 0)), none, none]) dX5_joyIn_1 rfl ?_
  refine w_k dX5_joyIn_3 ?_
  refine w_is (ls2 := [some (.ref 26), some (.int (nI x)), some (.int (nI q)), some (.ref 1), some (.ref 16), some (.int (nI 0)), some (.int (nI 0)), none]) dX5_joyIn_4 rfl ?_
  have L6 : ∀ (n6 : Nat) (k : Nat), (k ≤ 8) → (8 - k) < n6 → MW mX5_joyIn 0 6 [some (.ref 26), some (.int (nI x)), some (.int (nI q)), some (.ref 1), some (.ref 16), some (.int (nI (jyC σ x q a n k))), some (.int (nI k)), none] [] ρ Q := by
    intro n6
    induction n6 with
    | zero =>
      intro k hk hm6
      exact absurd hm6 (Nat.not_lt_zero _)
    | succ n6 ih6 =>
      intro k hk hm6
      have wl := jyC_le hP.1 x q a n k hn
      have wt := Th_le σ ((q + k) % 8)
      refine w_il dX5_joyIn_6 rfl ?_
      refine w_k dX5_joyIn_8 ?_
      refine w_icgeN dX5_joyIn_10 (by omega) (by omega) (fun h10 => ?_) (fun h10 => ?_)
      · --t
        refine w_il dX5_joyIn_55 rfl ?_
        refine w_iret dX5_joyIn_57 rfl ?_
        rw [← hQ]
        exact ⟨by rw [← jyC_8, show k = 8 by omega], rfl⟩
      · --f
        refine w_al dX5_joyIn_13 rfl ?_
        refine w_gr dX5_joyIn_14 fl_X5_27 sh1 rfl ?_
        refine w_il dX5_joyIn_17 rfl ?_
        refine w_il dX5_joyIn_18 rfl ?_
        refine w_iaddN dX5_joyIn_20 ?_
        refine w_k dX5_joyIn_21 ?_
        refine w_iand7 dX5_joyIn_23 (by omega) ?_
        refine w_ialdV (v := (nI (Th σ ((q + k) % 8)))) dX5_joyIn_24 sh3 (by omega) (hL.1 _ (by omega)) ?_
        refine w_is (ls2 := [some (.ref 26), some (.int (nI x)), some (.int (nI q)), some (.ref 1), some (.ref 16), some (.int (nI (jyC σ x q a n k))), some (.int (nI k)), some (.int (nI (Th σ ((q + k) % 8))))]) dX5_joyIn_25 rfl ?_
        refine w_il dX5_joyIn_27 rfl ?_
        refine w_al dX5_joyIn_29 rfl ?_
        refine w_il dX5_joyIn_31 rfl ?_
        refine w_ialdV (v := (nI (tal σ a n k))) dX5_joyIn_33 sh16 (by omega) (h16 _ (by omega)) ?_
        refine w_al dX5_joyIn_34 rfl ?_
        refine w_gr dX5_joyIn_35 fl_X5_15 sh26 rfl ?_
        refine w_il dX5_joyIn_38 rfl ?_
        refine w_k dX5_joyIn_39 ?_
        refine w_imulN dX5_joyIn_40 ?_
        refine w_il dX5_joyIn_41 rfl ?_
        refine w_iaddN dX5_joyIn_43 ?_
        refine w_ialdV (v := (nI (σ.1 62 (x * 5 + (Th σ ((q + k) % 8)))))) dX5_joyIn_44 sh28 (by omega) (hP.2.1 (28, 62) (by decide) _) ?_
        refine w_imulN dX5_joyIn_45 ?_
        refine w_iaddN dX5_joyIn_46 ?_
        refine w_is (ls2 := [some (.ref 26), some (.int (nI x)), some (.int (nI q)), some (.ref 1), some (.ref 16), some (.int (nI (jyC σ x q a n k + ((tal σ a n k) * (σ.1 62 (x * 5 + (Th σ ((q + k) % 8)))))))), some (.int (nI k)), some (.int (nI (Th σ ((q + k) % 8))))]) dX5_joyIn_47 rfl ?_
        refine w_iincN (ls2 := [some (.ref 26), some (.int (nI x)), some (.int (nI q)), some (.ref 1), some (.ref 16), some (.int (nI (jyC σ x q a n k + ((tal σ a n k) * (σ.1 62 (x * 5 + (Th σ ((q + k) % 8)))))))), some (.int (nI (k + 1))), some (.int (nI (Th σ ((q + k) % 8))))]) dX5_joyIn_49 rfl rfl ?_
        refine w_goto dX5_joyIn_52 ?_
        refine w_weak (ls2 := [some (.ref 26), some (.int (nI x)), some (.int (nI q)), some (.ref 1), some (.ref 16), some (.int (nI (jyC σ x q a n k + ((tal σ a n k) * (σ.1 62 (x * 5 + (Th σ ((q + k) % 8)))))))), some (.int (nI (k + 1))), none]) ⟨rfl, ⟨rfl, ⟨rfl, ⟨rfl, ⟨rfl, ⟨rfl, ⟨rfl, trivial⟩⟩⟩⟩⟩⟩⟩ ?_
        exact ih6 (k + 1) (by omega) (by omega)
  exact L6 _ 0 (by omega) (Nat.lt_succ_self _)

set_option maxHeartbeats 4000000 in
theorem c_X7_joy (ρ : Rho) (σ : Sg) (p : Int32) (q : Int32) (f : Int32) (t : Int32) (hC : CInv σ ρ) : CallOK 3 mX7_joy [.ref 0, .int p, .int q, .int f, .int t] ρ (fun r ρ2 => ∃ v, r = some v ∧ (v = .int (r_joy σ p q f t) ∧ CInv (σ) ρ2 ∧ EqM ρ ρ2)) := by
  refine callOK_of 0 (by decide +kernel) rfl (fun _ => Nat.le_of_ble_eq_true rfl) (ls := [some (.ref 0), some (.int p), some (.int q), some (.int f), some (.int t)]) rfl ?_
  generalize hQ : (fun r ρ2 => ∃ v, r = some v ∧ (v = .int (r_joy σ p q f t) ∧ CInv (σ) ρ2 ∧ EqM ρ ρ2) : Option Value → Rho → Prop) = Q
  refine w_il dX7_joy_0 rfl ?_
  refine w_k dX7_joy_1 ?_
  refine w_cSf dX7_joy_3 (sl_X7_61 _ rfl) (by decide) (c_X7_within ρ p (nI 7)) rfl rfl (Nat.le_of_ble_eq_true rfl) ?_
  refine w_ifeqB dX7_joy_6 (fun h6 => ?_) (fun h6 => ?_)
  · --t
    refine w_k dX7_joy_27 ?_
    refine w_iret dX7_joy_29 rfl ?_
    rw [← hQ]
    exact ⟨_, rfl, by rw [r_joy, if_neg (fun z => h6 z.1)], ⟨hC.1, hC.2.1, hC.2.2⟩, EqM.rf⟩
  · --f
    obtain ⟨x, hx, rfl⟩ := inR_nI h6 (by decide)
    refine w_il dX7_joy_9 rfl ?_
    refine w_k dX7_joy_10 ?_
    refine w_cSf dX7_joy_12 (sl_X7_61 _ rfl) (by decide) (c_X7_within ρ q (nI 7)) rfl rfl (Nat.le_of_ble_eq_true rfl) ?_
    refine w_ifeqB dX7_joy_15 (fun h15 => ?_) (fun h15 => ?_)
    · --t
      refine w_k dX7_joy_27 ?_
      refine w_iret dX7_joy_29 rfl ?_
      rw [← hQ]
      exact ⟨_, rfl, by rw [r_joy, if_neg (fun z => h15 z.2.1)], ⟨hC.1, hC.2.1, hC.2.2⟩, EqM.rf⟩
    · --f
      obtain ⟨y, hy, rfl⟩ := inR_nI h15 (by decide)
      refine w_il dX7_joy_18 rfl ?_
      refine w_il dX7_joy_19 rfl ?_
      refine w_cSf dX7_joy_21 (sl_X7_150 _ rfl) (by decide) (c_X7_isSpan ρ f t) rfl rfl (Nat.le_of_ble_eq_true rfl) ?_
      refine w_ifneB dX7_joy_24 (fun h24 => ?_) (fun h24 => ?_)
      · --t
        obtain ⟨a, b, hab, hb, rfl, rfl⟩ := spn_nI h24
        refine w_al dX7_joy_30 rfl ?_
        refine w_gr dX7_joy_31 fl_X7_19 sh0 rfl ?_
        refine w_il dX7_joy_34 rfl ?_
        refine w_il dX7_joy_35 rfl ?_
        refine w_cVu dX7_joy_37 (vl_X7_155 _ rfl) sh10 (by decide) (c_X1_tally ρ σ a b hC.2.2 (by omega) (by omega)) rfl rfl (Nat.le_of_ble_eq_true rfl) (fun ρt ht9 => ?_)
        obtain ⟨hFt, htt⟩ := ht9
        refine w_al dX7_joy_40 rfl ?_
        refine w_gr dX7_joy_41 fl_X7_43 sh0 rfl ?_
        refine w_il dX7_joy_44 rfl ?_
        refine w_il dX7_joy_45 rfl ?_
        refine w_al dX7_joy_46 rfl ?_
        refine w_gr dX7_joy_47 fl_X7_10 sh0 rfl ?_
        refine w_al dX7_joy_50 rfl ?_
        refine w_gr dX7_joy_51 fl_X7_19 sh0 rfl ?_
        refine w_gr dX7_joy_54 fl_X7_165 sh10 rfl ?_
        refine w_cVf dX7_joy_57 (vl_X7_221 _ rfl) sh26 (by decide) (c_X5_joyIn ρt σ x y a (b + 1 - a) (CP.fr hC.1 hFt (by decide)) (CLd.fr hC.2.1 hFt (by decide)) htt (by omega) (by omega) (by omega)) rfl rfl (Nat.le_of_ble_eq_true rfl) ?_
        refine w_iret dX7_joy_60 rfl ?_
        rw [← hQ]
        exact ⟨_, rfl, by rw [r_joy, if_pos ⟨h6, h15, h24⟩, nv_nI (a := x) (by omega), nv_nI (a := y) (by omega), nv_nI (a := a) (by omega), nv_nI (a := b) (by omega)], ⟨(CP.fr hC.1 hFt (by decide)), (CLd.fr hC.2.1 hFt (by decide)), (CTn.fr hC.2.2 hFt (by decide))⟩, (Fr.eqM hFt (by decide))⟩
      · --f
        refine w_k dX7_joy_27 ?_
        refine w_iret dX7_joy_29 rfl ?_
        rw [← hQ]
        exact ⟨_, rfl, by rw [r_joy, if_neg (fun z => h24 z.2.2)], ⟨hC.1, hC.2.1, hC.2.2⟩, EqM.rf⟩

set_option maxHeartbeats 4000000 in
theorem c_X3_canWork (ρ : Rho) (σ : Sg) (x y z t : Nat) (hL : CLd σ ρ) (hx : x < 8) (hy : y < 5) (hz : z < 5) (ht : t < 8) : CallOK 0 mX3_canWork [.ref 1, .int (nI x), .int (nI y), .int (nI z), .int (nI t)] ρ (fun r ρ2 => r = some (.int (b2i (wkP σ x y z t))) ∧ ρ2 = ρ) := by
  refine callOK_of 0 (by decide +kernel) rfl (fun _ => Nat.le_of_ble_eq_true rfl) (ls := [some (.ref 1), some (.int (nI x)), some (.int (nI y)), some (.int (nI z)), some (.int (nI t))]) rfl ?_
  generalize hQ : (fun r ρ2 => r = some (.int (b2i (wkP σ x y z t))) ∧ ρ2 = ρ : Option Value → Rho → Prop) = Q
  have w1 := Th_le σ ((x + t) % 8)
  have w2 := Th_le σ ((x + 1 + t) % 8)
  refine w_al dX3_canWork_0 rfl ?_
  refine w_gr dX3_canWork_1 fl_X3_22 sh1 rfl ?_
  refine w_il dX3_canWork_4 rfl ?_
  refine w_il dX3_canWork_5 rfl ?_
  refine w_iaddN dX3_canWork_7 ?_
  refine w_k dX3_canWork_8 ?_
  refine w_iand7 dX3_canWork_10 (by omega) ?_
  refine w_ialdV (v := (nI (Th σ ((x + t) % 8)))) dX3_canWork_11 sh3 (by omega) (hL.1 _ (by omega)) ?_
  refine w_il dX3_canWork_12 rfl ?_
  refine w_icneN dX3_canWork_13 (by omega) (by omega) (fun h13 => ?_) (fun h13 => ?_)
  · --t
    refine w_k dX3_canWork_38 ?_
    refine w_zret dX3_canWork_39 rfl rfl ?_
    rw [← hQ]
    exact ⟨congrArg (fun z => some (Value.int z)) (b2i_f (fun q => h13 q.1)).symm, rfl⟩
  · --f
    refine w_al dX3_canWork_16 rfl ?_
    refine w_gr dX3_canWork_17 fl_X3_22 sh1 rfl ?_
    refine w_il dX3_canWork_20 rfl ?_
    refine w_k dX3_canWork_21 ?_
    refine w_iaddN dX3_canWork_22 ?_
    refine w_il dX3_canWork_23 rfl ?_
    refine w_iaddN dX3_canWork_25 ?_
    refine w_k dX3_canWork_26 ?_
    refine w_iand7 dX3_canWork_28 (by omega) ?_
    refine w_ialdV (v := (nI (Th σ ((x + 1 + t) % 8)))) dX3_canWork_29 sh3 (by omega) (hL.1 _ (by omega)) ?_
    refine w_il dX3_canWork_30 rfl ?_
    refine w_icneN dX3_canWork_31 (by omega) (by omega) (fun h31 => ?_) (fun h31 => ?_)
    · --t
      refine w_k dX3_canWork_38 ?_
      refine w_zret dX3_canWork_39 rfl rfl ?_
      rw [← hQ]
      exact ⟨congrArg (fun z => some (Value.int z)) (b2i_f (fun q => h31 q.2)).symm, rfl⟩
    · --f
      refine w_k dX3_canWork_34 ?_
      refine w_goto dX3_canWork_35 ?_
      refine w_zret dX3_canWork_39 rfl rfl ?_
      rw [← hQ]
      exact ⟨congrArg (fun z => some (Value.int z)) (b2i_t ⟨h13, h31⟩).symm, rfl⟩

set_option maxHeartbeats 4000000 in
theorem c_X8_works (ρ : Rho) (σ : Sg) (x y z t : Nat) (hL : LL σ ρ) (hx : x < 8) (hy : y < 5) (hz : z < 5) (ht : t < 8) : CallOK 0 mX8_works [.ref 47, .int (nI x), .int (nI y), .int (nI z), .int (nI t)] ρ (fun r ρ2 => r = some (.int (b2i (wkP σ x y z t))) ∧ ρ2 = ρ) := by
  refine callOK_of 0 (by decide +kernel) rfl (fun _ => Nat.le_of_ble_eq_true rfl) (ls := [some (.ref 47), some (.int (nI x)), some (.int (nI y)), some (.int (nI z)), some (.int (nI t))]) rfl ?_
  generalize hQ : (fun r ρ2 => r = some (.int (b2i (wkP σ x y z t))) ∧ ρ2 = ρ : Option Value → Rho → Prop) = Q
  have w1 := Th_le σ ((x + t) % 8)
  have w2 := Th_le σ ((x + 1 + t) % 8)
  refine w_al dX8_works_0 rfl ?_
  refine w_gr dX8_works_1 fl_X8_13 sh47 rfl ?_
  refine w_il dX8_works_4 rfl ?_
  refine w_il dX8_works_5 rfl ?_
  refine w_iaddN dX8_works_7 ?_
  refine w_k dX8_works_8 ?_
  refine w_iremN dX8_works_10 (by omega) (by omega) (by omega) ?_
  refine w_ialdV (v := (nI (Th σ ((x + t) % 8)))) dX8_works_11 sh49 (by omega) (hL.1 _ (by omega)) ?_
  refine w_il dX8_works_12 rfl ?_
  refine w_icneN dX8_works_13 (by omega) (by omega) (fun h13 => ?_) (fun h13 => ?_)
  · --t
    refine w_k dX8_works_38 ?_
    refine w_zret dX8_works_39 rfl rfl ?_
    rw [← hQ]
    exact ⟨congrArg (fun z => some (Value.int z)) (b2i_f (fun q => h13 q.1)).symm, rfl⟩
  · --f
    refine w_al dX8_works_16 rfl ?_
    refine w_gr dX8_works_17 fl_X8_13 sh47 rfl ?_
    refine w_il dX8_works_20 rfl ?_
    refine w_k dX8_works_21 ?_
    refine w_iaddN dX8_works_22 ?_
    refine w_il dX8_works_23 rfl ?_
    refine w_iaddN dX8_works_25 ?_
    refine w_k dX8_works_26 ?_
    refine w_iremN dX8_works_28 (by omega) (by omega) (by omega) ?_
    refine w_ialdV (v := (nI (Th σ ((x + 1 + t) % 8)))) dX8_works_29 sh49 (by omega) (hL.1 _ (by omega)) ?_
    refine w_il dX8_works_30 rfl ?_
    refine w_icneN dX8_works_31 (by omega) (by omega) (fun h31 => ?_) (fun h31 => ?_)
    · --t
      refine w_k dX8_works_38 ?_
      refine w_zret dX8_works_39 rfl rfl ?_
      rw [← hQ]
      exact ⟨congrArg (fun z => some (Value.int z)) (b2i_f (fun q => h31 q.2)).symm, rfl⟩
    · --f
      refine w_k dX8_works_34 ?_
      refine w_goto dX8_works_35 ?_
      refine w_zret dX8_works_39 rfl rfl ?_
      rw [← hQ]
      exact ⟨congrArg (fun z => some (Value.int z)) (b2i_t ⟨h13, h31⟩).symm, rfl⟩

set_option maxHeartbeats 4000000 in
theorem c_X7_next (ρ : Rho) (σ : Sg) (p : Int32) (q : Int32) (u : Int32) (d : Int32) (hC : CInv σ ρ) : CallOK 2 mX7_next [.ref 0, .int p, .int q, .int u, .int d] ρ (fun r ρ2 => ∃ v, r = some v ∧ (v = .int (r_next σ p q u d) ∧ CInv (σ) ρ2 ∧ EqM ρ ρ2)) := by
  refine callOK_of 2 (by decide +kernel) rfl (fun _ => Nat.le_of_ble_eq_true rfl) (ls := [some (.ref 0), some (.int p), some (.int q), some (.int u), some (.int d), none, none]) rfl ?_
  generalize hQ : (fun r ρ2 => ∃ v, r = some v ∧ (v = .int (r_next σ p q u d) ∧ CInv (σ) ρ2 ∧ EqM ρ ρ2) : Option Value → Rho → Prop) = Q
  refine w_il dX7_next_0 rfl ?_
  refine w_k dX7_next_1 ?_
  refine w_cSf dX7_next_3 (sl_X7_61 _ rfl) (by decide) (c_X7_within ρ p (nI 7)) rfl rfl (Nat.le_of_ble_eq_true rfl) ?_
  refine w_ifeqB dX7_next_6 (fun h6 => ?_) (fun h6 => ?_)
  · --t
    refine w_k dX7_next_31 ?_
    refine w_iret dX7_next_33 rfl ?_
    rw [← hQ]
    exact ⟨_, rfl, by rw [r_next, if_neg (fun z => h6 z.1)], ⟨hC.1, hC.2.1, hC.2.2⟩, EqM.rf⟩
  · --f
    obtain ⟨x, hx, rfl⟩ := inR_nI h6 (by decide)
    refine w_il dX7_next_9 rfl ?_
    refine w_cSf dX7_next_10 (sl_X7_147 _ rfl) (by decide) (c_X7_isThing ρ q) rfl rfl (Nat.le_of_ble_eq_true rfl) ?_
    refine w_ifeqB dX7_next_13 (fun h13 => ?_) (fun h13 => ?_)
    · --t
      refine w_k dX7_next_31 ?_
      refine w_iret dX7_next_33 rfl ?_
      rw [← hQ]
      exact ⟨_, rfl, by rw [r_next, if_neg (fun z => h13 z.2.1)], ⟨hC.1, hC.2.1, hC.2.2⟩, EqM.rf⟩
    · --f
      obtain ⟨y, hy, rfl⟩ := inR_nI h13 (by decide)
      refine w_il dX7_next_16 rfl ?_
      refine w_cSf dX7_next_17 (sl_X7_147 _ rfl) (by decide) (c_X7_isThing ρ u) rfl rfl (Nat.le_of_ble_eq_true rfl) ?_
      refine w_ifeqB dX7_next_20 (fun h20 => ?_) (fun h20 => ?_)
      · --t
        refine w_k dX7_next_31 ?_
        refine w_iret dX7_next_33 rfl ?_
        rw [← hQ]
        exact ⟨_, rfl, by rw [r_next, if_neg (fun z => h20 z.2.2.1)], ⟨hC.1, hC.2.1, hC.2.2⟩, EqM.rf⟩
      · --f
        obtain ⟨z, hz, rfl⟩ := inR_nI h20 (by decide)
        refine w_il dX7_next_23 rfl ?_
        refine w_cSf dX7_next_25 (sl_X7_87 _ rfl) (by decide) (c_X7_isDay ρ d) rfl rfl (Nat.le_of_ble_eq_true rfl) ?_
        refine w_ifneB dX7_next_28 (fun h28 => ?_) (fun h28 => ?_)
        · --t
          obtain ⟨d1, hd1, rfl⟩ := inR_nI h28 (by decide)
          refine w_al dX7_next_34 rfl ?_
          refine w_gr dX7_next_35 fl_X7_19 sh0 rfl ?_
          refine w_il dX7_next_38 rfl ?_
          refine w_cVu dX7_next_40 (vl_X7_173 _ rfl) sh10 (by decide) (c_X1_findFirstDays ρ σ d1 hC.2.2 (by omega)) rfl rfl (Nat.le_of_ble_eq_true rfl) (fun ρt ht9 => ?_)
          obtain ⟨hFt, htt⟩ := ht9
          refine w_k dX7_next_43 ?_
          refine w_is (ls2 := [some (.ref 0), some (.int (nI x)), some (.int (nI y)), some (.int (nI z)), some (.int (nI d1)), some (.int (nI 100)), none]) dX7_next_45 rfl ?_
          refine w_k dX7_next_47 ?_
          refine w_is (ls2 := [some (.ref 0), some (.int (nI x)), some (.int (nI y)), some (.int (nI z)), some (.int (nI d1)), some (.int (nI 100)), some (.int (nI 0))]) dX7_next_48 rfl ?_
          have L50 : ∀ (n50 : Nat) (k : Nat), (k ≤ 8) → (8 - k) < n50 → MW mX7_next 2 50 [some (.ref 0), some (.int (nI x)), some (.int (nI y)), some (.int (nI z)), some (.int (nI d1)), some (.int (nI (mnT (wkB σ x y z) (ffn σ (100 - d1)) k))), some (.int (nI k))] [] ρt Q := by
            intro n50
            induction n50 with
            | zero =>
              intro k hk hm50
              exact absurd hm50 (Nat.not_lt_zero _)
            | succ n50 ih50 =>
              intro k hk hm50
              have w4 := mnT_le (wkB σ x y z) (ffn σ (100 - d1)) k
              have w5 := (ffn_ge σ k (100 - d1) (by omega)).2
              refine w_il dX7_next_50 rfl ?_
              refine w_k dX7_next_52 ?_
              refine w_icgeN dX7_next_54 (by omega) (by omega) (fun h54 => ?_) (fun h54 => ?_)
              · --t
                refine w_il dX7_next_95 rfl ?_
                refine w_k dX7_next_97 ?_
                refine w_icgeN dX7_next_99 (by omega) (by omega) (fun h99 => ?_) (fun h99 => ?_)
                · --t
                  refine w_k dX7_next_107 ?_
                  obtain rfl : k = 8 := by omega
                  refine w_iret dX7_next_108 rfl ?_
                  rw [← hQ]
                  exact ⟨_, rfl, by rw [r_next, if_pos ⟨h6, h13, h20, h28⟩, nv_nI (a := x) (by omega), nv_nI (a := y) (by omega), nv_nI (a := z) (by omega), nv_nI (a := d1) (by omega), ← mn_fn σ _ _ (by omega), n100, if_neg (by omega)], ⟨(CP.fr hC.1 hFt (by decide)), (CLd.fr hC.2.1 hFt (by decide)), (CTn.fr hC.2.2 hFt (by decide))⟩, (Fr.eqM hFt (by decide))⟩
                · --f
                  refine w_il dX7_next_102 rfl ?_
                  refine w_goto dX7_next_104 ?_
                  obtain rfl : k = 8 := by omega
                  refine w_iret dX7_next_108 rfl ?_
                  rw [← hQ]
                  exact ⟨_, rfl, by rw [r_next, if_pos ⟨h6, h13, h20, h28⟩, nv_nI (a := x) (by omega), nv_nI (a := y) (by omega), nv_nI (a := z) (by omega), nv_nI (a := d1) (by omega), ← mn_fn σ _ _ (by omega), n100, if_pos (by omega)], ⟨(CP.fr hC.1 hFt (by decide)), (CLd.fr hC.2.1 hFt (by decide)), (CTn.fr hC.2.2 hFt (by decide))⟩, (Fr.eqM hFt (by decide))⟩
              · --f
                refine w_al dX7_next_57 rfl ?_
                refine w_gr dX7_next_58 fl_X7_10 sh0 rfl ?_
                refine w_il dX7_next_61 rfl ?_
                refine w_il dX7_next_62 rfl ?_
                refine w_il dX7_next_63 rfl ?_
                refine w_il dX7_next_64 rfl ?_
                refine w_cVf dX7_next_66 (vl_X7_177 _ rfl) sh1 (by decide) (c_X3_canWork ρt σ x y z k (CLd.fr hC.2.1 hFt (by decide)) (by omega) (by omega) (by omega) (by omega)) rfl rfl (Nat.le_of_ble_eq_true rfl) ?_
                refine w_ifeqB dX7_next_69 (fun h69 => ?_) (fun h69 => ?_)
                · --t
                  refine w_iincN (ls2 := [some (.ref 0), some (.int (nI x)), some (.int (nI y)), some (.int (nI z)), some (.int (nI d1)), some (.int (nI (mnT (wkB σ x y z) (ffn σ (100 - d1)) k))), some (.int (nI (k + 1)))]) dX7_next_89 rfl rfl ?_
                  refine w_goto dX7_next_92 ?_
                  rw [← mnT_n (decide_eq_false h69)]
                  exact ih50 (k + 1) (by omega) (by omega)
                · --f
                  refine w_il dX7_next_72 rfl ?_
                  refine w_al dX7_next_74 rfl ?_
                  refine w_gr dX7_next_75 fl_X7_19 sh0 rfl ?_
                  refine w_gr dX7_next_78 fl_X7_181 sh10 rfl ?_
                  refine w_il dX7_next_81 rfl ?_
                  refine w_ialdV (v := (nI (ffn σ (100 - d1) k))) dX7_next_83 sh17 (by omega) (htt _ (by omega)) ?_
                  refine w_mminN dX7_next_84 (sl_X7_168 _ rfl) (by decide) (Nat.le_of_ble_eq_true rfl) (by omega) (by omega) ?_
                  refine w_is (ls2 := [some (.ref 0), some (.int (nI x)), some (.int (nI y)), some (.int (nI z)), some (.int (nI d1)), some (.int (nI (min (mnT (wkB σ x y z) (ffn σ (100 - d1)) k) (ffn σ (100 - d1) k)))), some (.int (nI k))]) dX7_next_87 rfl ?_
                  refine w_iincN (ls2 := [some (.ref 0), some (.int (nI x)), some (.int (nI y)), some (.int (nI z)), some (.int (nI d1)), some (.int (nI (min (mnT (wkB σ x y z) (ffn σ (100 - d1)) k) (ffn σ (100 - d1) k)))), some (.int (nI (k + 1)))]) dX7_next_89 rfl rfl ?_
                  refine w_goto dX7_next_92 ?_
                  rw [← mnT_y (decide_eq_true h69)]
                  exact ih50 (k + 1) (by omega) (by omega)
          exact L50 _ 0 (by omega) (Nat.lt_succ_self _)
        · --f
          refine w_k dX7_next_31 ?_
          refine w_iret dX7_next_33 rfl ?_
          rw [← hQ]
          exact ⟨_, rfl, by rw [r_next, if_neg (fun z => h28 z.2.2.2)], ⟨hC.1, hC.2.1, hC.2.2⟩, EqM.rf⟩

set_option maxHeartbeats 4000000 in
theorem c_X8_next (ρ : Rho) (σ : Sg) (p : Int32) (q : Int32) (u : Int32) (d : Int32) (hM : MInv σ ρ) : CallOK 5 mX8_next [.ref 47, .int p, .int q, .int u, .int d] ρ (fun r ρ2 => ∃ v, r = some v ∧ (v = .int (r_next σ p q u d) ∧ MInv (σ) ρ2 ∧ EqC ρ ρ2)) := by
  refine callOK_of 1 (by decide +kernel) rfl (fun _ => Nat.le_of_ble_eq_true rfl) (ls := [some (.ref 47), some (.int p), some (.int q), some (.int u), some (.int d), none]) rfl ?_
  generalize hQ : (fun r ρ2 => ∃ v, r = some v ∧ (v = .int (r_next σ p q u d) ∧ MInv (σ) ρ2 ∧ EqC ρ ρ2) : Option Value → Rho → Prop) = Q
  refine w_il dX8_next_0 rfl ?_
  refine w_cSf dX8_next_1 (sl_X8_118 _ rfl) (by decide) (c_X8_isEighth ρ p) rfl rfl (Nat.le_of_ble_eq_true rfl) ?_
  refine w_ifeqB dX8_next_4 (fun h4 => ?_) (fun h4 => ?_)
  · --t
    refine w_k dX8_next_29 ?_
    refine w_iret dX8_next_31 rfl ?_
    rw [← hQ]
    exact ⟨_, rfl, by rw [r_next, if_neg (fun z => h4 z.1)], hM, EqC.rf⟩
  · --f
    obtain ⟨x, hx, rfl⟩ := inR_nI h4 (by decide)
    refine w_il dX8_next_7 rfl ?_
    refine w_cSf dX8_next_8 (sl_X8_163 _ rfl) (by decide) (c_X8_isThing ρ q) rfl rfl (Nat.le_of_ble_eq_true rfl) ?_
    refine w_ifeqB dX8_next_11 (fun h11 => ?_) (fun h11 => ?_)
    · --t
      refine w_k dX8_next_29 ?_
      refine w_iret dX8_next_31 rfl ?_
      rw [← hQ]
      exact ⟨_, rfl, by rw [r_next, if_neg (fun z => h11 z.2.1)], hM, EqC.rf⟩
    · --f
      obtain ⟨y, hy, rfl⟩ := inR_nI h11 (by decide)
      refine w_il dX8_next_14 rfl ?_
      refine w_cSf dX8_next_15 (sl_X8_163 _ rfl) (by decide) (c_X8_isThing ρ u) rfl rfl (Nat.le_of_ble_eq_true rfl) ?_
      refine w_ifeqB dX8_next_18 (fun h18 => ?_) (fun h18 => ?_)
      · --t
        refine w_k dX8_next_29 ?_
        refine w_iret dX8_next_31 rfl ?_
        rw [← hQ]
        exact ⟨_, rfl, by rw [r_next, if_neg (fun z => h18 z.2.2.1)], hM, EqC.rf⟩
      · --f
        obtain ⟨z, hz, rfl⟩ := inR_nI h18 (by decide)
        refine w_il dX8_next_21 rfl ?_
        refine w_cSf dX8_next_23 (sl_X8_148 _ rfl) (by decide) (c_X8_isDay ρ d) rfl rfl (Nat.le_of_ble_eq_true rfl) ?_
        refine w_ifneB dX8_next_26 (fun h26 => ?_) (fun h26 => ?_)
        · --t
          obtain ⟨d1, hd1, rfl⟩ := inR_nI h26 (by decide)
          refine w_al dX8_next_32 rfl ?_
          refine w_cVu dX8_next_33 (vl_X8_145 _ rfl) sh47 (by decide) (c_X8_lays ρ σ hM) rfl rfl (Nat.le_of_ble_eq_true rfl) (fun ρl1 hl1 => ?_)
          obtain ⟨hMl1, hEl1, hDl1⟩ := hl1
          refine w_il dX8_next_36 rfl ?_
          refine w_is (ls2 := [some (.ref 47), some (.int (nI x)), some (.int (nI y)), some (.int (nI z)), some (.int (nI d1)), some (.int (nI d1))]) dX8_next_38 rfl ?_
          have L40 : ∀ (n40 : Nat) (e : Nat), (e ≤ 100) → (fnT σ (wkB σ x y z) (100 - e) = fnT σ (wkB σ x y z) (100 - d1)) → (100 - e) < n40 → MW mX8_next 5 40 [some (.ref 47), some (.int (nI x)), some (.int (nI y)), some (.int (nI z)), some (.int (nI d1)), some (.int (nI e))] [] ρl1 Q := by
            intro n40
            induction n40 with
            | zero =>
              intro e he hf hm40
              exact absurd hm40 (Nat.not_lt_zero _)
            | succ n40 ih40 =>
              intro e he hf hm40
              have wt := Tn_lt σ e
              refine w_il dX8_next_40 rfl ?_
              refine w_k dX8_next_42 ?_
              refine w_icgeN dX8_next_44 (by omega) (by omega) (fun h44 => ?_) (fun h44 => ?_)
              · --t
                refine w_k dX8_next_73 ?_
                refine w_iret dX8_next_74 rfl ?_
                rw [← hQ]
                exact ⟨_, rfl, by rw [r_next, if_pos ⟨h4, h11, h18, h26⟩, nv_nI (a := x) (by omega), nv_nI (a := y) (by omega), nv_nI (a := z) (by omega), nv_nI (a := d1) (by omega), ← hf, show 100 - e = 0 by omega]; rfl, hMl1, (EqC.tr EqC.rf hEl1)⟩
              · --f
                refine w_al dX8_next_47 rfl ?_
                refine w_il dX8_next_48 rfl ?_
                refine w_il dX8_next_49 rfl ?_
                refine w_il dX8_next_50 rfl ?_
                refine w_al dX8_next_51 rfl ?_
                refine w_gr dX8_next_52 fl_X8_40 sh47 rfl ?_
                refine w_il dX8_next_55 rfl ?_
                refine w_ialdV (v := (nI (Tn σ e))) dX8_next_57 sh58 (by omega) (hDl1.2 _ (by omega)) ?_
                refine w_cVf dX8_next_58 (vl_X8_187 _ rfl) sh47 (by decide) (c_X8_works ρl1 σ x y z (Tn σ e) hDl1.1 (by omega) (by omega) (by omega) (by omega)) rfl rfl (Nat.le_of_ble_eq_true rfl) ?_
                refine w_ifeqB dX8_next_61 (fun h61 => ?_) (fun h61 => ?_)
                · --t
                  refine w_iincN (ls2 := [some (.ref 47), some (.int (nI x)), some (.int (nI y)), some (.int (nI z)), some (.int (nI d1)), some (.int (nI (e + 1)))]) dX8_next_67 rfl rfl ?_
                  refine w_goto dX8_next_70 ?_
                  exact ih40 (e + 1) (by omega) (by rw [← hf, fnT_s (d := e) (by omega), if_neg (by rw [wkB, decide_eq_false h61]; decide)]) (by omega)
                · --f
                  refine w_il dX8_next_64 rfl ?_
                  refine w_iret dX8_next_66 rfl ?_
                  rw [← hQ]
                  exact ⟨_, rfl, by rw [r_next, if_pos ⟨h4, h11, h18, h26⟩, nv_nI (a := x) (by omega), nv_nI (a := y) (by omega), nv_nI (a := z) (by omega), nv_nI (a := d1) (by omega), ← hf, fnT_s (d := e) (by omega), if_pos (show wkB σ x y z (Tn σ e) = true from decide_eq_true h61), n100, if_pos (by omega)], hMl1, (EqC.tr EqC.rf hEl1)⟩
          exact L40 _ d1 (by omega) (rfl) (Nat.lt_succ_self _)
        · --f
          refine w_k dX8_next_29 ?_
          refine w_iret dX8_next_31 rfl ?_
          rw [← hQ]
          exact ⟨_, rfl, by rw [r_next, if_neg (fun z => h26 z.2.2.2)], hM, EqC.rf⟩
