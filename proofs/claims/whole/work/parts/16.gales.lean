def dsum (σ : Sg) (d k : Nat) : Nat := sumN (fun j => if cntG σ j ∧ σ.1 53 j = d then incG σ j else 0) k
def psum (σ : Sg) (d k : Nat) : Nat := sumN (fun q => dsum σ q k) d
theorem incG_le {σ : Sg} (h : Wf σ) (k : Nat) : incG σ k ≤ 7 := by
  unfold incG
  have := h.wing
  split <;> omega
theorem dsum_le {σ : Sg} (h : Wf σ) (d k : Nat) : dsum σ d k ≤ k * 7 := sumN_le k (fun i _ => by have := incG_le h i; split <;> omega)
theorem dsum_y {σ : Sg} {k : Nat} (h : cntG σ k) : dsum σ (σ.1 53 k) (k + 1) = dsum σ (σ.1 53 k) k + incG σ k := by
  show _ + (if _ then _ else _) = _
  rw [if_pos ⟨h, rfl⟩]
  rfl
theorem dsum_n {σ : Sg} {d k : Nat} (h : ¬ (cntG σ k ∧ σ.1 53 k = d)) : dsum σ d (k + 1) = dsum σ d k := by
  show _ + (if _ then _ else _) = _
  rw [if_neg h]
  rfl
theorem psum_T (σ : Sg) (k : Nat) : ∀ d, psum σ (d + 1) k = sumT σ d k := by
  have st : ∀ d, sumT σ (d + 1) k = sumT σ d k + dsum σ (d + 1) k := by
    intro d
    unfold sumT dsum
    rw [← sumN_add]
    refine sumN_congr k (fun i _ => ?_)
    by_cases c : cntG σ i
    · by_cases h1 : σ.1 53 i ≤ d
      · rw [if_pos ⟨c, by omega⟩, if_pos ⟨c, h1⟩, if_neg (fun q => absurd q.2 (by omega))]; rfl
      · by_cases h2 : σ.1 53 i = d + 1
        · rw [if_pos ⟨c, by omega⟩, if_neg (fun q => h1 q.2), if_pos ⟨c, h2⟩]; omega
        · rw [if_neg (fun q => absurd q.2 (by omega)), if_neg (fun q => h1 q.2), if_neg (fun q => h2 q.2)]
    · rw [if_neg (fun q => c q.1), if_neg (fun q => c q.1), if_neg (fun q => c q.1)]
  intro d
  induction d with
  | zero =>
    show sumN (fun q => dsum σ q k) 0 + dsum σ 0 k = _
    have : sumT σ 0 k = dsum σ 0 k := sumN_congr k (fun i _ => by simp only [Nat.le_zero])
    rw [this]
    exact Nat.zero_add _
  | succ d ih =>
    show psum σ (d + 1) k + dsum σ (d + 1) k = _
    rw [ih, st]
theorem Tn_p (σ : Sg) (d : Nat) : Tn σ d = (σ.1 57 2 + psum σ (d + 1) (σ.1 47 7)) % 8 := by rw [psum_T]; rfl
theorem psum_s (σ : Sg) (d k : Nat) : psum σ (d + 1) k = psum σ d k + dsum σ d k := rfl
def numC (σ : Sg) (n : Nat) : Nat := sumN (fun k => if cntG σ k then 1 else 0) n
theorem numC_y {σ : Sg} {k : Nat} (h : cntG σ k) : numC σ (k + 1) = numC σ k + 1 := by
  show _ + (if _ then _ else _) = _
  rw [if_pos h]; rfl
theorem numC_n {σ : Sg} {k : Nat} (h : ¬ cntG σ k) : numC σ (k + 1) = numC σ k := by
  show _ + (if _ then _ else _) = _
  rw [if_neg h]; rfl
theorem numC_le (σ : Sg) (n : Nat) : numC σ n ≤ n * 1 := sumN_le n (fun i _ => by split <;> omega)
/-- on how many of n DAYS from a on the TURN is t -/
def tal (σ : Sg) (a n t : Nat) : Nat := sumN (fun i => if Tn σ (a + i) = t then 1 else 0) n
theorem tal_le (σ : Sg) (a n t : Nat) : tal σ a n t ≤ n * 1 := sumN_le n (fun i _ => by split <;> omega)
theorem tal_s (σ : Sg) (a n t : Nat) : tal σ a (n + 1) t = tal σ a n t + if Tn σ (a + n) = t then 1 else 0 := rfl
/-- of the last n DAYS the first one of a TURN; 100: none -/
def ffn (σ : Sg) : Nat → Nat → Nat
  | 0, _ => 100
  | n + 1, t => if Tn σ (100 - (n + 1)) = t then 100 - (n + 1) else ffn σ n t
theorem dcm {e a : Nat} (he : e ≤ 1000) (ha : a ≤ 1000) : nI e + (-1) < nI a ↔ e ≤ a := by
  cases e with
  | zero =>
    refine ⟨fun _ => Nat.zero_le _, fun _ => ?_⟩
    have h1 : nI 0 + (-1) = -1 := by decide
    rw [h1, Int32.lt_iff_toInt_lt, nI_toInt (by omega)]
    have : (-1 : Int32).toInt = -1 := by decide
    omega
  | succ e =>
    rw [pk_m1, nI_ltI (by omega) (by omega)]
    omega
set_option maxHeartbeats 4000000 in
theorem c_X1_counts (ρ : Rho) (σ : Sg) (k : Nat) (hC : CP σ ρ) (hk : k < 60) : CallOK 0 mX1_counts [.ref 10, .int (nI k)] ρ (fun r ρ2 => r = some (.int (b2i (cntG σ k))) ∧ ρ2 = ρ) := by
  refine callOK_of 0 (by decide +kernel) rfl (fun _ => Nat.le_of_ble_eq_true rfl) (ls := [some (.ref 10), some (.int (nI k))]) rfl ?_
  generalize hQ : (fun r ρ2 => r = some (.int (b2i (cntG σ k))) ∧ ρ2 = ρ : Option Value → Rho → Prop) = Q
  have w1 := hC.1.told k
  have w2 := hC.1.asof
  refine w_al dX1_counts_0 rfl ?_
  refine w_gr dX1_counts_1 fl_X1_22 sh10 rfl ?_
  refine w_il dX1_counts_4 rfl ?_
  refine w_ialdV (v := (nI (σ.1 55 k))) dX1_counts_5 sh13 (by omega) (hC.2.1 (13, 55) (by decide) _) ?_
  refine w_al dX1_counts_6 rfl ?_
  refine w_giV (v := (nI (σ.1 57 0))) dX1_counts_7 fl_X1_31 sh10 rfl (hC.2.2.2.1 (10, 6, 57, 0) (by decide)) ?_
  refine w_icgtN dX1_counts_10 (by omega) (by omega) (fun h10 => ?_) (fun h10 => ?_)
  · --t
    refine w_k dX1_counts_40 ?_
    refine w_zret dX1_counts_41 rfl rfl ?_
    rw [← hQ]
    exact ⟨congrArg (fun z => some (Value.int z)) (b2i_f (fun q => absurd q.1 (by omega))).symm, rfl⟩
  · --f
    refine w_al dX1_counts_13 rfl ?_
    refine w_gr dX1_counts_14 fl_X1_25 sh10 rfl ?_
    refine w_il dX1_counts_17 rfl ?_
    refine w_ialdV (v := (σ.2 56 k)) dX1_counts_18 sh14 (by omega) (hC.2.2.1 (14, 56) (by decide) _) ?_
    refine w_k dX1_counts_19 ?_
    refine w_iceq dX1_counts_20 (fun h20 => ?_) (fun h20 => ?_)
    · --t
      refine w_k dX1_counts_36 ?_
      refine w_goto dX1_counts_37 ?_
      refine w_zret dX1_counts_41 rfl rfl ?_
      rw [← hQ]
      exact ⟨congrArg (fun z => some (Value.int z)) (b2i_t ⟨h10, Or.inl h20⟩).symm, rfl⟩
    · --f
      refine w_al dX1_counts_23 rfl ?_
      refine w_gr dX1_counts_24 fl_X1_25 sh10 rfl ?_
      refine w_il dX1_counts_27 rfl ?_
      refine w_ialdV (v := (σ.2 56 k)) dX1_counts_28 sh14 (by omega) (hC.2.2.1 (14, 56) (by decide) _) ?_
      refine w_al dX1_counts_29 rfl ?_
      refine w_giV (v := (nI (σ.1 57 0))) dX1_counts_30 fl_X1_31 sh10 rfl (hC.2.2.2.1 (10, 6, 57, 0) (by decide)) ?_
      refine w_icle dX1_counts_33 (fun h33 => ?_) (fun h33 => ?_)
      · --t
        refine w_k dX1_counts_40 ?_
        refine w_zret dX1_counts_41 rfl rfl ?_
        rw [← hQ]
        exact ⟨congrArg (fun z => some (Value.int z)) (b2i_f (fun q => q.2.elim h20 (fun z => absurd h33 (Int32.not_le.mpr z)))).symm, rfl⟩
      · --f
        refine w_k dX1_counts_36 ?_
        refine w_goto dX1_counts_37 ?_
        refine w_zret dX1_counts_41 rfl rfl ?_
        rw [← hQ]
        exact ⟨congrArg (fun z => some (Value.int z)) (b2i_t ⟨h10, Or.inr (Int32.not_le.mp h33)⟩).symm, rfl⟩

set_option maxHeartbeats 4000000 in
theorem c_X1_counting (ρ : Rho) (σ : Sg) (hC : CP σ ρ) : CallOK 1 mX1_counting [.ref 10] ρ (fun r ρ2 => r = some (.int (nI (numC σ (σ.1 47 7)))) ∧ ρ2 = ρ) := by
  refine callOK_of 2 (by decide +kernel) rfl (fun _ => Nat.le_of_ble_eq_true rfl) (ls := [some (.ref 10), none, none]) rfl ?_
  generalize hQ : (fun r ρ2 => r = some (.int (nI (numC σ (σ.1 47 7)))) ∧ ρ2 = ρ : Option Value → Rho → Prop) = Q
  have w1 := hC.1.gales
  refine w_k dX1_counting_0 ?_
  refine w_is (ls2 := [some (.ref 10), some (.int (nI 0)), none]) dX1_counting_1 rfl ?_
  refine w_k dX1_counting_2 ?_
  refine w_is (ls2 := [some (.ref 10), some (.int (nI 0)), some (.int (nI 0))]) dX1_counting_3 rfl ?_
  have L4 : ∀ (n4 : Nat) (k : Nat), (k ≤ σ.1 47 7) → (60 - k) < n4 → MW mX1_counting 1 4 [some (.ref 10), some (.int (nI (numC σ k))), some (.int (nI k))] [] ρ Q := by
    intro n4
    induction n4 with
    | zero =>
      intro k hk hm4
      exact absurd hm4 (Nat.not_lt_zero _)
    | succ n4 ih4 =>
      intro k hk hm4
      refine w_il dX1_counting_4 rfl ?_
      refine w_al dX1_counting_5 rfl ?_
      refine w_giV (v := (nI (σ.1 47 7))) dX1_counting_6 fl_X1_9 sh10 rfl (hC.2.2.2.1 (10, 0, 47, 7) (by decide)) ?_
      refine w_icgeN dX1_counting_9 (by omega) (by omega) (fun h9 => ?_) (fun h9 => ?_)
      · --t
        refine w_il dX1_counting_35 rfl ?_
        refine w_iret dX1_counting_36 rfl ?_
        rw [← hQ]
        exact ⟨by rw [show k = σ.1 47 7 by omega], rfl⟩
      · --f
        refine w_il dX1_counting_12 rfl ?_
        refine w_k dX1_counting_13 ?_
        refine w_icgeN dX1_counting_15 (by omega) (by omega) (fun h15 => ?_) (fun h15 => ?_)
        · --t
          refine w_il dX1_counting_35 rfl ?_
          refine w_iret dX1_counting_36 rfl ?_
          rw [← hQ]
          exact ⟨by rw [show k = σ.1 47 7 by omega], rfl⟩
        · --f
          refine w_al dX1_counting_18 rfl ?_
          refine w_il dX1_counting_19 rfl ?_
          refine w_cVf dX1_counting_20 (vl_X1_49 _ rfl) sh10 (by decide) (c_X1_counts ρ σ k hC (by omega)) rfl rfl (Nat.le_of_ble_eq_true rfl) ?_
          refine w_ifeqB dX1_counting_23 (fun h23 => ?_) (fun h23 => ?_)
          · --t
            refine w_iincN (ls2 := [some (.ref 10), some (.int (nI (numC σ k))), some (.int (nI (k + 1)))]) dX1_counting_29 rfl rfl ?_
            refine w_goto dX1_counting_32 ?_
            rw [← numC_n h23]
            exact ih4 (k + 1) (by omega) (by omega)
          · --f
            refine w_iincN (ls2 := [some (.ref 10), some (.int (nI (numC σ k + 1))), some (.int (nI k))]) dX1_counting_26 rfl rfl ?_
            refine w_iincN (ls2 := [some (.ref 10), some (.int (nI (numC σ k + 1))), some (.int (nI (k + 1)))]) dX1_counting_29 rfl rfl ?_
            refine w_goto dX1_counting_32 ?_
            rw [← numC_y h23]
            exact ih4 (k + 1) (by omega) (by omega)
  exact L4 _ 0 (by omega) (Nat.lt_succ_self _)

set_option maxHeartbeats 4000000 in
theorem c_X1_reckonTurns (ρ : Rho) (σ : Sg) (hC : CP σ ρ) : CallOK 1 mX1_reckonTurns [.ref 10] ρ (fun r ρ2 => r = none ∧ (CP σ ρ2 ∧ CTn σ ρ2 ∧ Fr [15] ρ ρ2)) := by
  refine callOK_of 2 (by decide +kernel) rfl (fun _ => Nat.le_of_ble_eq_true rfl) (ls := [some (.ref 10), none, none]) rfl ?_
  generalize hQ : (fun r ρ2 => r = none ∧ (CP σ ρ2 ∧ CTn σ ρ2 ∧ Fr [15] ρ ρ2) : Option Value → Rho → Prop) = Q
  have w1 := hC.1.gales
  have w2 := hC.1.begin
  have w3 := hC.1.wing
  refine w_al dX1_reckonTurns_0 rfl ?_
  refine w_gr dX1_reckonTurns_1 fl_X1_40 sh10 rfl ?_
  refine w_k dX1_reckonTurns_4 ?_
  refine w_cSv dX1_reckonTurns_5 (sl_X1_53 _ rfl) (by decide) (c_fill ρ 15 100 (nI 0) sh15) rfl rfl (Nat.le_of_ble_eq_true rfl) ?_
  refine w_k dX1_reckonTurns_8 ?_
  refine w_is (ls2 := [some (.ref 10), some (.int (nI 0)), none]) dX1_reckonTurns_9 rfl ?_
  have L10 : ∀ (n10 : Nat) (k : Nat) (ρ1 : Rho), (k ≤ σ.1 47 7) → (CP σ ρ1) → (Fr [15] ρ ρ1) → (∀ q, q < 100 → ρ1.1 15 q = nI (dsum σ q k)) → (60 - k) < n10 → MW mX1_reckonTurns 1 10 [some (.ref 10), some (.int (nI k)), none] [] ρ1 Q := by
    intro n10
    induction n10 with
    | zero =>
      intro k ρ1 hk hC1 hF1 ht1 hm10
      exact absurd hm10 (Nat.not_lt_zero _)
    | succ n10 ih10 =>
      intro k ρ1 hk hC1 hF1 ht1 hm10
      have wd := hC1.1.day k
      have wf := hC1.1.frm k
      have wi := dsum_le hC1.1 (σ.1 53 k) k
      refine w_il dX1_reckonTurns_10 rfl ?_
      refine w_al dX1_reckonTurns_11 rfl ?_
      refine w_giV (v := (nI (σ.1 47 7))) dX1_reckonTurns_12 fl_X1_9 sh10 rfl (hC1.2.2.2.1 (10, 0, 47, 7) (by decide)) ?_
      refine w_icgeN dX1_reckonTurns_15 (by omega) (by omega) (fun h15 => ?_) (fun h15 => ?_)
      · --t
        refine w_al dX1_reckonTurns_69 rfl ?_
        refine w_giV (v := (nI (σ.1 57 2))) dX1_reckonTurns_70 fl_X1_37 sh10 rfl (hC1.2.2.2.1 (10, 8, 57, 2) (by decide)) ?_
        refine w_is (ls2 := [some (.ref 10), some (.int (nI (σ.1 57 2))), none]) dX1_reckonTurns_73 rfl ?_
        refine w_k dX1_reckonTurns_74 ?_
        refine w_is (ls2 := [some (.ref 10), some (.int (nI (σ.1 57 2))), some (.int (nI 0))]) dX1_reckonTurns_75 rfl ?_
        have L76 : ∀ (n76 : Nat) (d : Nat) (ρ2 : Rho), (d ≤ 100) → (CP σ ρ2) → (Fr [15] ρ ρ2) → (∀ q, q < 100 → ρ2.1 15 q = nI (if q < d then Tn σ q else dsum σ q (σ.1 47 7))) → (100 - d) < n76 → MW mX1_reckonTurns 1 76 [some (.ref 10), some (.int (nI ((σ.1 57 2 + psum σ d (σ.1 47 7)) % 8))), some (.int (nI d))] [] ρ2 Q := by
          intro n76
          induction n76 with
          | zero =>
            intro d ρ2 hd hC2 hF2 ht2 hm76
            exact absurd hm76 (Nat.not_lt_zero _)
          | succ n76 ih76 =>
            intro d ρ2 hd hC2 hF2 ht2 hm76
            have wi := dsum_le hC2.1 d (σ.1 47 7)
            refine w_il dX1_reckonTurns_76 rfl ?_
            refine w_k dX1_reckonTurns_77 ?_
            refine w_icgeN dX1_reckonTurns_79 (by omega) (by omega) (fun h79 => ?_) (fun h79 => ?_)
            · --t
              refine w_ret dX1_reckonTurns_107 rfl ?_
              rw [← hQ]
              exact ⟨rfl, hC2, fun q hq => by rw [ht2 q hq, if_pos (by omega)], hF2⟩
            · --f
              refine w_il dX1_reckonTurns_82 rfl ?_
              refine w_al dX1_reckonTurns_83 rfl ?_
              refine w_gr dX1_reckonTurns_84 fl_X1_40 sh10 rfl ?_
              refine w_il dX1_reckonTurns_87 rfl ?_
              refine w_ialdV (v := (nI (dsum σ d (σ.1 47 7)))) dX1_reckonTurns_88 sh15 (by omega) (by rw [ht2 d (by omega), if_neg (by omega)]) ?_
              refine w_iaddN dX1_reckonTurns_89 ?_
              refine w_k dX1_reckonTurns_90 ?_
              refine w_iand7 dX1_reckonTurns_92 (by omega) ?_
              refine w_is (ls2 := [some (.ref 10), some (.int (nI (((σ.1 57 2 + psum σ d (σ.1 47 7)) % 8 + (dsum σ d (σ.1 47 7))) % 8))), some (.int (nI d))]) dX1_reckonTurns_93 rfl ?_
              refine w_al dX1_reckonTurns_94 rfl ?_
              refine w_gr dX1_reckonTurns_95 fl_X1_40 sh10 rfl ?_
              refine w_il dX1_reckonTurns_98 rfl ?_
              refine w_il dX1_reckonTurns_99 rfl ?_
              refine w_iastN dX1_reckonTurns_100 sh15 (by omega) ?_
              refine w_iincN (ls2 := [some (.ref 10), some (.int (nI (((σ.1 57 2 + psum σ d (σ.1 47 7)) % 8 + (dsum σ d (σ.1 47 7))) % 8))), some (.int (nI (d + 1)))]) dX1_reckonTurns_101 rfl rfl ?_
              refine w_goto dX1_reckonTurns_104 ?_
              have eT : ((σ.1 57 2 + psum σ d (σ.1 47 7)) % 8 + dsum σ d (σ.1 47 7)) % 8 = (σ.1 57 2 + psum σ (d + 1) (σ.1 47 7)) % 8 := by rw [psum_s]; omega
              rw [eT]
              exact ih76 (d + 1) _ (by omega) ((CP.only hC2 only_wI (by decide))) ((Fr.only hF2 only_wI (by decide))) (upd1 (f := fun q => nI (if q < d then Tn σ q else dsum σ q (σ.1 47 7))) (g := fun q => nI (if q < d + 1 then Tn σ q else dsum σ q (σ.1 47 7))) ht2 (by rw [if_pos (by omega), Tn_p]) (fun q hq => by simp only [show (q < d + 1) = (q < d) by simp; omega])) (by omega)
        rw [show σ.1 57 2 = (σ.1 57 2 + psum σ 0 (σ.1 47 7)) % 8 from by show _ = (σ.1 57 2 + 0) % 8; omega]
        exact L76 _ 0 ρ1 (by omega) (hC1) (hF1) (fun q hq => by rw [ht1 q hq, if_neg (by omega), show k = σ.1 47 7 by omega]) (Nat.lt_succ_self _)
      · --f
        refine w_il dX1_reckonTurns_18 rfl ?_
        refine w_k dX1_reckonTurns_19 ?_
        refine w_icgeN dX1_reckonTurns_21 (by omega) (by omega) (fun h21 => ?_) (fun h21 => ?_)
        · --t
          refine w_al dX1_reckonTurns_69 rfl ?_
          refine w_giV (v := (nI (σ.1 57 2))) dX1_reckonTurns_70 fl_X1_37 sh10 rfl (hC1.2.2.2.1 (10, 8, 57, 2) (by decide)) ?_
          refine w_is (ls2 := [some (.ref 10), some (.int (nI (σ.1 57 2))), none]) dX1_reckonTurns_73 rfl ?_
          refine w_k dX1_reckonTurns_74 ?_
          refine w_is (ls2 := [some (.ref 10), some (.int (nI (σ.1 57 2))), some (.int (nI 0))]) dX1_reckonTurns_75 rfl ?_
          have L76 : ∀ (n76 : Nat) (d : Nat) (ρ2 : Rho), (d ≤ 100) → (CP σ ρ2) → (Fr [15] ρ ρ2) → (∀ q, q < 100 → ρ2.1 15 q = nI (if q < d then Tn σ q else dsum σ q (σ.1 47 7))) → (100 - d) < n76 → MW mX1_reckonTurns 1 76 [some (.ref 10), some (.int (nI ((σ.1 57 2 + psum σ d (σ.1 47 7)) % 8))), some (.int (nI d))] [] ρ2 Q := by
            intro n76
            induction n76 with
            | zero =>
              intro d ρ2 hd hC2 hF2 ht2 hm76
              exact absurd hm76 (Nat.not_lt_zero _)
            | succ n76 ih76 =>
              intro d ρ2 hd hC2 hF2 ht2 hm76
              have wi := dsum_le hC2.1 d (σ.1 47 7)
              refine w_il dX1_reckonTurns_76 rfl ?_
              refine w_k dX1_reckonTurns_77 ?_
              refine w_icgeN dX1_reckonTurns_79 (by omega) (by omega) (fun h79 => ?_) (fun h79 => ?_)
              · --t
                refine w_ret dX1_reckonTurns_107 rfl ?_
                rw [← hQ]
                exact ⟨rfl, hC2, fun q hq => by rw [ht2 q hq, if_pos (by omega)], hF2⟩
              · --f
                refine w_il dX1_reckonTurns_82 rfl ?_
                refine w_al dX1_reckonTurns_83 rfl ?_
                refine w_gr dX1_reckonTurns_84 fl_X1_40 sh10 rfl ?_
                refine w_il dX1_reckonTurns_87 rfl ?_
                refine w_ialdV (v := (nI (dsum σ d (σ.1 47 7)))) dX1_reckonTurns_88 sh15 (by omega) (by rw [ht2 d (by omega), if_neg (by omega)]) ?_
                refine w_iaddN dX1_reckonTurns_89 ?_
                refine w_k dX1_reckonTurns_90 ?_
                refine w_iand7 dX1_reckonTurns_92 (by omega) ?_
                refine w_is (ls2 := [some (.ref 10), some (.int (nI (((σ.1 57 2 + psum σ d (σ.1 47 7)) % 8 + (dsum σ d (σ.1 47 7))) % 8))), some (.int (nI d))]) dX1_reckonTurns_93 rfl ?_
                refine w_al dX1_reckonTurns_94 rfl ?_
                refine w_gr dX1_reckonTurns_95 fl_X1_40 sh10 rfl ?_
                refine w_il dX1_reckonTurns_98 rfl ?_
                refine w_il dX1_reckonTurns_99 rfl ?_
                refine w_iastN dX1_reckonTurns_100 sh15 (by omega) ?_
                refine w_iincN (ls2 := [some (.ref 10), some (.int (nI (((σ.1 57 2 + psum σ d (σ.1 47 7)) % 8 + (dsum σ d (σ.1 47 7))) % 8))), some (.int (nI (d + 1)))]) dX1_reckonTurns_101 rfl rfl ?_
                refine w_goto dX1_reckonTurns_104 ?_
                have eT : ((σ.1 57 2 + psum σ d (σ.1 47 7)) % 8 + dsum σ d (σ.1 47 7)) % 8 = (σ.1 57 2 + psum σ (d + 1) (σ.1 47 7)) % 8 := by rw [psum_s]; omega
                rw [eT]
                exact ih76 (d + 1) _ (by omega) ((CP.only hC2 only_wI (by decide))) ((Fr.only hF2 only_wI (by decide))) (upd1 (f := fun q => nI (if q < d then Tn σ q else dsum σ q (σ.1 47 7))) (g := fun q => nI (if q < d + 1 then Tn σ q else dsum σ q (σ.1 47 7))) ht2 (by rw [if_pos (by omega), Tn_p]) (fun q hq => by simp only [show (q < d + 1) = (q < d) by simp; omega])) (by omega)
          rw [show σ.1 57 2 = (σ.1 57 2 + psum σ 0 (σ.1 47 7)) % 8 from by show _ = (σ.1 57 2 + 0) % 8; omega]
          exact L76 _ 0 ρ1 (by omega) (hC1) (hF1) (fun q hq => by rw [ht1 q hq, if_neg (by omega), show k = σ.1 47 7 by omega]) (Nat.lt_succ_self _)
        · --f
          refine w_al dX1_reckonTurns_24 rfl ?_
          refine w_il dX1_reckonTurns_25 rfl ?_
          refine w_cVf dX1_reckonTurns_26 (vl_X1_49 _ rfl) sh10 (by decide) (c_X1_counts ρ1 σ k hC1 (by omega)) rfl rfl (Nat.le_of_ble_eq_true rfl) ?_
          refine w_ifeqB dX1_reckonTurns_29 (fun h29 => ?_) (fun h29 => ?_)
          · --t
            refine w_iincN (ls2 := [some (.ref 10), some (.int (nI (k + 1))), none]) dX1_reckonTurns_63 rfl rfl ?_
            refine w_goto dX1_reckonTurns_66 ?_
            exact ih10 (k + 1) ρ1 (by omega) (hC1) (hF1) (fun q hq => by rw [ht1 q hq, dsum_n (fun z => h29 z.1)]) (by omega)
          · --f
            refine w_al dX1_reckonTurns_32 rfl ?_
            refine w_gr dX1_reckonTurns_33 fl_X1_40 sh10 rfl ?_
            refine w_al dX1_reckonTurns_36 rfl ?_
            refine w_gr dX1_reckonTurns_37 fl_X1_15 sh10 rfl ?_
            refine w_il dX1_reckonTurns_40 rfl ?_
            refine w_ialdV (v := (nI (σ.1 53 k))) dX1_reckonTurns_41 sh11 (by omega) (hC1.2.1 (11, 53) (by decide) _) ?_
            refine w_dup2 dX1_reckonTurns_42 rfl rfl ?_
            refine w_ialdV (v := (nI (dsum σ (σ.1 53 k) k))) dX1_reckonTurns_43 sh15 (by omega) (ht1 _ (by omega)) ?_
            refine w_al dX1_reckonTurns_44 rfl ?_
            refine w_gr dX1_reckonTurns_45 fl_X1_19 sh10 rfl ?_
            refine w_il dX1_reckonTurns_48 rfl ?_
            refine w_ialdV (v := (nI (σ.1 54 k))) dX1_reckonTurns_49 sh12 (by omega) (hC1.2.1 (12, 54) (by decide) _) ?_
            refine w_ifneN dX1_reckonTurns_50 (by omega) (fun h50 => ?_) (fun h50 => ?_)
            · --t
              refine w_al dX1_reckonTurns_57 rfl ?_
              refine w_giV (v := (nI (σ.1 57 1))) dX1_reckonTurns_58 fl_X1_34 sh10 rfl (hC1.2.2.2.1 (10, 7, 57, 1) (by decide)) ?_
              refine w_iaddN dX1_reckonTurns_61 ?_
              refine w_iastN dX1_reckonTurns_62 sh15 (by omega) ?_
              refine w_iincN (ls2 := [some (.ref 10), some (.int (nI (k + 1))), none]) dX1_reckonTurns_63 rfl rfl ?_
              refine w_goto dX1_reckonTurns_66 ?_
              exact ih10 (k + 1) (wI ρ1 15 (σ.1 53 k) (nI (dsum σ (σ.1 53 k) k + (σ.1 57 1)))) (by omega) ((CP.only hC1 only_wI (by decide))) ((Fr.only hF1 only_wI (by decide))) (upd1 (f := fun q => nI (dsum σ q k)) (g := fun q => nI (dsum σ q (k + 1))) ht1 (by rw [dsum_y h29, incG, if_neg h50]) (fun q hq => by rw [dsum_n (fun z => hq z.2.symm)])) (by omega)
            · --f
              refine w_k dX1_reckonTurns_53 ?_
              refine w_goto dX1_reckonTurns_54 ?_
              refine w_iaddN dX1_reckonTurns_61 ?_
              refine w_iastN dX1_reckonTurns_62 sh15 (by omega) ?_
              refine w_iincN (ls2 := [some (.ref 10), some (.int (nI (k + 1))), none]) dX1_reckonTurns_63 rfl rfl ?_
              refine w_goto dX1_reckonTurns_66 ?_
              exact ih10 (k + 1) (wI ρ1 15 (σ.1 53 k) (nI (dsum σ (σ.1 53 k) k + 1))) (by omega) ((CP.only hC1 only_wI (by decide))) ((Fr.only hF1 only_wI (by decide))) (upd1 (f := fun q => nI (dsum σ q k)) (g := fun q => nI (dsum σ q (k + 1))) ht1 (by rw [dsum_y h29, incG, if_pos h50]) (fun q hq => by rw [dsum_n (fun z => hq z.2.symm)])) (by omega)
  exact L10 _ 0 (fillI ρ 15 100 (nI 0)) (by omega) ((CP.only hC only_fillI (by decide))) ((Fr.only Fr.rf only_fillI (by decide))) (fun q hq => fill_at hq) (Nat.lt_succ_self _)

set_option maxHeartbeats 4000000 in
theorem c_X1_tally (ρ : Rho) (σ : Sg) (a b : Nat) (hT : CTn σ ρ) (hab : a ≤ b) (hb : b < 100) : CallOK 1 mX1_tally [.ref 10, .int (nI a), .int (nI b)] ρ (fun r ρ2 => r = none ∧ (Fr [16] ρ ρ2 ∧ ∀ t, t < 8 → ρ2.1 16 t = nI (tal σ a (b + 1 - a) t))) := by
  refine callOK_of 1 (by decide +kernel) rfl (fun _ => Nat.le_of_ble_eq_true rfl) (ls := [some (.ref 10), some (.int (nI a)), some (.int (nI b)), none]) rfl ?_
  generalize hQ : (fun r ρ2 => r = none ∧ (Fr [16] ρ ρ2 ∧ ∀ t, t < 8 → ρ2.1 16 t = nI (tal σ a (b + 1 - a) t)) : Option Value → Rho → Prop) = Q
  refine w_al dX1_tally_0 rfl ?_
  refine w_gr dX1_tally_1 fl_X1_43 sh10 rfl ?_
  refine w_k dX1_tally_4 ?_
  refine w_cSv dX1_tally_5 (sl_X1_53 _ rfl) (by decide) (c_fill ρ 16 8 (nI 0) sh16) rfl rfl (Nat.le_of_ble_eq_true rfl) ?_
  refine w_il dX1_tally_8 rfl ?_
  refine w_is (ls2 := [some (.ref 10), some (.int (nI a)), some (.int (nI b)), some (.int (nI a))]) dX1_tally_9 rfl ?_
  have L10 : ∀ (n10 : Nat) (i : Nat) (ρ1 : Rho), (i ≤ b + 1 - a) → (Fr [16] ρ ρ1) → (∀ t, t < 8 → ρ1.1 16 t = nI (tal σ a i t)) → (b + 1 - a - i) < n10 → MW mX1_tally 1 10 [some (.ref 10), some (.int (nI a)), some (.int (nI b)), some (.int (nI (a + i)))] [] ρ1 Q := by
    intro n10
    induction n10 with
    | zero =>
      intro i ρ1 hi hF1 ht1 hm10
      exact absurd hm10 (Nat.not_lt_zero _)
    | succ n10 ih10 =>
      intro i ρ1 hi hF1 ht1 hm10
      have wt := tal_le σ a i (Tn σ (a + i))
      have wl := Tn_lt σ (a + i)
      refine w_il dX1_tally_10 rfl ?_
      refine w_il dX1_tally_11 rfl ?_
      refine w_icgtN dX1_tally_12 (by omega) (by omega) (fun h12 => ?_) (fun h12 => ?_)
      · --t
        refine w_ret dX1_tally_36 rfl ?_
        rw [← hQ]
        exact ⟨rfl, hF1, fun t ht => by rw [ht1 t ht, show i = b + 1 - a by omega]⟩
      · --f
        refine w_al dX1_tally_15 rfl ?_
        refine w_gr dX1_tally_16 fl_X1_43 sh10 rfl ?_
        refine w_al dX1_tally_19 rfl ?_
        refine w_gr dX1_tally_20 fl_X1_40 sh10 rfl ?_
        refine w_il dX1_tally_23 rfl ?_
        refine w_ialdV (v := (nI (Tn σ (a + i)))) dX1_tally_24 sh15 (by omega) (by rw [(hF1 15 (by decide)).1]; exact hT _ (by omega)) ?_
        refine w_dup2 dX1_tally_25 rfl rfl ?_
        refine w_ialdV (v := (nI (tal σ a i (Tn σ (a + i))))) dX1_tally_26 sh16 (Tn_lt _ _) (ht1 _ (Tn_lt _ _)) ?_
        refine w_k dX1_tally_27 ?_
        refine w_iaddN dX1_tally_28 ?_
        refine w_iastN dX1_tally_29 sh16 (Tn_lt _ _) ?_
        refine w_iincN (ls2 := [some (.ref 10), some (.int (nI a)), some (.int (nI b)), some (.int (nI (a + i + 1)))]) dX1_tally_30 rfl rfl ?_
        refine w_goto dX1_tally_33 ?_
        exact ih10 (i + 1) (wI ρ1 16 (Tn σ (a + i)) (nI (tal σ a i (Tn σ (a + i)) + 1))) (by omega) ((Fr.only hF1 only_wI (by decide))) (upd1 (f := fun t => nI (tal σ a i t)) (g := fun t => nI (tal σ a (i + 1) t)) ht1 (by rw [tal_s, if_pos rfl]) (fun q hq => by rw [tal_s, if_neg (fun z => hq z.symm)]; rfl)) (by omega)
  exact L10 _ 0 (fillI ρ 16 8 (nI 0)) (by omega) ((Fr.only Fr.rf only_fillI (by decide))) (fun q hq => fill_at hq) (Nat.lt_succ_self _)

set_option maxHeartbeats 4000000 in
theorem c_X1_findFirstDays (ρ : Rho) (σ : Sg) (a : Nat) (hT : CTn σ ρ) (ha : a < 100) : CallOK 1 mX1_findFirstDays [.ref 10, .int (nI a)] ρ (fun r ρ2 => r = none ∧ (Fr [17] ρ ρ2 ∧ ∀ t, t < 8 → ρ2.1 17 t = nI (ffn σ (100 - a) t))) := by
  refine callOK_of 1 (by decide +kernel) rfl (fun _ => Nat.le_of_ble_eq_true rfl) (ls := [some (.ref 10), some (.int (nI a)), none]) rfl ?_
  generalize hQ : (fun r ρ2 => r = none ∧ (Fr [17] ρ ρ2 ∧ ∀ t, t < 8 → ρ2.1 17 t = nI (ffn σ (100 - a) t)) : Option Value → Rho → Prop) = Q
  refine w_al dX1_findFirstDays_0 rfl ?_
  refine w_gr dX1_findFirstDays_1 fl_X1_46 sh10 rfl ?_
  refine w_k dX1_findFirstDays_4 ?_
  refine w_cSv dX1_findFirstDays_6 (sl_X1_53 _ rfl) (by decide) (c_fill ρ 17 8 (nI 100) sh17) rfl rfl (Nat.le_of_ble_eq_true rfl) ?_
  refine w_k dX1_findFirstDays_9 ?_
  refine w_is (ls2 := [some (.ref 10), some (.int (nI a)), some (.int (nI 99))]) dX1_findFirstDays_11 rfl ?_
  have L12 : ∀ (n12 : Nat) (e : Nat) (ρ1 : Rho), (a ≤ e) → (e ≤ 100) → (Fr [17] ρ ρ1) → (∀ t, t < 8 → ρ1.1 17 t = nI (ffn σ (100 - e) t)) → (e - a) < n12 → MW mX1_findFirstDays 1 12 [some (.ref 10), some (.int (nI a)), some (.int (nI e + (-1)))] [] ρ1 Q := by
    intro n12
    induction n12 with
    | zero =>
      intro e ρ1 he he2 hF1 ht1 hm12
      exact absurd hm12 (Nat.not_lt_zero _)
    | succ n12 ih12 =>
      intro e ρ1 he he2 hF1 ht1 hm12
      refine w_il dX1_findFirstDays_12 rfl ?_
      refine w_il dX1_findFirstDays_13 rfl ?_
      refine w_iclt dX1_findFirstDays_14 (fun h14 => ?_) (fun h14 => ?_)
      · --t
        refine w_ret dX1_findFirstDays_35 rfl ?_
        rw [← hQ]
        have g := (dcm (by omega) (by omega)).mp h14
        exact ⟨rfl, hF1, fun t ht => by rw [ht1 t ht, show e = a by omega]⟩
      · --f
        have g : ¬ e ≤ a := fun q => h14 ((dcm (by omega) (by omega)).mpr q)
        obtain ⟨e1, rfl⟩ : ∃ z, e = z + 1 := ⟨e - 1, by omega⟩
        rw [pk_m1 e1]
        refine w_al dX1_findFirstDays_17 rfl ?_
        refine w_gr dX1_findFirstDays_18 fl_X1_46 sh10 rfl ?_
        refine w_al dX1_findFirstDays_21 rfl ?_
        refine w_gr dX1_findFirstDays_22 fl_X1_40 sh10 rfl ?_
        refine w_il dX1_findFirstDays_25 rfl ?_
        refine w_ialdV (v := (nI (Tn σ e1))) dX1_findFirstDays_26 sh15 (by omega) (by rw [(hF1 15 (by decide)).1]; exact hT _ (by omega)) ?_
        refine w_il dX1_findFirstDays_27 rfl ?_
        refine w_iastN dX1_findFirstDays_28 sh17 (Tn_lt _ _) ?_
        refine w_iinc (ls2 := [some (.ref 10), some (.int (nI a)), some (.int ((nI e1) + (-1)))]) dX1_findFirstDays_29 rfl rfl ?_
        refine w_goto dX1_findFirstDays_32 ?_
        exact ih12 e1 (wI ρ1 17 (Tn σ e1) (nI e1)) (by omega) (by omega) ((Fr.only hF1 only_wI (by decide))) (upd1 (f := fun t => nI (ffn σ (100 - (e1 + 1)) t)) (g := fun t => nI (ffn σ (100 - e1) t)) ht1 (by rw [show 100 - e1 = (100 - (e1 + 1)) + 1 by omega, ffn, show 100 - (100 - (e1 + 1) + 1) = e1 by omega, if_pos rfl]) (fun q hq => by rw [show 100 - e1 = (100 - (e1 + 1)) + 1 by omega, ffn, show 100 - (100 - (e1 + 1) + 1) = e1 by omega, if_neg (fun z => hq z.symm)])) (by omega)
  rw [show nI 99 = nI 100 + (-1) from by decide]
  exact L12 _ 100 (fillI ρ 17 8 (nI 100)) (by omega) (by omega) ((Fr.only Fr.rf only_fillI (by decide))) (fun q hq => fill_at hq) (Nat.lt_succ_self _)
