abbrev g_wish (p q u : Int32) : Prop := inR p (nI 0) (nI 7) ∧ inR q (nI 0) (nI 4) ∧ inR u (nI 0) (nI 9)
def r_wish (σ : Sg) (p q u : Int32) : Int32 := if g_wish p q u then nI (σ.1 62 (5 * nv p + nv q)) else -2
def n_wish (σ : Sg) (p q u : Int32) : Sg := if g_wish p q u then sN σ 62 (5 * nv p + nv q) (nv u) else σ
def r_lives (σ : Sg) (p : Int32) : Int32 := if inR p (nI 0) (nI 7) then nI (σ.1 63 (nv p)) else -2
abbrev g_reap (p u : Int32) : Prop := inR p (nI 0) (nI 7) ∧ inR u (-1) (nI 12)
def r_reap (σ : Sg) (p u : Int32) : Int32 := if g_reap p u then σ.2 66 (nv p) else -5
def n_reap (σ : Sg) (p u : Int32) : Sg := if g_reap p u then sZ σ 66 (nv p) u else σ
theorem reap_in {u : Int32} : inR u (-1) (nI 12) ↔ u = -1 ∨ inR u (nI 0) (nI 12) := by
  constructor
  · intro h
    by_cases e : u = -1
    · exact Or.inl e
    · refine Or.inr ⟨?_, h.2⟩
      have h1 := h.1
      rw [Int32.le_iff_toInt_le] at h1 ⊢
      have a1 : (nI 0).toInt = 0 := by decide
      have a2 : (-1 : Int32).toInt = -1 := by decide
      have : u.toInt ≠ -1 := fun z => e (Int32.toInt_inj.mp (by rw [z, a2]))
      omega
  · rintro (rfl | h)
    · exact ⟨by decide, by decide⟩
    · refine ⟨?_, h.2⟩
      have h1 := h.1
      rw [Int32.le_iff_toInt_le] at h1 ⊢
      have a1 : (nI 0).toInt = 0 := by decide
      have a2 : (-1 : Int32).toInt = -1 := by decide
      omega
theorem reap_ok {u : Int32} (h : inR u (-1) (nI 12)) : u = -1 ∨ ∃ a, a ≤ 12 ∧ u = nI a := (reap_in.mp h).imp id (fun q => inR_nI q (by decide))
theorem MInv.z {σ : Sg} {ρ ρ2 : Rho} {t : Nat} (h : MInv σ ρ) (f : Fr [71] ρ ρ2) (hz : ∀ b, ρ2.1 71 b = if 60 * t ≤ b ∧ b < 60 * t + 60 then nI 0 else σ.2 71 b) : MInv (zit σ t) ρ2 := by
  refine ⟨h.1.zit t, fun a ha b => ?_, fun a ha b => ?_, fun b hb => ?_⟩
  · rw [(f a (by intro e; rw [List.mem_singleton] at e; subst e; revert ha; decide)).1]; exact h.2.1 a ha b
  · by_cases e : a = 71
    · subst e
      rw [hz b]
      show _ = (if 71 = 71 ∧ 60 * t ≤ b ∧ b < 60 * t + 60 then nI 0 else σ.2 71 b)
      by_cases c : 60 * t ≤ b ∧ b < 60 * t + 60
      · rw [if_pos c, if_pos ⟨rfl, c⟩]
      · rw [if_neg c, if_neg (fun q => c q.2)]
    · rw [(f a (by rw [List.mem_singleton]; exact e)).1, h.2.2.1 a ha b]
      exact (if_neg (fun q => e q.1)).symm
  · rw [(f 47 (by decide)).1]; exact h.2.2.2 b hb
theorem MInv.cp {σ : Sg} {ρ ρ2 : Rho} {s i t j n : Nat} (h : MInv σ ρ) (f : Fr [71, 72] ρ ρ2) (hz : ∀ b, ρ2.1 71 b = if 60 * t + j ≤ b ∧ b < 60 * t + j + n then σ.2 71 (60 * s + i + (b - (60 * t + j))) else σ.2 71 b) : MInv (cpS σ s i t j n) ρ2 := by
  refine ⟨h.1.cpS s i t j n, fun a ha b => ?_, fun a ha b => ?_, fun b hb => ?_⟩
  · rw [(f a (by revert ha; simp only [mNs, List.mem_cons, List.not_mem_nil, or_false]; omega)).1]; exact h.2.1 a ha b
  · by_cases e : a = 71
    · subst e
      rw [hz b]
      show _ = (if 71 = 71 ∧ 60 * t + j ≤ b ∧ b < 60 * t + j + n then σ.2 71 (60 * s + i + (b - (60 * t + j))) else σ.2 71 b)
      by_cases c : 60 * t + j ≤ b ∧ b < 60 * t + j + n
      · rw [if_pos c, if_pos ⟨rfl, c⟩]
      · rw [if_neg c, if_neg (fun q => c q.2)]
    · rw [(f a (by revert ha; simp only [mZs, List.mem_cons, List.not_mem_nil, or_false]; omega)).1, h.2.2.1 a ha b]
      exact (if_neg (fun q => e q.1)).symm
  · rw [(f 47 (by decide)).1]; exact h.2.2.2 b hb
theorem MInv.it {σ : Sg} {ρ : Rho} (h : MInv σ ρ) (b : Nat) (v : Int32) : MInv (sZ σ 71 b v) (wI ρ 71 b v) := MInv.wZ h (by decide) (h.1.it b v)
theorem CInv.item {σ : Sg} {ρ : Rho} {t i : Nat} {v : Int32} (h : CInv σ ρ) (ht : t < 4) (hi : i < 60) : CInv (sZ σ 71 (60 * t + i) v) (wI ρ (43 + t) i v) := h.shd ShD.rf.sZ (h.1.1.it _ v) (fun k hk => wI_ne (by omega)) (CSh.item h.1.2.2.2.2.1 ht hi)
theorem EqM.sh {a b : Rho} {k i : Nat} {v : Int32} (h : EqM a b) (hk : k < 47) : EqM a (wI b k i v) := EqM.only h only_wI hk
theorem cmpL {a c z : Nat} (ha : a < 2 ^ 31) (hc : c < 2 ^ 31) (hz : z < 2 ^ 31) : 0 < lg_cmp ((nI a).toInt64 + (nI c).toInt64) ((nI z).toInt64) ↔ z < a + c := by
  rw [nI_l ha, nI_l hc, nI_l hz, lN_add]
  unfold lg_cmp
  by_cases h : lN (a + c) > lN z
  · rw [if_pos h]
    exact ⟨fun _ => (pk_lLT (by omega) (by omega)).mp h, fun _ => by decide⟩
  · rw [if_neg h]
    constructor
    · intro q
      split at q <;> exact absurd q (by decide)
    · intro q
      exact absurd ((pk_lLT (by omega) (by omega)).mpr q) h
theorem cmpL2 {a c z : Nat} (ha : a < 2 ^ 31) (hc : c < 2 ^ 31) (hz : z < 2 ^ 31) : lg_cmp ((nI a).toInt64 + (nI c).toInt64) ((nI z).toInt64) ≤ 0 ↔ a + c ≤ z := by
  have h := cmpL ha hc hz
  rw [← Int32.not_lt]
  rw [h]
  omega
theorem hasS_n {z a c : Nat} (ha : a < 2 ^ 31) (hc : c < 2 ^ 31) : hasS z (nI a) (nI c) ↔ a + c ≤ z := by
  unfold hasS
  rw [nI_toInt ha, nI_toInt hc]
  exact ⟨fun h => by have := h.2.2; omega, fun h => ⟨nI_pos ha, nI_pos hc, by omega⟩⟩
theorem has_t {z : Nat} {i n : Int32} (hz : z ≤ 60) (h1 : ¬ i < 0) (h5 : ¬ n < 0) (h13 : ¬ nI z < n) (h23 : ¬ nI z - n < i) : hasS z i n := by
  obtain ⟨a, ha, rfl⟩ := nI_of h1
  obtain ⟨c, hc, rfl⟩ := nI_of h5
  rw [hasS_n ha hc]
  have g1 : c ≤ z := by
    rcases Nat.lt_or_ge z c with q | q
    · exact absurd ((nI_ltI (by omega) hc).mpr q) h13
    · exact q
  rw [pk_sub g1] at h23
  rcases Nat.lt_or_ge (z - c) a with q | q
  · exact absurd ((nI_ltI (by omega) ha).mpr q) h23
  · omega
theorem has_f13 {z : Nat} {i n : Int32} (hz : z ≤ 60) (h13 : nI z < n) : ¬ hasS z i n := fun h => by
  obtain ⟨a, c, rfl, rfl, hh⟩ := hasS_nI hz h
  have hc : c < 2 ^ 31 := by omega
  exact absurd ((nI_ltI (by omega) hc).mp h13) (by omega)
theorem has_f23 {z : Nat} {i n : Int32} (hz : z ≤ 60) (h13 : ¬ nI z < n) (h23 : nI z - n < i) : ¬ hasS z i n := fun h => by
  obtain ⟨a, c, rfl, rfl, hh⟩ := hasS_nI hz h
  rw [pk_sub (by omega)] at h23
  exact absurd ((nI_ltI (by omega) (by omega)).mp h23) (by omega)
/-- items of a row of sheet t, k of them, from the TURNS of DAYS from d on -/
def wrS (σ : Sg) (t d k : Nat) : Sg := (σ.1, fun a b => if a = 71 ∧ 60 * t ≤ b ∧ b < 60 * t + k then cvt (σ.1 69 t) (nI (Tn σ (d + (b - 60 * t)))) else σ.2 a b)
theorem wrS_0 (σ : Sg) (t d : Nat) : wrS σ t d 0 = σ := by
  unfold wrS
  refine Prod.ext rfl ?_
  funext a b
  exact if_neg (by omega)
theorem wrS_s (σ : Sg) (t d k : Nat) : sZ (wrS σ t d k) 71 (60 * t + k) (cvt (σ.1 69 t) (nI (Tn σ (d + k)))) = wrS σ t d (k + 1) := by
  unfold wrS sZ
  refine Prod.ext rfl ?_
  funext a b
  dsimp only
  by_cases h : a = 71
  · subst h
    by_cases e : b = 60 * t + k
    · subst e
      rw [if_pos ⟨rfl, rfl⟩, if_pos (by omega), show 60 * t + k - 60 * t = k by omega]
    · rw [if_neg (fun q => e q.2)]
      by_cases c : 60 * t ≤ b ∧ b < 60 * t + k
      · rw [if_pos ⟨rfl, c⟩, if_pos (by omega)]
      · rw [if_neg (fun q => c q.2), if_neg (by omega)]
  · rw [if_neg (fun q => h q.1), if_neg (fun q => h q.1), if_neg (fun q => h q.1)]
theorem wrS_T (σ : Sg) (t d k x : Nat) : Tn (wrS σ t d k) x = Tn σ x := Tn_congr (σ := σ) (τ := wrS σ t d k) rfl rfl rfl rfl rfl (by funext b; unfold wrS; dsimp only; exact if_neg (fun e => absurd e.1 (by decide))) x
abbrev g_write (d s : Int32) : Prop := inR d (nI 0) (nI 99) ∧ inR s (nI 0) (nI 3)
def mWr (σ : Sg) (d t : Nat) : Nat := min (σ.1 70 t) (100 - d)
def r_write (σ : Sg) (d s : Int32) : Int32 := if g_write d s then (if σ.1 68 (nv s) = 0 then -10 - nI 1 else nI (mWr σ (nv d) (nv s))) else -2
def n_write (σ : Sg) (d s : Int32) : Sg := if g_write d s then (if σ.1 68 (nv s) = 0 then sN σ 47 29 1 else wrS σ (nv s) (nv d) (mWr σ (nv d) (nv s))) else σ
theorem zst {ρ : Rho} {f g : Nat → Int32} {a i : Nat} {v : Int32} (h : ∀ b, ρ.1 71 b = if a ≤ b ∧ b < a + i then f b else g b) (hv : v = f (a + i)) : ∀ b, (wI ρ 71 (a + i) v).1 71 b = if a ≤ b ∧ b < a + (i + 1) then f b else g b := fun b => by
  by_cases e : b = a + i
  · subst e
    rw [rI_eq, if_pos (by omega)]
    exact hv
  · rw [rI_ne (fun z => e z.2), h b]
    by_cases c : a ≤ b ∧ b < a + i
    · rw [if_pos c, if_pos (by omega)]
    · rw [if_neg c, if_neg (by omega)]
set_option maxHeartbeats 4000000 in
theorem c_X5_changeWish (ρ : Rho) (σ : Sg) (x y z : Nat) (hP : CP σ ρ) (hx : x < 8) (hy : y < 5) (hz : z ≤ 9) : CallOK 0 mX5_changeWish [.ref 26, .int (nI x), .int (nI y), .int (nI z)] ρ (fun r ρ2 => ∃ v, r = some v ∧ (v = .int (nI (σ.1 62 (x * 5 + y))) ∧ ρ2 = wI ρ 28 (x * 5 + y) (nI z))) := by
  refine callOK_of 2 (by decide +kernel) rfl (fun _ => Nat.le_of_ble_eq_true rfl) (ls := [some (.ref 26), some (.int (nI x)), some (.int (nI y)), some (.int (nI z)), none, none]) rfl ?_
  generalize hQ : (fun r ρ2 => ∃ v, r = some v ∧ (v = .int (nI (σ.1 62 (x * 5 + y))) ∧ ρ2 = wI ρ 28 (x * 5 + y) (nI z)) : Option Value → Rho → Prop) = Q
  refine w_il dX5_changeWish_0 rfl ?_
  refine w_k dX5_changeWish_1 ?_
  refine w_imulN dX5_changeWish_2 ?_
  refine w_il dX5_changeWish_3 rfl ?_
  refine w_iaddN dX5_changeWish_4 ?_
  refine w_is (ls2 := [some (.ref 26), some (.int (nI x)), some (.int (nI y)), some (.int (nI z)), some (.int (nI (x * 5 + y))), none]) dX5_changeWish_5 rfl ?_
  refine w_al dX5_changeWish_7 rfl ?_
  refine w_gr dX5_changeWish_8 fl_X5_15 sh26 rfl ?_
  refine w_il dX5_changeWish_11 rfl ?_
  refine w_ialdV (v := (nI (σ.1 62 (x * 5 + y)))) dX5_changeWish_13 sh28 (by omega) (hP.2.1 (28, 62) (by decide) _) ?_
  refine w_is (ls2 := [some (.ref 26), some (.int (nI x)), some (.int (nI y)), some (.int (nI z)), some (.int (nI (x * 5 + y))), some (.int (nI (σ.1 62 (x * 5 + y))))]) dX5_changeWish_14 rfl ?_
  refine w_al dX5_changeWish_16 rfl ?_
  refine w_gr dX5_changeWish_17 fl_X5_15 sh26 rfl ?_
  refine w_il dX5_changeWish_20 rfl ?_
  refine w_il dX5_changeWish_22 rfl ?_
  refine w_iastN dX5_changeWish_23 sh28 (by omega) ?_
  refine w_il dX5_changeWish_24 rfl ?_
  refine w_iret dX5_changeWish_26 rfl ?_
  rw [← hQ]
  exact ⟨_, rfl, rfl, rfl⟩

set_option maxHeartbeats 4000000 in
theorem c_X7_wish (ρ : Rho) (σ : Sg) (p : Int32) (q : Int32) (u : Int32) (hC : CInv σ ρ) : CallOK 2 mX7_wish [.ref 0, .int p, .int q, .int u] ρ (fun r ρ2 => ∃ v, r = some v ∧ (v = .int (r_wish σ p q u) ∧ CInv (n_wish σ p q u) ρ2 ∧ EqM ρ ρ2)) := by
  refine callOK_of 0 (by decide +kernel) rfl (fun _ => Nat.le_of_ble_eq_true rfl) (ls := [some (.ref 0), some (.int p), some (.int q), some (.int u)]) rfl ?_
  generalize hQ : (fun r ρ2 => ∃ v, r = some v ∧ (v = .int (r_wish σ p q u) ∧ CInv (n_wish σ p q u) ρ2 ∧ EqM ρ ρ2) : Option Value → Rho → Prop) = Q
  refine w_il dX7_wish_0 rfl ?_
  refine w_k dX7_wish_1 ?_
  refine w_cSf dX7_wish_3 (sl_X7_61 _ rfl) (by decide) (c_X7_within ρ p (nI 7)) rfl rfl (Nat.le_of_ble_eq_true rfl) ?_
  refine w_ifeqB dX7_wish_6 (fun h6 => ?_) (fun h6 => ?_)
  · --t
    refine w_k dX7_wish_25 ?_
    refine w_iret dX7_wish_27 rfl ?_
    rw [← hQ]
    exact ⟨_, rfl, by rw [r_wish, if_neg (fun z => h6 z.1)], by rw [n_wish, if_neg (fun z => h6 z.1)]; exact ⟨hC.1, hC.2.1, hC.2.2⟩, EqM.rf⟩
  · --f
    obtain ⟨x, hx, rfl⟩ := inR_nI h6 (by decide)
    refine w_il dX7_wish_9 rfl ?_
    refine w_cSf dX7_wish_10 (sl_X7_147 _ rfl) (by decide) (c_X7_isThing ρ q) rfl rfl (Nat.le_of_ble_eq_true rfl) ?_
    refine w_ifeqB dX7_wish_13 (fun h13 => ?_) (fun h13 => ?_)
    · --t
      refine w_k dX7_wish_25 ?_
      refine w_iret dX7_wish_27 rfl ?_
      rw [← hQ]
      exact ⟨_, rfl, by rw [r_wish, if_neg (fun z => h13 z.2.1)], by rw [n_wish, if_neg (fun z => h13 z.2.1)]; exact ⟨hC.1, hC.2.1, hC.2.2⟩, EqM.rf⟩
    · --f
      obtain ⟨y, hy, rfl⟩ := inR_nI h13 (by decide)
      refine w_il dX7_wish_16 rfl ?_
      refine w_k dX7_wish_17 ?_
      refine w_cSf dX7_wish_19 (sl_X7_61 _ rfl) (by decide) (c_X7_within ρ u (nI 9)) rfl rfl (Nat.le_of_ble_eq_true rfl) ?_
      refine w_ifneB dX7_wish_22 (fun h22 => ?_) (fun h22 => ?_)
      · --t
        obtain ⟨z, hz, rfl⟩ := inR_nI h22 (by decide)
        refine w_al dX7_wish_28 rfl ?_
        refine w_gr dX7_wish_29 fl_X7_43 sh0 rfl ?_
        refine w_il dX7_wish_32 rfl ?_
        refine w_il dX7_wish_33 rfl ?_
        refine w_il dX7_wish_34 rfl ?_
        refine w_cVr dX7_wish_35 (vl_X7_215 _ rfl) sh26 (by decide) (c_X5_changeWish ρ σ x y z hC.1 (by omega) (by omega) (by omega)) rfl rfl (Nat.le_of_ble_eq_true rfl) (fun vw ρw hw => ?_)
        obtain ⟨rfl, rfl⟩ := hw
        refine w_iret dX7_wish_38 rfl ?_
        rw [← hQ]
        exact ⟨_, rfl, by rw [r_wish, if_pos ⟨h6, h13, h22⟩, nv_nI (by omega), nv_nI (by omega), Nat.mul_comm 5 x], by rw [n_wish, if_pos ⟨h6, h13, h22⟩, nv_nI (by omega), nv_nI (by omega), nv_nI (by omega), Nat.mul_comm 5 x]; exact ⟨CP.wN hC.1 (by decide) (Wf.sN hC.1.1 (by simp [okN] <;> omega)), CLd.sN (CLd.only hC.2.1 only_wI (by decide)) (by omega), CTn.sN (CTn.only hC.2.2 only_wI (by decide)) (by omega)⟩, (EqM.only EqM.rf only_wI (by decide))⟩
      · --f
        refine w_k dX7_wish_25 ?_
        refine w_iret dX7_wish_27 rfl ?_
        rw [← hQ]
        exact ⟨_, rfl, by rw [r_wish, if_neg (fun z => h22 z.2.2)], by rw [n_wish, if_neg (fun z => h22 z.2.2)]; exact ⟨hC.1, hC.2.1, hC.2.2⟩, EqM.rf⟩

set_option maxHeartbeats 4000000 in
theorem c_X8_wish (ρ : Rho) (σ : Sg) (p : Int32) (q : Int32) (u : Int32) (hM : MInv σ ρ) : CallOK 2 mX8_wish [.ref 47, .int p, .int q, .int u] ρ (fun r ρ2 => ∃ v, r = some v ∧ (v = .int (r_wish σ p q u) ∧ MInv (n_wish σ p q u) ρ2 ∧ EqC ρ ρ2)) := by
  refine callOK_of 1 (by decide +kernel) rfl (fun _ => Nat.le_of_ble_eq_true rfl) (ls := [some (.ref 47), some (.int p), some (.int q), some (.int u), none]) rfl ?_
  generalize hQ : (fun r ρ2 => ∃ v, r = some v ∧ (v = .int (r_wish σ p q u) ∧ MInv (n_wish σ p q u) ρ2 ∧ EqC ρ ρ2) : Option Value → Rho → Prop) = Q
  refine w_il dX8_wish_0 rfl ?_
  refine w_cSf dX8_wish_1 (sl_X8_118 _ rfl) (by decide) (c_X8_isEighth ρ p) rfl rfl (Nat.le_of_ble_eq_true rfl) ?_
  refine w_ifeqB dX8_wish_4 (fun h4 => ?_) (fun h4 => ?_)
  · --t
    refine w_k dX8_wish_24 ?_
    refine w_iret dX8_wish_26 rfl ?_
    rw [← hQ]
    exact ⟨_, rfl, by rw [r_wish, if_neg (fun z => h4 z.1)], by rw [n_wish, if_neg (fun z => h4 z.1)]; exact hM, EqC.rf⟩
  · --f
    obtain ⟨x, hx, rfl⟩ := inR_nI h4 (by decide)
    refine w_il dX8_wish_7 rfl ?_
    refine w_cSf dX8_wish_8 (sl_X8_163 _ rfl) (by decide) (c_X8_isThing ρ q) rfl rfl (Nat.le_of_ble_eq_true rfl) ?_
    refine w_ifeqB dX8_wish_11 (fun h11 => ?_) (fun h11 => ?_)
    · --t
      refine w_k dX8_wish_24 ?_
      refine w_iret dX8_wish_26 rfl ?_
      rw [← hQ]
      exact ⟨_, rfl, by rw [r_wish, if_neg (fun z => h11 z.2.1)], by rw [n_wish, if_neg (fun z => h11 z.2.1)]; exact hM, EqC.rf⟩
    · --f
      obtain ⟨y, hy, rfl⟩ := inR_nI h11 (by decide)
      refine w_il dX8_wish_14 rfl ?_
      refine w_k dX8_wish_15 ?_
      refine w_k dX8_wish_16 ?_
      refine w_cSf dX8_wish_18 (sl_X8_89 _ rfl) (by decide) (c_X8_in ρ u (nI 0) (nI 9)) rfl rfl (Nat.le_of_ble_eq_true rfl) ?_
      refine w_ifneB dX8_wish_21 (fun h21 => ?_) (fun h21 => ?_)
      · --t
        obtain ⟨z, hz, rfl⟩ := inR_nI h21 (by decide)
        refine w_al dX8_wish_27 rfl ?_
        refine w_gr dX8_wish_28 fl_X8_53 sh47 rfl ?_
        refine w_k dX8_wish_31 ?_
        refine w_il dX8_wish_32 rfl ?_
        refine w_imulN dX8_wish_33 ?_
        refine w_il dX8_wish_34 rfl ?_
        refine w_iaddN dX8_wish_35 ?_
        refine w_ialdV (v := (nI (σ.1 62 (5 * x + y)))) dX8_wish_36 sh62 (by omega) (hM.2.1 62 (by decide) _) ?_
        refine w_is (ls2 := [some (.ref 47), some (.int (nI x)), some (.int (nI y)), some (.int (nI z)), some (.int (nI (σ.1 62 (5 * x + y))))]) dX8_wish_37 rfl ?_
        refine w_al dX8_wish_39 rfl ?_
        refine w_gr dX8_wish_40 fl_X8_53 sh47 rfl ?_
        refine w_k dX8_wish_43 ?_
        refine w_il dX8_wish_44 rfl ?_
        refine w_imulN dX8_wish_45 ?_
        refine w_il dX8_wish_46 rfl ?_
        refine w_iaddN dX8_wish_47 ?_
        refine w_il dX8_wish_48 rfl ?_
        refine w_iastN dX8_wish_49 sh62 (by omega) ?_
        refine w_il dX8_wish_50 rfl ?_
        refine w_iret dX8_wish_52 rfl ?_
        rw [← hQ]
        exact ⟨_, rfl, by rw [r_wish, if_pos ⟨h4, h11, h21⟩, nv_nI (by omega), nv_nI (by omega)], by rw [n_wish, if_pos ⟨h4, h11, h21⟩, nv_nI (by omega), nv_nI (by omega), nv_nI (by omega)]; exact MInv.wN hM (by decide) (Wf.sN hM.1 (by simp [okN] <;> omega)), (EqC.w EqC.rf (by decide))⟩
      · --f
        refine w_k dX8_wish_24 ?_
        refine w_iret dX8_wish_26 rfl ?_
        rw [← hQ]
        exact ⟨_, rfl, by rw [r_wish, if_neg (fun z => h21 z.2.2)], by rw [n_wish, if_neg (fun z => h21 z.2.2)]; exact hM, EqC.rf⟩

set_option maxHeartbeats 4000000 in
theorem c_X7_lives (ρ : Rho) (σ : Sg) (p : Int32) (hC : CInv σ ρ) : CallOK 1 mX7_lives [.ref 0, .int p] ρ (fun r ρ2 => ∃ v, r = some v ∧ (v = .int (r_lives σ p) ∧ CInv (σ) ρ2 ∧ EqM ρ ρ2)) := by
  refine callOK_of 0 (by decide +kernel) rfl (fun _ => Nat.le_of_ble_eq_true rfl) (ls := [some (.ref 0), some (.int p)]) rfl ?_
  generalize hQ : (fun r ρ2 => ∃ v, r = some v ∧ (v = .int (r_lives σ p) ∧ CInv (σ) ρ2 ∧ EqM ρ ρ2) : Option Value → Rho → Prop) = Q
  refine w_il dX7_lives_0 rfl ?_
  refine w_k dX7_lives_1 ?_
  refine w_cSf dX7_lives_3 (sl_X7_61 _ rfl) (by decide) (c_X7_within ρ p (nI 7)) rfl rfl (Nat.le_of_ble_eq_true rfl) ?_
  refine w_ifeqB dX7_lives_6 (fun h6 => ?_) (fun h6 => ?_)
  · --t
    refine w_k dX7_lives_21 ?_
    refine w_iret dX7_lives_23 rfl ?_
    rw [← hQ]
    exact ⟨_, rfl, by rw [r_lives, if_neg (fun z => h6 z)], ⟨hC.1, hC.2.1, hC.2.2⟩, EqM.rf⟩
  · --f
    obtain ⟨x, hx, rfl⟩ := inR_nI h6 (by decide)
    refine w_al dX7_lives_9 rfl ?_
    refine w_gr dX7_lives_10 fl_X7_43 sh0 rfl ?_
    refine w_gr dX7_lives_13 fl_X7_218 sh26 rfl ?_
    refine w_il dX7_lives_16 rfl ?_
    refine w_ialdV (v := (nI (σ.1 63 x))) dX7_lives_17 sh27 (by omega) (hC.1.2.1 (27, 63) (by decide) _) ?_
    refine w_goto dX7_lives_18 ?_
    refine w_iret dX7_lives_23 rfl ?_
    rw [← hQ]
    exact ⟨_, rfl, by rw [r_lives, if_pos h6, nv_nI (by omega)], ⟨hC.1, hC.2.1, hC.2.2⟩, EqM.rf⟩

set_option maxHeartbeats 4000000 in
theorem c_X8_lives (ρ : Rho) (σ : Sg) (p : Int32) (hM : MInv σ ρ) : CallOK 2 mX8_lives [.ref 47, .int p] ρ (fun r ρ2 => ∃ v, r = some v ∧ (v = .int (r_lives σ p) ∧ MInv (σ) ρ2 ∧ EqC ρ ρ2)) := by
  refine callOK_of 0 (by decide +kernel) rfl (fun _ => Nat.le_of_ble_eq_true rfl) (ls := [some (.ref 47), some (.int p)]) rfl ?_
  generalize hQ : (fun r ρ2 => ∃ v, r = some v ∧ (v = .int (r_lives σ p) ∧ MInv (σ) ρ2 ∧ EqC ρ ρ2) : Option Value → Rho → Prop) = Q
  refine w_il dX8_lives_0 rfl ?_
  refine w_cSf dX8_lives_1 (sl_X8_118 _ rfl) (by decide) (c_X8_isEighth ρ p) rfl rfl (Nat.le_of_ble_eq_true rfl) ?_
  refine w_ifeqB dX8_lives_4 (fun h4 => ?_) (fun h4 => ?_)
  · --t
    refine w_k dX8_lives_16 ?_
    refine w_iret dX8_lives_18 rfl ?_
    rw [← hQ]
    exact ⟨_, rfl, by rw [r_lives, if_neg (fun z => h4 z)], hM, EqC.rf⟩
  · --f
    obtain ⟨x, hx, rfl⟩ := inR_nI h4 (by decide)
    refine w_al dX8_lives_7 rfl ?_
    refine w_gr dX8_lives_8 fl_X8_56 sh47 rfl ?_
    refine w_il dX8_lives_11 rfl ?_
    refine w_ialdV (v := (nI (σ.1 63 x))) dX8_lives_12 sh63 (by omega) (hM.2.1 63 (by decide) _) ?_
    refine w_goto dX8_lives_13 ?_
    refine w_iret dX8_lives_18 rfl ?_
    rw [← hQ]
    exact ⟨_, rfl, by rw [r_lives, if_pos h4, nv_nI (by omega)], hM, EqC.rf⟩

set_option maxHeartbeats 4000000 in
theorem c_X7_reaped (ρ : Rho) (σ : Sg) (p : Int32) (u : Int32) (hC : CInv σ ρ) : CallOK 1 mX7_reaped [.ref 0, .int p, .int u] ρ (fun r ρ2 => ∃ v, r = some v ∧ (v = .int (r_reap σ p u) ∧ CInv (n_reap σ p u) ρ2 ∧ EqM ρ ρ2)) := by
  refine callOK_of 1 (by decide +kernel) rfl (fun _ => Nat.le_of_ble_eq_true rfl) (ls := [some (.ref 0), some (.int p), some (.int u), none]) rfl ?_
  generalize hQ : (fun r ρ2 => ∃ v, r = some v ∧ (v = .int (r_reap σ p u) ∧ CInv (n_reap σ p u) ρ2 ∧ EqM ρ ρ2) : Option Value → Rho → Prop) = Q
  refine w_il dX7_reaped_0 rfl ?_
  refine w_k dX7_reaped_1 ?_
  refine w_cSf dX7_reaped_3 (sl_X7_61 _ rfl) (by decide) (c_X7_within ρ p (nI 7)) rfl rfl (Nat.le_of_ble_eq_true rfl) ?_
  refine w_ifeqB dX7_reaped_6 (fun h6 => ?_) (fun h6 => ?_)
  · --t
    refine w_k dX7_reaped_23 ?_
    refine w_iret dX7_reaped_25 rfl ?_
    rw [← hQ]
    exact ⟨_, rfl, by rw [r_reap, if_neg (fun z => h6 z.1)], by rw [n_reap, if_neg (fun z => h6 z.1)]; exact ⟨hC.1, hC.2.1, hC.2.2⟩, EqM.rf⟩
  · --f
    obtain ⟨x, hx, rfl⟩ := inR_nI h6 (by decide)
    refine w_il dX7_reaped_9 rfl ?_
    refine w_k dX7_reaped_10 ?_
    refine w_iceq dX7_reaped_11 (fun h11 => ?_) (fun h11 => ?_)
    · --t
      refine w_al dX7_reaped_26 rfl ?_
      refine w_gr dX7_reaped_27 fl_X7_50 sh0 rfl ?_
      refine w_gr dX7_reaped_30 fl_X7_243 sh32 rfl ?_
      refine w_il dX7_reaped_33 rfl ?_
      refine w_ialdV (v := (σ.2 66 x)) dX7_reaped_34 sh33 (by omega) (hC.1.2.2.1 (33, 66) (by decide) _) ?_
      refine w_is (ls2 := [some (.ref 0), some (.int (nI x)), some (.int u), some (.int (σ.2 66 x))]) dX7_reaped_35 rfl ?_
      refine w_al dX7_reaped_36 rfl ?_
      refine w_gr dX7_reaped_37 fl_X7_50 sh0 rfl ?_
      refine w_gr dX7_reaped_40 fl_X7_243 sh32 rfl ?_
      refine w_il dX7_reaped_43 rfl ?_
      refine w_il dX7_reaped_44 rfl ?_
      refine w_iastN dX7_reaped_45 sh33 (by omega) ?_
      refine w_il dX7_reaped_46 rfl ?_
      refine w_iret dX7_reaped_47 rfl ?_
      rw [← hQ]
      exact ⟨_, rfl, by rw [r_reap, if_pos ⟨h6, (reap_in.mpr (Or.inl h11))⟩, nv_nI (by omega)], by rw [n_reap, if_pos ⟨h6, (reap_in.mpr (Or.inl h11))⟩, nv_nI (by omega)]; exact ⟨CP.wZ hC.1 (by decide) (Wf.sZ hC.1.1 (fun _ => reap_ok (reap_in.mpr (Or.inl h11))) (fun e => absurd e (by decide))), CLd.sZ (CLd.only hC.2.1 only_wI (by decide)), CTn.sZ (CTn.only hC.2.2 only_wI (by decide)) (by decide)⟩, (EqM.only EqM.rf only_wI (by decide))⟩
    · --f
      refine w_il dX7_reaped_14 rfl ?_
      refine w_k dX7_reaped_15 ?_
      refine w_cSf dX7_reaped_17 (sl_X7_61 _ rfl) (by decide) (c_X7_within ρ u (nI 12)) rfl rfl (Nat.le_of_ble_eq_true rfl) ?_
      refine w_ifneB dX7_reaped_20 (fun h20 => ?_) (fun h20 => ?_)
      · --t
        refine w_al dX7_reaped_26 rfl ?_
        refine w_gr dX7_reaped_27 fl_X7_50 sh0 rfl ?_
        refine w_gr dX7_reaped_30 fl_X7_243 sh32 rfl ?_
        refine w_il dX7_reaped_33 rfl ?_
        refine w_ialdV (v := (σ.2 66 x)) dX7_reaped_34 sh33 (by omega) (hC.1.2.2.1 (33, 66) (by decide) _) ?_
        refine w_is (ls2 := [some (.ref 0), some (.int (nI x)), some (.int u), some (.int (σ.2 66 x))]) dX7_reaped_35 rfl ?_
        refine w_al dX7_reaped_36 rfl ?_
        refine w_gr dX7_reaped_37 fl_X7_50 sh0 rfl ?_
        refine w_gr dX7_reaped_40 fl_X7_243 sh32 rfl ?_
        refine w_il dX7_reaped_43 rfl ?_
        refine w_il dX7_reaped_44 rfl ?_
        refine w_iastN dX7_reaped_45 sh33 (by omega) ?_
        refine w_il dX7_reaped_46 rfl ?_
        refine w_iret dX7_reaped_47 rfl ?_
        rw [← hQ]
        exact ⟨_, rfl, by rw [r_reap, if_pos ⟨h6, (reap_in.mpr (Or.inr h20))⟩, nv_nI (by omega)], by rw [n_reap, if_pos ⟨h6, (reap_in.mpr (Or.inr h20))⟩, nv_nI (by omega)]; exact ⟨CP.wZ hC.1 (by decide) (Wf.sZ hC.1.1 (fun _ => reap_ok (reap_in.mpr (Or.inr h20))) (fun e => absurd e (by decide))), CLd.sZ (CLd.only hC.2.1 only_wI (by decide)), CTn.sZ (CTn.only hC.2.2 only_wI (by decide)) (by decide)⟩, (EqM.only EqM.rf only_wI (by decide))⟩
      · --f
        refine w_k dX7_reaped_23 ?_
        refine w_iret dX7_reaped_25 rfl ?_
        rw [← hQ]
        exact ⟨_, rfl, by rw [r_reap, if_neg (fun z => (reap_in.mp z.2).elim h11 h20)], by rw [n_reap, if_neg (fun z => (reap_in.mp z.2).elim h11 h20)]; exact ⟨hC.1, hC.2.1, hC.2.2⟩, EqM.rf⟩

set_option maxHeartbeats 4000000 in
theorem c_X8_reaped (ρ : Rho) (σ : Sg) (p : Int32) (u : Int32) (hM : MInv σ ρ) : CallOK 2 mX8_reaped [.ref 47, .int p, .int u] ρ (fun r ρ2 => ∃ v, r = some v ∧ (v = .int (r_reap σ p u) ∧ MInv (n_reap σ p u) ρ2 ∧ EqC ρ ρ2)) := by
  refine callOK_of 1 (by decide +kernel) rfl (fun _ => Nat.le_of_ble_eq_true rfl) (ls := [some (.ref 47), some (.int p), some (.int u), none]) rfl ?_
  generalize hQ : (fun r ρ2 => ∃ v, r = some v ∧ (v = .int (r_reap σ p u) ∧ MInv (n_reap σ p u) ρ2 ∧ EqC ρ ρ2) : Option Value → Rho → Prop) = Q
  refine w_il dX8_reaped_0 rfl ?_
  refine w_cSf dX8_reaped_1 (sl_X8_118 _ rfl) (by decide) (c_X8_isEighth ρ p) rfl rfl (Nat.le_of_ble_eq_true rfl) ?_
  refine w_ifeqB dX8_reaped_4 (fun h4 => ?_) (fun h4 => ?_)
  · --t
    refine w_k dX8_reaped_17 ?_
    refine w_iret dX8_reaped_19 rfl ?_
    rw [← hQ]
    exact ⟨_, rfl, by rw [r_reap, if_neg (fun z => h4 z.1)], by rw [n_reap, if_neg (fun z => h4 z.1)]; exact hM, EqC.rf⟩
  · --f
    obtain ⟨x, hx, rfl⟩ := inR_nI h4 (by decide)
    refine w_il dX8_reaped_7 rfl ?_
    refine w_k dX8_reaped_8 ?_
    refine w_k dX8_reaped_9 ?_
    refine w_cSf dX8_reaped_11 (sl_X8_89 _ rfl) (by decide) (c_X8_in ρ u (-1) (nI 12)) rfl rfl (Nat.le_of_ble_eq_true rfl) ?_
    refine w_ifneB dX8_reaped_14 (fun h14 => ?_) (fun h14 => ?_)
    · --t
      refine w_al dX8_reaped_20 rfl ?_
      refine w_gr dX8_reaped_21 fl_X8_65 sh47 rfl ?_
      refine w_il dX8_reaped_24 rfl ?_
      refine w_ialdV (v := (σ.2 66 x)) dX8_reaped_25 sh66 (by omega) (hM.2.2.1 66 (by decide) _) ?_
      refine w_is (ls2 := [some (.ref 47), some (.int (nI x)), some (.int u), some (.int (σ.2 66 x))]) dX8_reaped_26 rfl ?_
      refine w_al dX8_reaped_27 rfl ?_
      refine w_gr dX8_reaped_28 fl_X8_65 sh47 rfl ?_
      refine w_il dX8_reaped_31 rfl ?_
      refine w_il dX8_reaped_32 rfl ?_
      refine w_iastN dX8_reaped_33 sh66 (by omega) ?_
      refine w_il dX8_reaped_34 rfl ?_
      refine w_iret dX8_reaped_35 rfl ?_
      rw [← hQ]
      exact ⟨_, rfl, by rw [r_reap, if_pos ⟨h4, h14⟩, nv_nI (by omega)], by rw [n_reap, if_pos ⟨h4, h14⟩, nv_nI (by omega)]; exact MInv.wZ hM (by decide) (Wf.sZ hM.1 (fun _ => reap_ok h14) (fun e => absurd e (by decide))), (EqC.w EqC.rf (by decide))⟩
    · --f
      refine w_k dX8_reaped_17 ?_
      refine w_iret dX8_reaped_19 rfl ?_
      rw [← hQ]
      exact ⟨_, rfl, by rw [r_reap, if_neg (fun z => h14 z.2)], by rw [n_reap, if_neg (fun z => h14 z.2)]; exact hM, EqC.rf⟩

set_option maxHeartbeats 4000000 in
theorem c_X7_found (ρ : Rho) (n : Nat) : CallOK 0 mX7_found [.ref 0, .int (nI n)] ρ (fun r ρ2 => r = some (.int (-10 - nI n)) ∧ ρ2 = wI ρ 0 8 (nI n)) := by
  refine callOK_of 0 (by decide +kernel) rfl (fun _ => Nat.le_of_ble_eq_true rfl) (ls := [some (.ref 0), some (.int (nI n))]) rfl ?_
  generalize hQ : (fun r ρ2 => r = some (.int (-10 - nI n)) ∧ ρ2 = wI ρ 0 8 (nI n) : Option Value → Rho → Prop) = Q
  refine w_al dX7_found_0 rfl ?_
  refine w_il dX7_found_1 rfl ?_
  refine w_pi dX7_found_2 fp_X7_280 sh0 rfl rfl rfl ?_
  refine w_k dX7_found_5 ?_
  refine w_il dX7_found_7 rfl ?_
  refine w_isub dX7_found_8 ?_
  refine w_iret dX7_found_9 rfl ?_
  rw [← hQ]
  exact ⟨rfl, rfl⟩

set_option maxHeartbeats 4000000 in
theorem c_X8_meets (ρ : Rho) (n : Nat) : CallOK 0 mX8_meets [.ref 47, .int (nI n)] ρ (fun r ρ2 => r = some (.int (-10 - nI n)) ∧ ρ2 = wI ρ 47 29 (nI n)) := by
  refine callOK_of 0 (by decide +kernel) rfl (fun _ => Nat.le_of_ble_eq_true rfl) (ls := [some (.ref 47), some (.int (nI n))]) rfl ?_
  generalize hQ : (fun r ρ2 => r = some (.int (-10 - nI n)) ∧ ρ2 = wI ρ 47 29 (nI n) : Option Value → Rho → Prop) = Q
  refine w_al dX8_meets_0 rfl ?_
  refine w_il dX8_meets_1 rfl ?_
  refine w_pi dX8_meets_2 fp_X8_234 sh47 rfl rfl rfl ?_
  refine w_k dX8_meets_5 ?_
  refine w_il dX8_meets_7 rfl ?_
  refine w_isub dX8_meets_8 ?_
  refine w_iret dX8_meets_9 rfl ?_
  rw [← hQ]
  exact ⟨rfl, rfl⟩

set_option maxHeartbeats 4000000 in
theorem c_X4_renew (ρ : Rho) (t f n : Nat) (ht : t < 4) : CallOK 1 mX4_renew [.ref (39 + t), .int (nI f), .int (nI n)] ρ (fun r ρ2 => r = none ∧ (ρ2 = fillI (wI (wI (wI ρ (39 + t) 0 (nI 0)) (39 + t) 1 (nI f)) (39 + t) 2 (nI n)) (43 + t) 60 (nI 0) ∧ EqM ρ ρ2)) := by
  refine callOK_of 0 (by decide +kernel) rfl (fun _ => Nat.le_of_ble_eq_true rfl) (ls := [some (.ref (39 + t)), some (.int (nI f)), some (.int (nI n))]) rfl ?_
  generalize hQ : (fun r ρ2 => r = none ∧ (ρ2 = fillI (wI (wI (wI ρ (39 + t) 0 (nI 0)) (39 + t) 1 (nI f)) (39 + t) 2 (nI n)) (43 + t) 60 (nI 0) ∧ EqM ρ ρ2) : Option Value → Rho → Prop) = Q
  refine w_al dX4_renew_0 rfl ?_
  refine w_k dX4_renew_1 ?_
  refine w_pi dX4_renew_2 fp_X4_9 (sh_sheet (by omega)) rfl rfl rfl ?_
  refine w_al dX4_renew_5 rfl ?_
  refine w_il dX4_renew_6 rfl ?_
  refine w_pi dX4_renew_7 fp_X4_15 (sh_sheet (by omega)) rfl rfl rfl ?_
  refine w_al dX4_renew_10 rfl ?_
  refine w_il dX4_renew_11 rfl ?_
  refine w_pi dX4_renew_12 fp_X4_19 (sh_sheet (by omega)) rfl rfl rfl ?_
  refine w_al dX4_renew_15 rfl ?_
  refine w_gr dX4_renew_16 fl_X4_22 (sh_sheet (by omega)) rfl ?_
  refine w_k dX4_renew_19 ?_
  refine w_cSv dX4_renew_20 (sl_X4_26 _ rfl) (by decide) (c_fill (wI (wI (wI ρ (39 + t) 0 (nI 0)) (39 + t) 1 (nI f)) (39 + t) 2 (nI n)) (43 + t) 60 (nI 0) (sh_items (by omega))) rfl rfl (Nat.le_of_ble_eq_true rfl) ?_
  refine w_ret dX4_renew_23 rfl ?_
  rw [← hQ]
  exact ⟨rfl, rfl, EqM.only (k := 43 + t) (EqM.only (k := 39 + t) (EqM.only (k := 39 + t) (EqM.only (k := 39 + t) EqM.rf only_wI (by omega)) only_wI (by omega)) only_wI (by omega)) only_fillI (by omega)⟩

set_option maxHeartbeats 4000000 in
theorem c_X7_sheet (ρ : Rho) (σ : Sg) (p : Int32) (q : Int32) (u : Int32) (hC : CInv σ ρ) : CallOK 2 mX7_sheet [.ref 0, .int p, .int q, .int u] ρ (fun r ρ2 => ∃ v, r = some v ∧ (v = .int (r_sheet p q u) ∧ CInv (n_sheet σ p q u) ρ2 ∧ EqM ρ ρ2)) := by
  refine callOK_of 0 (by decide +kernel) rfl (fun _ => Nat.le_of_ble_eq_true rfl) (ls := [some (.ref 0), some (.int p), some (.int q), some (.int u)]) rfl ?_
  generalize hQ : (fun r ρ2 => ∃ v, r = some v ∧ (v = .int (r_sheet p q u) ∧ CInv (n_sheet σ p q u) ρ2 ∧ EqM ρ ρ2) : Option Value → Rho → Prop) = Q
  refine w_il dX7_sheet_0 rfl ?_
  refine w_cSf dX7_sheet_1 (sl_X7_116 _ rfl) (by decide) (c_X7_isSheet ρ p) rfl rfl (Nat.le_of_ble_eq_true rfl) ?_
  refine w_ifeqB dX7_sheet_4 (fun h4 => ?_) (fun h4 => ?_)
  · --t
    refine w_k dX7_sheet_20 ?_
    refine w_iret dX7_sheet_22 rfl ?_
    rw [← hQ]
    exact ⟨_, rfl, by rw [r_sheet, if_neg (fun z => h4 z.1)], by rw [n_sheet, if_neg (fun z => h4 z.1)]; exact ⟨hC.1, hC.2.1, hC.2.2⟩, EqM.rf⟩
  · --f
    obtain ⟨x, hx, rfl⟩ := inR_nI h4 (by decide)
    refine w_il dX7_sheet_7 rfl ?_
    refine w_cSf dX7_sheet_8 (sl_X7_267 _ rfl) (by decide) (c_X7_isForm ρ q) rfl rfl (Nat.le_of_ble_eq_true rfl) ?_
    refine w_ifeqB dX7_sheet_11 (fun h11 => ?_) (fun h11 => ?_)
    · --t
      refine w_k dX7_sheet_20 ?_
      refine w_iret dX7_sheet_22 rfl ?_
      rw [← hQ]
      exact ⟨_, rfl, by rw [r_sheet, if_neg (fun z => h11 z.2.1)], by rw [n_sheet, if_neg (fun z => h11 z.2.1)]; exact ⟨hC.1, hC.2.1, hC.2.2⟩, EqM.rf⟩
    · --f
      obtain ⟨y, hy, rfl⟩ := inR_nI h11 (by decide)
      refine w_il dX7_sheet_14 rfl ?_
      refine w_k dX7_sheet_15 ?_
      refine w_icle dX7_sheet_17 (fun h17 => ?_) (fun h17 => ?_)
      · --t
        refine w_il dX7_sheet_23 rfl ?_
        refine w_ifge dX7_sheet_24 (fun h24 => ?_) (fun h24 => ?_)
        · --t
          obtain ⟨z, hz, rfl⟩ := inR_nI (m := 60) ⟨h24, h17⟩ (by decide)
          refine w_al dX7_sheet_33 rfl ?_
          refine w_gr dX7_sheet_34 fl_X7_56 sh0 rfl ?_
          refine w_il dX7_sheet_37 rfl ?_
          refine w_aaldN (b := 39) dX7_sheet_38 sh38 (by omega) ?_
          refine w_il dX7_sheet_39 rfl ?_
          refine w_il dX7_sheet_40 rfl ?_
          refine w_cVu dX7_sheet_41 (vl_X7_270 _ rfl) (sh_sheet (by omega)) (by decide) (c_X4_renew ρ x y z (by omega)) rfl rfl (Nat.le_of_ble_eq_true rfl) (fun ρn hn9 => ?_)
          obtain ⟨hn9, hEn⟩ := hn9
          refine w_il dX7_sheet_44 rfl ?_
          refine w_iret dX7_sheet_45 rfl ?_
          rw [← hQ]
          exact ⟨_, rfl, by rw [r_sheet, if_pos ⟨h4, h11, h17⟩, if_neg (nI_pos (by omega))], by rw [n_sheet, if_pos ⟨h4, h11, h17⟩, if_neg (nI_pos (by omega)), nv_nI (by omega), nv_nI (by omega), nv_nI (by omega), hn9]; exact hC.shd (ShD.zit (ShD.sN (ShD.sN (ShD.sN ShD.rf (Or.inl rfl)) (Or.inr (Or.inl rfl))) (Or.inr (Or.inr rfl)))) (Wf.zit (Wf.sN (Wf.sN (Wf.sN hC.1.1 (by simp [okN] <;> omega)) (by simp [okN] <;> omega)) (by simp [okN] <;> omega)) x) (fun k hk => by rw [(only_fillI k (by omega)).1, wI_ne (by omega), wI_ne (by omega), wI_ne (by omega)]) (CSh.renew hC.1.2.2.2.2.1 (by omega)), hEn⟩
        · --f
          refine w_al dX7_sheet_27 rfl ?_
          refine w_k dX7_sheet_28 ?_
          refine w_cVf dX7_sheet_29 (vl_X7_123 _ rfl) sh0 (by decide) (c_X7_found ρ 5) rfl rfl (Nat.le_of_ble_eq_true rfl) ?_
          refine w_iret dX7_sheet_32 rfl ?_
          rw [← hQ]
          exact ⟨_, rfl, by rw [r_sheet, if_pos ⟨h4, h11, h17⟩, if_pos (Int32.not_le.mp h24)], by rw [n_sheet, if_pos ⟨h4, h11, h17⟩, if_pos (Int32.not_le.mp h24)]; exact hC.find (by omega), (EqM.only EqM.rf only_wI (by decide))⟩
      · --f
        refine w_k dX7_sheet_20 ?_
        refine w_iret dX7_sheet_22 rfl ?_
        rw [← hQ]
        exact ⟨_, rfl, by rw [r_sheet, if_neg (fun z => h17 z.2.2)], by rw [n_sheet, if_neg (fun z => h17 z.2.2)]; exact ⟨hC.1, hC.2.1, hC.2.2⟩, EqM.rf⟩

set_option maxHeartbeats 4000000 in
theorem c_X8_sheet (ρ : Rho) (σ : Sg) (p : Int32) (q : Int32) (u : Int32) (hM : MInv σ ρ) : CallOK 2 mX8_sheet [.ref 47, .int p, .int q, .int u] ρ (fun r ρ2 => ∃ v, r = some v ∧ (v = .int (r_sheet p q u) ∧ MInv (n_sheet σ p q u) ρ2 ∧ EqC ρ ρ2)) := by
  refine callOK_of 1 (by decide +kernel) rfl (fun _ => Nat.le_of_ble_eq_true rfl) (ls := [some (.ref 47), some (.int p), some (.int q), some (.int u), none]) rfl ?_
  generalize hQ : (fun r ρ2 => ∃ v, r = some v ∧ (v = .int (r_sheet p q u) ∧ MInv (n_sheet σ p q u) ρ2 ∧ EqC ρ ρ2) : Option Value → Rho → Prop) = Q
  refine w_il dX8_sheet_0 rfl ?_
  refine w_cSf dX8_sheet_1 (sl_X8_136 _ rfl) (by decide) (c_X8_isSheet ρ p) rfl rfl (Nat.le_of_ble_eq_true rfl) ?_
  refine w_ifeqB dX8_sheet_4 (fun h4 => ?_) (fun h4 => ?_)
  · --t
    refine w_k dX8_sheet_22 ?_
    refine w_iret dX8_sheet_24 rfl ?_
    rw [← hQ]
    exact ⟨_, rfl, by rw [r_sheet, if_neg (fun z => h4 z.1)], by rw [n_sheet, if_neg (fun z => h4 z.1)]; exact hM, EqC.rf⟩
  · --f
    obtain ⟨x, hx, rfl⟩ := inR_nI h4 (by decide)
    refine w_il dX8_sheet_7 rfl ?_
    refine w_k dX8_sheet_8 ?_
    refine w_k dX8_sheet_9 ?_
    refine w_cSf dX8_sheet_10 (sl_X8_89 _ rfl) (by decide) (c_X8_in ρ q (nI 0) (nI 2)) rfl rfl (Nat.le_of_ble_eq_true rfl) ?_
    refine w_ifeqB dX8_sheet_13 (fun h13 => ?_) (fun h13 => ?_)
    · --t
      refine w_k dX8_sheet_22 ?_
      refine w_iret dX8_sheet_24 rfl ?_
      rw [← hQ]
      exact ⟨_, rfl, by rw [r_sheet, if_neg (fun z => h13 z.2.1)], by rw [n_sheet, if_neg (fun z => h13 z.2.1)]; exact hM, EqC.rf⟩
    · --f
      obtain ⟨y, hy, rfl⟩ := inR_nI h13 (by decide)
      refine w_il dX8_sheet_16 rfl ?_
      refine w_k dX8_sheet_17 ?_
      refine w_icle dX8_sheet_19 (fun h19 => ?_) (fun h19 => ?_)
      · --t
        refine w_il dX8_sheet_25 rfl ?_
        refine w_ifge dX8_sheet_26 (fun h26 => ?_) (fun h26 => ?_)
        · --t
          obtain ⟨z, hz, rfl⟩ := inR_nI (m := 60) ⟨h26, h19⟩ (by decide)
          refine w_al dX8_sheet_35 rfl ?_
          refine w_gr dX8_sheet_36 fl_X8_71 sh47 rfl ?_
          refine w_il dX8_sheet_39 rfl ?_
          refine w_k dX8_sheet_40 ?_
          refine w_zastN dX8_sheet_41 sh68 (by omega) rfl ?_
          refine w_al dX8_sheet_42 rfl ?_
          refine w_gr dX8_sheet_43 fl_X8_75 sh47 rfl ?_
          refine w_il dX8_sheet_46 rfl ?_
          refine w_il dX8_sheet_47 rfl ?_
          refine w_iastN dX8_sheet_48 sh69 (by omega) ?_
          refine w_al dX8_sheet_49 rfl ?_
          refine w_gr dX8_sheet_50 fl_X8_78 sh47 rfl ?_
          refine w_il dX8_sheet_53 rfl ?_
          refine w_il dX8_sheet_54 rfl ?_
          refine w_iastN dX8_sheet_55 sh70 (by omega) ?_
          refine w_k dX8_sheet_56 ?_
          refine w_is (ls2 := [some (.ref 47), some (.int (nI x)), some (.int (nI y)), some (.int (nI z)), some (.int (nI 0))]) dX8_sheet_57 rfl ?_
          have L59 : ∀ (n59 : Nat) (i : Nat) (ρ1 : Rho), (i ≤ 60) → (Fr [71] (wI (wI (wI ρ 68 x (nI 1)) 69 x (nI y)) 70 x (nI z)) ρ1) → (∀ b, ρ1.1 71 b = if 60 * x ≤ b ∧ b < 60 * x + i then nI 0 else σ.2 71 b) → (60 - i) < n59 → MW mX8_sheet 2 59 [some (.ref 47), some (.int (nI x)), some (.int (nI y)), some (.int (nI z)), some (.int (nI i))] [] ρ1 Q := by
            intro n59
            induction n59 with
            | zero =>
              intro i ρ1 hi hF1 hz1 hm59
              exact absurd hm59 (Nat.not_lt_zero _)
            | succ n59 ih59 =>
              intro i ρ1 hi hF1 hz1 hm59
              refine w_il dX8_sheet_59 rfl ?_
              refine w_k dX8_sheet_61 ?_
              refine w_icgeN dX8_sheet_63 (by omega) (by omega) (fun h63 => ?_) (fun h63 => ?_)
              · --t
                refine w_il dX8_sheet_85 rfl ?_
                refine w_iret dX8_sheet_86 rfl ?_
                rw [← hQ]
                exact ⟨_, rfl, by rw [r_sheet, if_pos ⟨h4, h13, h19⟩, if_neg (nI_pos (by omega))], by rw [n_sheet, if_pos ⟨h4, h13, h19⟩, if_neg (nI_pos (by omega)), nv_nI (by omega), nv_nI (by omega), nv_nI (by omega)]; exact MInv.z (MInv.wN (MInv.wN (MInv.wN hM (by decide) (Wf.sN hM.1 (by simp [okN] <;> omega))) (by decide) (Wf.sN (Wf.sN hM.1 (by simp [okN] <;> omega)) (by simp [okN] <;> omega))) (by decide) (Wf.sN (Wf.sN (Wf.sN hM.1 (by simp [okN] <;> omega)) (by simp [okN] <;> omega)) (by simp [okN] <;> omega))) hF1 (fun b => by rw [hz1 b, show i = 60 by omega]; rfl), (EqC.tr (EqC.w (EqC.w (EqC.w EqC.rf (by decide)) (by decide)) (by decide)) (Fr.eqC hF1 (by decide)))⟩
              · --f
                refine w_al dX8_sheet_66 rfl ?_
                refine w_gr dX8_sheet_67 fl_X8_81 sh47 rfl ?_
                refine w_k dX8_sheet_70 ?_
                refine w_il dX8_sheet_72 rfl ?_
                refine w_imulN dX8_sheet_73 ?_
                refine w_il dX8_sheet_74 rfl ?_
                refine w_iaddN dX8_sheet_76 ?_
                refine w_k dX8_sheet_77 ?_
                refine w_iastN dX8_sheet_78 sh71 (by omega) ?_
                refine w_iincN (ls2 := [some (.ref 47), some (.int (nI x)), some (.int (nI y)), some (.int (nI z)), some (.int (nI (i + 1)))]) dX8_sheet_79 rfl rfl ?_
                refine w_goto dX8_sheet_82 ?_
                exact ih59 (i + 1) (wI ρ1 71 (60 * x + i) (nI 0)) (by omega) (Fr.only hF1 only_wI (by decide)) (zst (f := fun _ => nI 0) (g := fun b => σ.2 71 b) hz1 rfl) (by omega)
          exact L59 _ 0 (wI (wI (wI ρ 68 x (nI 1)) 69 x (nI y)) 70 x (nI z)) (by omega) (Fr.rf) (fun b => by rw [if_neg (by omega)]; exact rI_c (by decide) (rI_c (by decide) (rI_c (by decide) (hM.2.2.1 71 (by decide) b)))) (Nat.lt_succ_self _)
        · --f
          refine w_al dX8_sheet_29 rfl ?_
          refine w_k dX8_sheet_30 ?_
          refine w_cVf dX8_sheet_31 (vl_X8_139 _ rfl) sh47 (by decide) (c_X8_meets ρ 5) rfl rfl (Nat.le_of_ble_eq_true rfl) ?_
          refine w_iret dX8_sheet_34 rfl ?_
          rw [← hQ]
          exact ⟨_, rfl, by rw [r_sheet, if_pos ⟨h4, h13, h19⟩, if_pos (Int32.not_le.mp h26)], by rw [n_sheet, if_pos ⟨h4, h13, h19⟩, if_pos (Int32.not_le.mp h26)]; exact hM.find (by omega), (EqC.w EqC.rf (by decide))⟩
      · --f
        refine w_k dX8_sheet_22 ?_
        refine w_iret dX8_sheet_24 rfl ?_
        rw [← hQ]
        exact ⟨_, rfl, by rw [r_sheet, if_neg (fun z => h19 z.2.2)], by rw [n_sheet, if_neg (fun z => h19 z.2.2)]; exact hM, EqC.rf⟩

set_option maxHeartbeats 4000000 in
theorem c_X7_lose (ρ : Rho) (σ : Sg) (p : Int32) (hC : CInv σ ρ) : CallOK 2 mX7_lose [.ref 0, .int p] ρ (fun r ρ2 => ∃ v, r = some v ∧ (v = .int (r_lose σ p) ∧ CInv (n_lose σ p) ρ2 ∧ EqM ρ ρ2)) := by
  refine callOK_of 1 (by decide +kernel) rfl (fun _ => Nat.le_of_ble_eq_true rfl) (ls := [some (.ref 0), some (.int p), none]) rfl ?_
  generalize hQ : (fun r ρ2 => ∃ v, r = some v ∧ (v = .int (r_lose σ p) ∧ CInv (n_lose σ p) ρ2 ∧ EqM ρ ρ2) : Option Value → Rho → Prop) = Q
  refine w_il dX7_lose_0 rfl ?_
  refine w_cSf dX7_lose_1 (sl_X7_116 _ rfl) (by decide) (c_X7_isSheet ρ p) rfl rfl (Nat.le_of_ble_eq_true rfl) ?_
  refine w_ifneB dX7_lose_4 (fun h4 => ?_) (fun h4 => ?_)
  · --t
    obtain ⟨x, hx, rfl⟩ := inR_nI h4 (by decide)
    refine w_al dX7_lose_10 rfl ?_
    refine w_gr dX7_lose_11 fl_X7_56 sh0 rfl ?_
    refine w_il dX7_lose_14 rfl ?_
    refine w_aaldN (b := 39) dX7_lose_15 sh38 (by omega) ?_
    refine w_as (ls2 := [some (.ref 0), some (.int (nI x)), some (.ref (39 + x))]) dX7_lose_16 rfl ?_
    refine w_al dX7_lose_17 rfl ?_
    refine w_giV (v := (nI (1 - σ.1 68 x))) dX7_lose_18 fl_X7_119 (sh_sheet (by omega)) rfl ((hC.1.2.2.2.2.1 x (by omega)).1) ?_
    refine w_ifeqN dX7_lose_21 (by omega) (fun h21 => ?_) (fun h21 => ?_)
    · --t
      refine w_al dX7_lose_30 rfl ?_
      refine w_k dX7_lose_31 ?_
      refine w_pi dX7_lose_32 fp_X7_119 (sh_sheet (by omega)) rfl rfl rfl ?_
      refine w_al dX7_lose_35 rfl ?_
      refine w_giV (v := (nI (σ.1 70 x))) dX7_lose_36 fl_X7_126 (sh_sheet (by omega)) rfl (rI_s (by decide) ((hC.1.2.2.2.2.1 x (by omega)).2.2.1)) ?_
      refine w_iret dX7_lose_39 rfl ?_
      rw [← hQ]
      exact ⟨_, rfl, by rw [r_lose, if_pos h4, nv_nI (by omega), if_neg (by omega)], by rw [n_lose, if_pos h4, nv_nI (by omega), if_neg (by omega)]; exact hC.shd (ShD.sN ShD.rf (Or.inl rfl)) (Wf.sN hC.1.1 (by simp [okN] <;> omega)) (fun k hk => wI_ne (by omega)) (CSh.lose hC.1.2.2.2.2.1 (by omega)), (EqM.only EqM.rf only_wI (by omega))⟩
    · --f
      refine w_al dX7_lose_24 rfl ?_
      refine w_k dX7_lose_25 ?_
      refine w_cVf dX7_lose_26 (vl_X7_123 _ rfl) sh0 (by decide) (c_X7_found ρ 1) rfl rfl (Nat.le_of_ble_eq_true rfl) ?_
      refine w_iret dX7_lose_29 rfl ?_
      rw [← hQ]
      exact ⟨_, rfl, by rw [r_lose, if_pos h4, nv_nI (by omega), if_pos (by omega)], by rw [n_lose, if_pos h4, nv_nI (by omega), if_pos (by omega)]; exact hC.find (by omega), (EqM.only EqM.rf only_wI (by decide))⟩
  · --f
    refine w_k dX7_lose_7 ?_
    refine w_iret dX7_lose_9 rfl ?_
    rw [← hQ]
    exact ⟨_, rfl, by rw [r_lose, if_neg (fun z => h4 z)], by rw [n_lose, if_neg (fun z => h4 z)]; exact ⟨hC.1, hC.2.1, hC.2.2⟩, EqM.rf⟩

set_option maxHeartbeats 4000000 in
theorem c_X8_lose (ρ : Rho) (σ : Sg) (p : Int32) (hM : MInv σ ρ) : CallOK 2 mX8_lose [.ref 47, .int p] ρ (fun r ρ2 => ∃ v, r = some v ∧ (v = .int (r_lose σ p) ∧ MInv (n_lose σ p) ρ2 ∧ EqC ρ ρ2)) := by
  refine callOK_of 0 (by decide +kernel) rfl (fun _ => Nat.le_of_ble_eq_true rfl) (ls := [some (.ref 47), some (.int p)]) rfl ?_
  generalize hQ : (fun r ρ2 => ∃ v, r = some v ∧ (v = .int (r_lose σ p) ∧ MInv (n_lose σ p) ρ2 ∧ EqC ρ ρ2) : Option Value → Rho → Prop) = Q
  refine w_il dX8_lose_0 rfl ?_
  refine w_cSf dX8_lose_1 (sl_X8_136 _ rfl) (by decide) (c_X8_isSheet ρ p) rfl rfl (Nat.le_of_ble_eq_true rfl) ?_
  refine w_ifneB dX8_lose_4 (fun h4 => ?_) (fun h4 => ?_)
  · --t
    obtain ⟨x, hx, rfl⟩ := inR_nI h4 (by decide)
    have ws := hM.1.there x
    refine w_al dX8_lose_10 rfl ?_
    refine w_gr dX8_lose_11 fl_X8_71 sh47 rfl ?_
    refine w_il dX8_lose_14 rfl ?_
    refine w_zaldV (v := (nI (σ.1 68 x))) dX8_lose_15 sh68 (by omega) (hM.2.1 68 (by decide) _) ?_
    refine w_ifneN dX8_lose_16 (by omega) (fun h16 => ?_) (fun h16 => ?_)
    · --t
      refine w_al dX8_lose_25 rfl ?_
      refine w_gr dX8_lose_26 fl_X8_71 sh47 rfl ?_
      refine w_il dX8_lose_29 rfl ?_
      refine w_k dX8_lose_30 ?_
      refine w_zastN dX8_lose_31 sh68 (by omega) rfl ?_
      refine w_al dX8_lose_32 rfl ?_
      refine w_gr dX8_lose_33 fl_X8_78 sh47 rfl ?_
      refine w_il dX8_lose_36 rfl ?_
      refine w_ialdV (v := (nI (σ.1 70 x))) dX8_lose_37 sh70 (by omega) (rI_c (by decide) (hM.2.1 70 (by decide) _)) ?_
      refine w_iret dX8_lose_38 rfl ?_
      rw [← hQ]
      exact ⟨_, rfl, by rw [r_lose, if_pos h4, nv_nI (by omega), if_neg h16], by rw [n_lose, if_pos h4, nv_nI (by omega), if_neg h16]; exact MInv.wN hM (by decide) (Wf.sN hM.1 (by simp [okN] <;> omega)), (EqC.w EqC.rf (by decide))⟩
    · --f
      refine w_al dX8_lose_19 rfl ?_
      refine w_k dX8_lose_20 ?_
      refine w_cVf dX8_lose_21 (vl_X8_139 _ rfl) sh47 (by decide) (c_X8_meets ρ 1) rfl rfl (Nat.le_of_ble_eq_true rfl) ?_
      refine w_iret dX8_lose_24 rfl ?_
      rw [← hQ]
      exact ⟨_, rfl, by rw [r_lose, if_pos h4, nv_nI (by omega), if_pos h16], by rw [n_lose, if_pos h4, nv_nI (by omega), if_pos h16]; exact hM.find (by omega), (EqC.w EqC.rf (by decide))⟩
  · --f
    refine w_k dX8_lose_7 ?_
    refine w_iret dX8_lose_9 rfl ?_
    rw [← hQ]
    exact ⟨_, rfl, by rw [r_lose, if_neg (fun z => h4 z)], by rw [n_lose, if_neg (fun z => h4 z)]; exact hM, EqC.rf⟩

set_option maxHeartbeats 4000000 in
theorem c_X4_findingAt (ρ : Rho) (σ : Sg) (t f : Nat) (i : Int32) (hS : CSh σ ρ) (hw : Wf σ) (ht : t < 4) (hf : f < 3) : CallOK 0 mX4_findingAt [.ref (39 + t), .int (nI f), .int i] ρ (fun r ρ2 => r = some (.int (nI (lkS σ t f i))) ∧ ρ2 = ρ) := by
  refine callOK_of 0 (by decide +kernel) rfl (fun _ => Nat.le_of_ble_eq_true rfl) (ls := [some (.ref (39 + t)), some (.int (nI f)), some (.int i)]) rfl ?_
  generalize hQ : (fun r ρ2 => r = some (.int (nI (lkS σ t f i))) ∧ ρ2 = ρ : Option Value → Rho → Prop) = Q
  have w1 := hw.form t
  have w2 := hw.there t
  refine w_al dX4_findingAt_0 rfl ?_
  refine w_giV (v := (nI (1 - σ.1 68 t))) dX4_findingAt_1 fl_X4_9 (sh_sheet (by omega)) rfl ((hS t (by omega)).1) ?_
  refine w_ifeqN dX4_findingAt_4 (by omega) (fun h4 => ?_) (fun h4 => ?_)
  · --t
    refine w_al dX4_findingAt_9 rfl ?_
    refine w_giV (v := (nI (σ.1 69 t))) dX4_findingAt_10 fl_X4_15 (sh_sheet (by omega)) rfl ((hS t (by omega)).2.1) ?_
    refine w_il dX4_findingAt_13 rfl ?_
    refine w_iceqN dX4_findingAt_14 (by omega) (by omega) (fun h14 => ?_) (fun h14 => ?_)
    · --t
      refine w_il dX4_findingAt_19 rfl ?_
      refine w_iflt dX4_findingAt_20 (fun h20 => ?_) (fun h20 => ?_)
      · --t
        refine w_k dX4_findingAt_35 ?_
        refine w_iret dX4_findingAt_36 rfl ?_
        rw [← hQ]
        exact ⟨congrArg (fun z => some (Value.int z)) (by rw [lkS, if_neg (by omega), if_pos h14, if_neg (fun z => Int32.not_lt.mpr z.1 h20)]), rfl⟩
      · --f
        refine w_il dX4_findingAt_23 rfl ?_
        refine w_al dX4_findingAt_24 rfl ?_
        refine w_giV (v := (nI (σ.1 70 t))) dX4_findingAt_25 fl_X4_19 (sh_sheet (by omega)) rfl ((hS t (by omega)).2.2.1) ?_
        refine w_icge dX4_findingAt_28 (fun h28 => ?_) (fun h28 => ?_)
        · --t
          refine w_k dX4_findingAt_35 ?_
          refine w_iret dX4_findingAt_36 rfl ?_
          rw [← hQ]
          exact ⟨congrArg (fun z => some (Value.int z)) (by rw [lkS, if_neg (by omega), if_pos h14, if_neg (fun z => Int32.not_le.mpr z.2 h28)]), rfl⟩
        · --f
          refine w_k dX4_findingAt_31 ?_
          refine w_goto dX4_findingAt_32 ?_
          refine w_iret dX4_findingAt_36 rfl ?_
          rw [← hQ]
          exact ⟨congrArg (fun z => some (Value.int z)) (by rw [lkS, if_neg (by omega), if_pos h14, if_pos ⟨Int32.not_lt.mp h20, Int32.not_le.mp h28⟩]), rfl⟩
    · --f
      refine w_k dX4_findingAt_17 ?_
      refine w_iret dX4_findingAt_18 rfl ?_
      rw [← hQ]
      exact ⟨congrArg (fun z => some (Value.int z)) (by rw [lkS, if_neg (by omega), if_neg h14]), rfl⟩
  · --f
    refine w_k dX4_findingAt_7 ?_
    refine w_iret dX4_findingAt_8 rfl ?_
    rw [← hQ]
    exact ⟨congrArg (fun z => some (Value.int z)) (by rw [lkS, if_pos (by omega)]), rfl⟩

set_option maxHeartbeats 4000000 in
theorem c_X8_lacks (ρ : Rho) (σ : Sg) (t f : Nat) (i : Int32) (hM : MInv σ ρ) (ht : t < 4) (hf : f < 3) : CallOK 1 mX8_lacks [.ref 47, .int (nI t), .int (nI f), .int i] ρ (fun r ρ2 => r = some (.int (nI (lkS σ t f i))) ∧ ρ2 = ρ) := by
  refine callOK_of 0 (by decide +kernel) rfl (fun _ => Nat.le_of_ble_eq_true rfl) (ls := [some (.ref 47), some (.int (nI t)), some (.int (nI f)), some (.int i)]) rfl ?_
  generalize hQ : (fun r ρ2 => r = some (.int (nI (lkS σ t f i))) ∧ ρ2 = ρ : Option Value → Rho → Prop) = Q
  have w1 := hM.1.form t
  have w2 := hM.1.there t
  have w3 := hM.1.size t
  refine w_al dX8_lacks_0 rfl ?_
  refine w_gr dX8_lacks_1 fl_X8_71 sh47 rfl ?_
  refine w_il dX8_lacks_4 rfl ?_
  refine w_zaldV (v := (nI (σ.1 68 t))) dX8_lacks_5 sh68 (by omega) (hM.2.1 68 (by decide) _) ?_
  refine w_ifneN dX8_lacks_6 (by omega) (fun h6 => ?_) (fun h6 => ?_)
  · --t
    refine w_al dX8_lacks_13 rfl ?_
    refine w_gr dX8_lacks_14 fl_X8_75 sh47 rfl ?_
    refine w_il dX8_lacks_17 rfl ?_
    refine w_ialdV (v := (nI (σ.1 69 t))) dX8_lacks_18 sh69 (by omega) (hM.2.1 69 (by decide) _) ?_
    refine w_il dX8_lacks_19 rfl ?_
    refine w_iceqN dX8_lacks_20 (by omega) (by omega) (fun h20 => ?_) (fun h20 => ?_)
    · --t
      refine w_il dX8_lacks_27 rfl ?_
      refine w_k dX8_lacks_28 ?_
      refine w_al dX8_lacks_29 rfl ?_
      refine w_gr dX8_lacks_30 fl_X8_78 sh47 rfl ?_
      refine w_il dX8_lacks_33 rfl ?_
      refine w_ialdV (v := (nI (σ.1 70 t))) dX8_lacks_34 sh70 (by omega) (hM.2.1 70 (by decide) _) ?_
      refine w_k dX8_lacks_35 ?_
      refine w_isub dX8_lacks_36 ?_
      refine w_cSf dX8_lacks_37 (sl_X8_89 _ rfl) (by decide) (c_X8_in ρ i (nI 0) ((nI (σ.1 70 t)) - (nI 1))) rfl rfl (Nat.le_of_ble_eq_true rfl) ?_
      refine w_ifeqB dX8_lacks_40 (fun h40 => ?_) (fun h40 => ?_)
      · --t
        refine w_k dX8_lacks_47 ?_
        refine w_iret dX8_lacks_48 rfl ?_
        rw [← hQ]
        exact ⟨congrArg (fun z => some (Value.int z)) (by rw [lkS, if_neg h6, if_pos h20, if_neg (fun z => h40 ((nIdec w3).mpr z))]), rfl⟩
      · --f
        refine w_k dX8_lacks_43 ?_
        refine w_goto dX8_lacks_44 ?_
        refine w_iret dX8_lacks_48 rfl ?_
        rw [← hQ]
        exact ⟨congrArg (fun z => some (Value.int z)) (by rw [lkS, if_neg h6, if_pos h20, if_pos ((nIdec w3).mp h40)]), rfl⟩
    · --f
      refine w_k dX8_lacks_23 ?_
      refine w_goto dX8_lacks_24 ?_
      refine w_iret dX8_lacks_48 rfl ?_
      rw [← hQ]
      exact ⟨congrArg (fun z => some (Value.int z)) (by rw [lkS, if_neg h6, if_neg h20]), rfl⟩
  · --f
    refine w_k dX8_lacks_9 ?_
    refine w_goto dX8_lacks_10 ?_
    refine w_iret dX8_lacks_48 rfl ?_
    rw [← hQ]
    exact ⟨congrArg (fun z => some (Value.int z)) (by rw [lkS, if_pos h6]), rfl⟩

set_option maxHeartbeats 4000000 in
theorem c_X4_keep (ρ : Rho) (t f i : Nat) (v : Int32) (hf : ρ.1 (39 + t) 1 = nI f) (hf2 : f < 3) (ht : t < 4) (hi : i < 60) : CallOK 0 mX4_keep [.ref (39 + t), .int (nI i), .int v] ρ (fun r ρ2 => r = none ∧ ρ2 = wI ρ (43 + t) i (cvt f v)) := by
  refine callOK_of 0 (by decide +kernel) rfl (fun _ => Nat.le_of_ble_eq_true rfl) (ls := [some (.ref (39 + t)), some (.int (nI i)), some (.int v)]) rfl ?_
  generalize hQ : (fun r ρ2 => r = none ∧ ρ2 = wI ρ (43 + t) i (cvt f v) : Option Value → Rho → Prop) = Q
  refine w_al dX4_keep_0 rfl ?_
  refine w_giV (v := (nI f)) dX4_keep_1 fl_X4_15 (sh_sheet (by omega)) rfl (hf) ?_
  refine w_ifneN dX4_keep_4 (by omega) (fun h4 => ?_) (fun h4 => ?_)
  · --t
    refine w_al dX4_keep_18 rfl ?_
    refine w_giV (v := (nI f)) dX4_keep_19 fl_X4_15 (sh_sheet (by omega)) rfl (hf) ?_
    refine w_k dX4_keep_22 ?_
    refine w_icneN dX4_keep_23 (by omega) (by omega) (fun h23 => ?_) (fun h23 => ?_)
    · --t
      refine w_al dX4_keep_37 rfl ?_
      refine w_gr dX4_keep_38 fl_X4_22 (sh_sheet (by omega)) rfl ?_
      refine w_il dX4_keep_41 rfl ?_
      refine w_il dX4_keep_42 rfl ?_
      refine w_iastN dX4_keep_43 (sh_items (by omega)) (by omega) ?_
      refine w_ret dX4_keep_44 rfl ?_
      rw [← hQ]
      exact ⟨rfl, by rw [cvt, if_neg h4, if_neg h23]⟩
    · --f
      refine w_al dX4_keep_26 rfl ?_
      refine w_gr dX4_keep_27 fl_X4_22 (sh_sheet (by omega)) rfl ?_
      refine w_il dX4_keep_30 rfl ?_
      refine w_il dX4_keep_31 rfl ?_
      refine w_i2s dX4_keep_32 ?_
      refine w_iastN dX4_keep_33 (sh_items (by omega)) (by omega) ?_
      refine w_goto dX4_keep_34 ?_
      refine w_ret dX4_keep_44 rfl ?_
      rw [← hQ]
      exact ⟨rfl, by rw [cvt, if_neg h4, if_pos h23]⟩
  · --f
    refine w_al dX4_keep_7 rfl ?_
    refine w_gr dX4_keep_8 fl_X4_22 (sh_sheet (by omega)) rfl ?_
    refine w_il dX4_keep_11 rfl ?_
    refine w_il dX4_keep_12 rfl ?_
    refine w_i2b dX4_keep_13 ?_
    refine w_iastN dX4_keep_14 (sh_items (by omega)) (by omega) ?_
    refine w_goto dX4_keep_15 ?_
    refine w_ret dX4_keep_44 rfl ?_
    rw [← hQ]
    exact ⟨rfl, by rw [cvt, if_pos h4]⟩

set_option maxHeartbeats 4000000 in
theorem c_X8_keep (ρ : Rho) (t f i : Nat) (v : Int32) (hf : ρ.1 69 t = nI f) (hf2 : f < 3) (ht : t < 4) (hi : i < 60) : CallOK 0 mX8_keep [.ref 47, .int (nI t), .int (nI i), .int v] ρ (fun r ρ2 => r = none ∧ ρ2 = wI ρ 71 (60 * t + i) (cvt f v)) := by
  refine callOK_of 0 (by decide +kernel) rfl (fun _ => Nat.le_of_ble_eq_true rfl) (ls := [some (.ref 47), some (.int (nI t)), some (.int (nI i)), some (.int v)]) rfl ?_
  generalize hQ : (fun r ρ2 => r = none ∧ ρ2 = wI ρ 71 (60 * t + i) (cvt f v) : Option Value → Rho → Prop) = Q
  refine w_al dX8_keep_0 rfl ?_
  refine w_gr dX8_keep_1 fl_X8_81 sh47 rfl ?_
  refine w_k dX8_keep_4 ?_
  refine w_il dX8_keep_6 rfl ?_
  refine w_imulN dX8_keep_7 ?_
  refine w_il dX8_keep_8 rfl ?_
  refine w_iaddN dX8_keep_9 ?_
  refine w_al dX8_keep_10 rfl ?_
  refine w_gr dX8_keep_11 fl_X8_75 sh47 rfl ?_
  refine w_il dX8_keep_14 rfl ?_
  refine w_ialdV (v := (nI f)) dX8_keep_15 sh69 (by omega) (hf) ?_
  refine w_ifneN dX8_keep_16 (by omega) (fun h16 => ?_) (fun h16 => ?_)
  · --t
    refine w_al dX8_keep_24 rfl ?_
    refine w_gr dX8_keep_25 fl_X8_75 sh47 rfl ?_
    refine w_il dX8_keep_28 rfl ?_
    refine w_ialdV (v := (nI f)) dX8_keep_29 sh69 (by omega) (hf) ?_
    refine w_k dX8_keep_30 ?_
    refine w_icneN dX8_keep_31 (by omega) (by omega) (fun h31 => ?_) (fun h31 => ?_)
    · --t
      refine w_il dX8_keep_39 rfl ?_
      refine w_iastN dX8_keep_40 sh71 (by omega) ?_
      refine w_ret dX8_keep_41 rfl ?_
      rw [← hQ]
      exact ⟨rfl, by rw [cvt, if_neg h16, if_neg h31]⟩
    · --f
      refine w_il dX8_keep_34 rfl ?_
      refine w_i2s dX8_keep_35 ?_
      refine w_goto dX8_keep_36 ?_
      refine w_iastN dX8_keep_40 sh71 (by omega) ?_
      refine w_ret dX8_keep_41 rfl ?_
      rw [← hQ]
      exact ⟨rfl, by rw [cvt, if_neg h16, if_pos h31]⟩
  · --f
    refine w_il dX8_keep_19 rfl ?_
    refine w_i2b dX8_keep_20 ?_
    refine w_goto dX8_keep_21 ?_
    refine w_iastN dX8_keep_40 sh71 (by omega) ?_
    refine w_ret dX8_keep_41 rfl ?_
    rw [← hQ]
    exact ⟨rfl, by rw [cvt, if_pos h16]⟩

set_option maxHeartbeats 4000000 in
theorem c_X7_put (ρ : Rho) (σ : Sg) (p : Int32) (q : Int32) (i : Int32) (u : Int32) (hC : CInv σ ρ) : CallOK 2 mX7_put [.ref 0, .int p, .int q, .int i, .int u] ρ (fun r ρ2 => ∃ v, r = some v ∧ (v = .int (r_put σ p q i) ∧ CInv (n_put σ p q i u) ρ2 ∧ EqM ρ ρ2)) := by
  refine callOK_of 1 (by decide +kernel) rfl (fun _ => Nat.le_of_ble_eq_true rfl) (ls := [some (.ref 0), some (.int p), some (.int q), some (.int i), some (.int u), none]) rfl ?_
  generalize hQ : (fun r ρ2 => ∃ v, r = some v ∧ (v = .int (r_put σ p q i) ∧ CInv (n_put σ p q i u) ρ2 ∧ EqM ρ ρ2) : Option Value → Rho → Prop) = Q
  refine w_il dX7_put_0 rfl ?_
  refine w_cSf dX7_put_1 (sl_X7_116 _ rfl) (by decide) (c_X7_isSheet ρ p) rfl rfl (Nat.le_of_ble_eq_true rfl) ?_
  refine w_ifeqB dX7_put_4 (fun h4 => ?_) (fun h4 => ?_)
  · --t
    refine w_k dX7_put_14 ?_
    refine w_iret dX7_put_16 rfl ?_
    rw [← hQ]
    exact ⟨_, rfl, by rw [r_put, if_neg (fun z => h4 z.1)], by rw [n_put, if_neg (fun z => h4 z.1)]; exact ⟨hC.1, hC.2.1, hC.2.2⟩, EqM.rf⟩
  · --f
    obtain ⟨x, hx, rfl⟩ := inR_nI h4 (by decide)
    refine w_il dX7_put_7 rfl ?_
    refine w_cSf dX7_put_8 (sl_X7_267 _ rfl) (by decide) (c_X7_isForm ρ q) rfl rfl (Nat.le_of_ble_eq_true rfl) ?_
    refine w_ifneB dX7_put_11 (fun h11 => ?_) (fun h11 => ?_)
    · --t
      obtain ⟨y, hy, rfl⟩ := inR_nI h11 (by decide)
      have wl := lkS_le σ x y i
      have wf := hC.1.1.form x
      refine w_al dX7_put_17 rfl ?_
      refine w_gr dX7_put_18 fl_X7_56 sh0 rfl ?_
      refine w_il dX7_put_21 rfl ?_
      refine w_aaldN (b := 39) dX7_put_22 sh38 (by omega) ?_
      refine w_il dX7_put_23 rfl ?_
      refine w_il dX7_put_24 rfl ?_
      refine w_cVf dX7_put_25 (vl_X7_273 _ rfl) (sh_sheet (by omega)) (by decide) (c_X4_findingAt ρ σ x y i hC.1.2.2.2.2.1 hC.1.1 (by omega) (by omega)) rfl rfl (Nat.le_of_ble_eq_true rfl) ?_
      refine w_is (ls2 := [some (.ref 0), some (.int (nI x)), some (.int (nI y)), some (.int i), some (.int u), some (.int (nI (lkS σ x y i)))]) dX7_put_28 rfl ?_
      refine w_il dX7_put_30 rfl ?_
      refine w_ifeqN dX7_put_32 (by omega) (fun h32 => ?_) (fun h32 => ?_)
      · --t
        obtain ⟨l1, l2, c, hc, rfl⟩ := lkS_0 hC.1.1 h32
        have wz := hC.1.1.size x
        refine w_al dX7_put_42 rfl ?_
        refine w_gr dX7_put_43 fl_X7_56 sh0 rfl ?_
        refine w_il dX7_put_46 rfl ?_
        refine w_aaldN (b := 39) dX7_put_47 sh38 (by omega) ?_
        refine w_il dX7_put_48 rfl ?_
        refine w_il dX7_put_49 rfl ?_
        refine w_cVv dX7_put_51 (vl_X7_276 _ rfl) (sh_sheet (by omega)) (by decide) (c_X4_keep ρ x (σ.1 69 x) c u (hC.1.2.2.2.2.1 x (by omega)).2.1 (by omega) (by omega) (by omega)) rfl rfl (Nat.le_of_ble_eq_true rfl) ?_
        refine w_k dX7_put_54 ?_
        refine w_iret dX7_put_55 rfl ?_
        rw [← hQ]
        exact ⟨_, rfl, by rw [r_put, if_pos ⟨h4, h11⟩, nv_nI (by omega), nv_nI (by omega), if_pos h32], by rw [n_put, if_pos ⟨h4, h11⟩, nv_nI (by omega), nv_nI (by omega), if_pos h32, nv_nI (by omega)]; exact hC.item (by omega) (by omega), (EqM.only EqM.rf only_wI (by omega))⟩
      · --f
        refine w_al dX7_put_35 rfl ?_
        refine w_il dX7_put_36 rfl ?_
        refine w_cVf dX7_put_38 (vl_X7_123 _ rfl) sh0 (by decide) (c_X7_found ρ (lkS σ x y i)) rfl rfl (Nat.le_of_ble_eq_true rfl) ?_
        refine w_iret dX7_put_41 rfl ?_
        rw [← hQ]
        exact ⟨_, rfl, by rw [r_put, if_pos ⟨h4, h11⟩, nv_nI (by omega), nv_nI (by omega), if_neg h32], by rw [n_put, if_pos ⟨h4, h11⟩, nv_nI (by omega), nv_nI (by omega), if_neg h32]; exact hC.find (by omega), (EqM.only EqM.rf only_wI (by decide))⟩
    · --f
      refine w_k dX7_put_14 ?_
      refine w_iret dX7_put_16 rfl ?_
      rw [← hQ]
      exact ⟨_, rfl, by rw [r_put, if_neg (fun z => h11 z.2)], by rw [n_put, if_neg (fun z => h11 z.2)]; exact ⟨hC.1, hC.2.1, hC.2.2⟩, EqM.rf⟩

set_option maxHeartbeats 4000000 in
theorem c_X8_put (ρ : Rho) (σ : Sg) (p : Int32) (q : Int32) (i : Int32) (u : Int32) (hM : MInv σ ρ) : CallOK 2 mX8_put [.ref 47, .int p, .int q, .int i, .int u] ρ (fun r ρ2 => ∃ v, r = some v ∧ (v = .int (r_put σ p q i) ∧ MInv (n_put σ p q i u) ρ2 ∧ EqC ρ ρ2)) := by
  refine callOK_of 1 (by decide +kernel) rfl (fun _ => Nat.le_of_ble_eq_true rfl) (ls := [some (.ref 47), some (.int p), some (.int q), some (.int i), some (.int u), none]) rfl ?_
  generalize hQ : (fun r ρ2 => ∃ v, r = some v ∧ (v = .int (r_put σ p q i) ∧ MInv (n_put σ p q i u) ρ2 ∧ EqC ρ ρ2) : Option Value → Rho → Prop) = Q
  refine w_il dX8_put_0 rfl ?_
  refine w_cSf dX8_put_1 (sl_X8_136 _ rfl) (by decide) (c_X8_isSheet ρ p) rfl rfl (Nat.le_of_ble_eq_true rfl) ?_
  refine w_ifeqB dX8_put_4 (fun h4 => ?_) (fun h4 => ?_)
  · --t
    refine w_k dX8_put_16 ?_
    refine w_iret dX8_put_18 rfl ?_
    rw [← hQ]
    exact ⟨_, rfl, by rw [r_put, if_neg (fun z => h4 z.1)], by rw [n_put, if_neg (fun z => h4 z.1)]; exact hM, EqC.rf⟩
  · --f
    obtain ⟨x, hx, rfl⟩ := inR_nI h4 (by decide)
    refine w_il dX8_put_7 rfl ?_
    refine w_k dX8_put_8 ?_
    refine w_k dX8_put_9 ?_
    refine w_cSf dX8_put_10 (sl_X8_89 _ rfl) (by decide) (c_X8_in ρ q (nI 0) (nI 2)) rfl rfl (Nat.le_of_ble_eq_true rfl) ?_
    refine w_ifneB dX8_put_13 (fun h13 => ?_) (fun h13 => ?_)
    · --t
      obtain ⟨y, hy, rfl⟩ := inR_nI h13 (by decide)
      have wl := lkS_le σ x y i
      have wf := hM.1.form x
      refine w_al dX8_put_19 rfl ?_
      refine w_il dX8_put_20 rfl ?_
      refine w_il dX8_put_21 rfl ?_
      refine w_il dX8_put_22 rfl ?_
      refine w_cVf dX8_put_23 (vl_X8_237 _ rfl) sh47 (by decide) (c_X8_lacks ρ σ x y i hM (by omega) (by omega)) rfl rfl (Nat.le_of_ble_eq_true rfl) ?_
      refine w_is (ls2 := [some (.ref 47), some (.int (nI x)), some (.int (nI y)), some (.int i), some (.int u), some (.int (nI (lkS σ x y i)))]) dX8_put_26 rfl ?_
      refine w_il dX8_put_28 rfl ?_
      refine w_ifleN dX8_put_30 (by omega) (fun h30 => ?_) (fun h30 => ?_)
      · --t
        obtain ⟨l1, l2, c, hc, rfl⟩ := lkS_0 hM.1 h30
        have wz := hM.1.size x
        refine w_al dX8_put_40 rfl ?_
        refine w_il dX8_put_41 rfl ?_
        refine w_il dX8_put_42 rfl ?_
        refine w_il dX8_put_43 rfl ?_
        refine w_cVv dX8_put_45 (vl_X8_240 _ rfl) sh47 (by decide) (c_X8_keep ρ x (σ.1 69 x) c u (hM.2.1 69 (by decide) x) (by omega) (by omega) (by omega)) rfl rfl (Nat.le_of_ble_eq_true rfl) ?_
        refine w_k dX8_put_48 ?_
        refine w_iret dX8_put_49 rfl ?_
        rw [← hQ]
        exact ⟨_, rfl, by rw [r_put, if_pos ⟨h4, h13⟩, nv_nI (by omega), nv_nI (by omega), if_pos h30], by rw [n_put, if_pos ⟨h4, h13⟩, nv_nI (by omega), nv_nI (by omega), if_pos h30, nv_nI (by omega)]; exact hM.it _ _, (EqC.w EqC.rf (by decide))⟩
      · --f
        refine w_al dX8_put_33 rfl ?_
        refine w_il dX8_put_34 rfl ?_
        refine w_cVf dX8_put_36 (vl_X8_139 _ rfl) sh47 (by decide) (c_X8_meets ρ (lkS σ x y i)) rfl rfl (Nat.le_of_ble_eq_true rfl) ?_
        refine w_iret dX8_put_39 rfl ?_
        rw [← hQ]
        exact ⟨_, rfl, by rw [r_put, if_pos ⟨h4, h13⟩, nv_nI (by omega), nv_nI (by omega), if_neg (by omega)], by rw [n_put, if_pos ⟨h4, h13⟩, nv_nI (by omega), nv_nI (by omega), if_neg (by omega)]; exact hM.find (by omega), (EqC.w EqC.rf (by decide))⟩
    · --f
      refine w_k dX8_put_16 ?_
      refine w_iret dX8_put_18 rfl ?_
      rw [← hQ]
      exact ⟨_, rfl, by rw [r_put, if_neg (fun z => h13 z.2)], by rw [n_put, if_neg (fun z => h13 z.2)]; exact hM, EqC.rf⟩

set_option maxHeartbeats 4000000 in
theorem c_X7_get (ρ : Rho) (σ : Sg) (p : Int32) (q : Int32) (i : Int32) (hC : CInv σ ρ) : CallOK 2 mX7_get [.ref 0, .int p, .int q, .int i] ρ (fun r ρ2 => ∃ v, r = some v ∧ (v = .int (r_get σ p q i) ∧ CInv (n_get σ p q i) ρ2 ∧ EqM ρ ρ2)) := by
  refine callOK_of 1 (by decide +kernel) rfl (fun _ => Nat.le_of_ble_eq_true rfl) (ls := [some (.ref 0), some (.int p), some (.int q), some (.int i), none]) rfl ?_
  generalize hQ : (fun r ρ2 => ∃ v, r = some v ∧ (v = .int (r_get σ p q i) ∧ CInv (n_get σ p q i) ρ2 ∧ EqM ρ ρ2) : Option Value → Rho → Prop) = Q
  refine w_il dX7_get_0 rfl ?_
  refine w_cSf dX7_get_1 (sl_X7_116 _ rfl) (by decide) (c_X7_isSheet ρ p) rfl rfl (Nat.le_of_ble_eq_true rfl) ?_
  refine w_ifeqB dX7_get_4 (fun h4 => ?_) (fun h4 => ?_)
  · --t
    refine w_k dX7_get_14 ?_
    refine w_iret dX7_get_17 rfl ?_
    rw [← hQ]
    exact ⟨_, rfl, by rw [r_get, if_neg (fun z => h4 z.1)], by rw [n_get, if_neg (fun z => h4 z.1)]; exact ⟨hC.1, hC.2.1, hC.2.2⟩, EqM.rf⟩
  · --f
    obtain ⟨x, hx, rfl⟩ := inR_nI h4 (by decide)
    refine w_il dX7_get_7 rfl ?_
    refine w_cSf dX7_get_8 (sl_X7_267 _ rfl) (by decide) (c_X7_isForm ρ q) rfl rfl (Nat.le_of_ble_eq_true rfl) ?_
    refine w_ifneB dX7_get_11 (fun h11 => ?_) (fun h11 => ?_)
    · --t
      obtain ⟨y, hy, rfl⟩ := inR_nI h11 (by decide)
      have wl := lkS_le σ x y i
      refine w_al dX7_get_18 rfl ?_
      refine w_gr dX7_get_19 fl_X7_56 sh0 rfl ?_
      refine w_il dX7_get_22 rfl ?_
      refine w_aaldN (b := 39) dX7_get_23 sh38 (by omega) ?_
      refine w_il dX7_get_24 rfl ?_
      refine w_il dX7_get_25 rfl ?_
      refine w_cVf dX7_get_26 (vl_X7_273 _ rfl) (sh_sheet (by omega)) (by decide) (c_X4_findingAt ρ σ x y i hC.1.2.2.2.2.1 hC.1.1 (by omega) (by omega)) rfl rfl (Nat.le_of_ble_eq_true rfl) ?_
      refine w_is (ls2 := [some (.ref 0), some (.int (nI x)), some (.int (nI y)), some (.int i), some (.int (nI (lkS σ x y i)))]) dX7_get_29 rfl ?_
      refine w_il dX7_get_31 rfl ?_
      refine w_ifeqN dX7_get_33 (by omega) (fun h33 => ?_) (fun h33 => ?_)
      · --t
        obtain ⟨l1, l2, c, hc, rfl⟩ := lkS_0 hC.1.1 h33
        have wz := hC.1.1.size x
        refine w_al dX7_get_46 rfl ?_
        refine w_gr dX7_get_47 fl_X7_56 sh0 rfl ?_
        refine w_il dX7_get_50 rfl ?_
        refine w_aaldN (b := 39) dX7_get_51 sh38 (by omega) ?_
        refine w_gr dX7_get_52 fl_X7_129 (sh_sheet (by omega)) rfl ?_
        refine w_il dX7_get_55 rfl ?_
        refine w_ialdV (v := (σ.2 71 (60 * x + c))) dX7_get_56 (sh_items (by omega)) (by omega) ((hC.1.2.2.2.2.1 x (by omega)).2.2.2 _ (by omega)) ?_
        refine w_iret dX7_get_57 rfl ?_
        rw [← hQ]
        exact ⟨_, rfl, by rw [r_get, if_pos ⟨h4, h11⟩, nv_nI (by omega), nv_nI (by omega), if_pos h33, nv_nI (by omega)], by rw [n_get, if_pos ⟨h4, h11⟩, nv_nI (by omega), nv_nI (by omega), if_pos h33]; exact hC, EqM.rf⟩
      · --f
        refine w_al dX7_get_36 rfl ?_
        refine w_il dX7_get_37 rfl ?_
        refine w_pi dX7_get_39 fp_X7_280 sh0 rfl rfl rfl ?_
        refine w_k dX7_get_42 ?_
        refine w_iret dX7_get_45 rfl ?_
        rw [← hQ]
        exact ⟨_, rfl, by rw [r_get, if_pos ⟨h4, h11⟩, nv_nI (by omega), nv_nI (by omega), if_neg h33], by rw [n_get, if_pos ⟨h4, h11⟩, nv_nI (by omega), nv_nI (by omega), if_neg h33]; exact hC.find (by omega), (EqM.only EqM.rf only_wI (by decide))⟩
    · --f
      refine w_k dX7_get_14 ?_
      refine w_iret dX7_get_17 rfl ?_
      rw [← hQ]
      exact ⟨_, rfl, by rw [r_get, if_neg (fun z => h11 z.2)], by rw [n_get, if_neg (fun z => h11 z.2)]; exact ⟨hC.1, hC.2.1, hC.2.2⟩, EqM.rf⟩

set_option maxHeartbeats 4000000 in
theorem c_X8_get (ρ : Rho) (σ : Sg) (p : Int32) (q : Int32) (i : Int32) (hM : MInv σ ρ) : CallOK 2 mX8_get [.ref 47, .int p, .int q, .int i] ρ (fun r ρ2 => ∃ v, r = some v ∧ (v = .int (r_get σ p q i) ∧ MInv (n_get σ p q i) ρ2 ∧ EqC ρ ρ2)) := by
  refine callOK_of 1 (by decide +kernel) rfl (fun _ => Nat.le_of_ble_eq_true rfl) (ls := [some (.ref 47), some (.int p), some (.int q), some (.int i), none]) rfl ?_
  generalize hQ : (fun r ρ2 => ∃ v, r = some v ∧ (v = .int (r_get σ p q i) ∧ MInv (n_get σ p q i) ρ2 ∧ EqC ρ ρ2) : Option Value → Rho → Prop) = Q
  refine w_il dX8_get_0 rfl ?_
  refine w_cSf dX8_get_1 (sl_X8_136 _ rfl) (by decide) (c_X8_isSheet ρ p) rfl rfl (Nat.le_of_ble_eq_true rfl) ?_
  refine w_ifeqB dX8_get_4 (fun h4 => ?_) (fun h4 => ?_)
  · --t
    refine w_k dX8_get_16 ?_
    refine w_iret dX8_get_18 rfl ?_
    rw [← hQ]
    exact ⟨_, rfl, by rw [r_get, if_neg (fun z => h4 z.1)], by rw [n_get, if_neg (fun z => h4 z.1)]; exact hM, EqC.rf⟩
  · --f
    obtain ⟨x, hx, rfl⟩ := inR_nI h4 (by decide)
    refine w_il dX8_get_7 rfl ?_
    refine w_k dX8_get_8 ?_
    refine w_k dX8_get_9 ?_
    refine w_cSf dX8_get_10 (sl_X8_89 _ rfl) (by decide) (c_X8_in ρ q (nI 0) (nI 2)) rfl rfl (Nat.le_of_ble_eq_true rfl) ?_
    refine w_ifneB dX8_get_13 (fun h13 => ?_) (fun h13 => ?_)
    · --t
      obtain ⟨y, hy, rfl⟩ := inR_nI h13 (by decide)
      have wl := lkS_le σ x y i
      refine w_al dX8_get_19 rfl ?_
      refine w_il dX8_get_20 rfl ?_
      refine w_il dX8_get_21 rfl ?_
      refine w_il dX8_get_22 rfl ?_
      refine w_cVf dX8_get_23 (vl_X8_237 _ rfl) sh47 (by decide) (c_X8_lacks ρ σ x y i hM (by omega) (by omega)) rfl rfl (Nat.le_of_ble_eq_true rfl) ?_
      refine w_is (ls2 := [some (.ref 47), some (.int (nI x)), some (.int (nI y)), some (.int i), some (.int (nI (lkS σ x y i)))]) dX8_get_26 rfl ?_
      refine w_il dX8_get_28 rfl ?_
      refine w_ifleN dX8_get_30 (by omega) (fun h30 => ?_) (fun h30 => ?_)
      · --t
        obtain ⟨l1, l2, c, hc, rfl⟩ := lkS_0 hM.1 h30
        have wz := hM.1.size x
        refine w_al dX8_get_42 rfl ?_
        refine w_gr dX8_get_43 fl_X8_81 sh47 rfl ?_
        refine w_k dX8_get_46 ?_
        refine w_il dX8_get_48 rfl ?_
        refine w_imulN dX8_get_49 ?_
        refine w_il dX8_get_50 rfl ?_
        refine w_iaddN dX8_get_51 ?_
        refine w_ialdV (v := (σ.2 71 (60 * x + c))) dX8_get_52 sh71 (by omega) (hM.2.2.1 71 (by decide) _) ?_
        refine w_iret dX8_get_53 rfl ?_
        rw [← hQ]
        exact ⟨_, rfl, by rw [r_get, if_pos ⟨h4, h13⟩, nv_nI (by omega), nv_nI (by omega), if_pos h30, nv_nI (by omega)], by rw [n_get, if_pos ⟨h4, h13⟩, nv_nI (by omega), nv_nI (by omega), if_pos h30]; exact hM, EqC.rf⟩
      · --f
        refine w_al dX8_get_33 rfl ?_
        refine w_il dX8_get_34 rfl ?_
        refine w_pi dX8_get_36 fp_X8_234 sh47 rfl rfl rfl ?_
        refine w_k dX8_get_39 ?_
        refine w_iret dX8_get_41 rfl ?_
        rw [← hQ]
        exact ⟨_, rfl, by rw [r_get, if_pos ⟨h4, h13⟩, nv_nI (by omega), nv_nI (by omega), if_neg (by omega)], by rw [n_get, if_pos ⟨h4, h13⟩, nv_nI (by omega), nv_nI (by omega), if_neg (by omega)]; exact hM.find (by omega), (EqC.w EqC.rf (by decide))⟩
    · --f
      refine w_k dX8_get_16 ?_
      refine w_iret dX8_get_18 rfl ?_
      rw [← hQ]
      exact ⟨_, rfl, by rw [r_get, if_neg (fun z => h13 z.2)], by rw [n_get, if_neg (fun z => h13 z.2)]; exact hM, EqC.rf⟩
