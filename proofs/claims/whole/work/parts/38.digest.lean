/-! THE DIGEST -/
def dgs (h : Int64) (v : Int32) : Int64 := lN 31 * h + v.toInt64
def df (f : Nat → Int64 → Int64) (h : Int64) : Nat → Int64
  | 0 => h
  | k + 1 => f k (df f h k)
theorem df_s {f : Nat → Int64 → Int64} {h : Int64} {k : Nat} : df f h (k + 1) = f k (df f h k) := rfl
theorem df_0 {f : Nat → Int64 → Int64} {h : Int64} : df f h 0 = h := rfl
def dT (k : Nat) : Nat := if k = 4 then 99 else 25 * k
theorem dT_lt {k : Nat} (h : k < 5) : dT k < 100 := by unfold dT; split <;> omega
def J9 (σ : Sg) : Nat → Nat → Nat := fun u q => jyN σ u q 10 (30 + 1 - 10)
def eC (σ : Sg) (k : Nat) (h : Int64) : Int64 := dgs h (r_count σ (nI k))
def eW (σ : Sg) (p k : Nat) (h : Int64) : Int64 := dgs h (nI (v_place σ p k))
def eP (σ : Sg) (p : Nat) (h : Int64) : Int64 := dgs (dgs (dgs h (nI (v_place σ p 0))) (nI (v_place σ p 1))) (nI (v_place σ p 2))
def eT (σ : Sg) (k : Nat) (h : Int64) : Int64 := dgs h (nI (Tn σ (dT k)))
def eR (σ : Sg) (k : Nat) (h : Int64) : Int64 := dgs (dgs (dgs (dgs (dgs (dgs h (nI (v_door σ k 50 1))) (nI (v_door σ k 50 2))) (nI (shN σ k 0 (99 + 1 - 0)))) (v_soon σ k 0 10 0)) (v_soon σ k 0 10 1)) (v_wait σ k 0)
def eA (σ : Sg) (k : Nat) (h : Int64) : Int64 := dgs (dgs h (v_ahead σ k 0 (99 + 1 - 0) 0)) (v_ahead σ k 0 (99 + 1 - 0) 1)
def eJ (σ : Sg) (k : Nat) (h : Int64) : Int64 := dgs (dgs h (nI (σ.1 63 k))) (nI (v_best (J9 σ) (nI k)))
def eHi (σ : Sg) (k : Nat) (h : Int64) : Int64 := dgs h (v_hist σ (t0 σ 20) 6 k)
def x1 (σ : Sg) : Int64 := df (eC σ) (lN 17) 8
def x2 (σ : Sg) : Int64 := dgs (x1 σ) (Flt σ)
def yP (σ : Sg) (h : Int64) : Int64 := df (eP σ) h 8
def yT (σ : Sg) (h : Int64) : Int64 := df (eT σ) h 5
def yR (σ : Sg) (h : Int64) : Int64 := df (eR σ) h 8
def yA (σ : Sg) (h : Int64) : Int64 := df (eA σ) h 5
def yJ (σ : Sg) (h : Int64) : Int64 := dgs (dgs (df (eJ σ) h 8) (nI (v_best (J9 σ) (-1)))) (nI (envC σ 10 (30 + 1 - 10) 8))
def yH (σ : Sg) (h : Int64) : Int64 := df (eHi σ) h 4
def r_digest (σ : Sg) : Int64 := dgs (dgs (dgs (yH σ (yJ σ (yA σ (yR σ (yT σ (yP σ (x2 σ))))))) ((dgS σ 0 50 8).1)) (v_meet σ 0 4 10 0)) (v_meet σ 0 4 10 1)
theorem yT_5 (σ : Sg) (h : Int64) : dgs (dgs (dgs (dgs (dgs h (nI (Tn σ 0))) (nI (Tn σ 25))) (nI (Tn σ 50))) (nI (Tn σ 75))) (nI (Tn σ 99)) = yT σ h := rfl
theorem eC_s (σ : Sg) (h : Int64) (k : Nat) : dgs (df (eC σ) h k) (r_count σ (nI k)) = df (eC σ) h (k + 1) := by rw [df_s]; rfl
theorem eW_s (σ : Sg) (p : Nat) (h : Int64) (k : Nat) : dgs (df (eW σ p) h k) (nI (v_place σ p k)) = df (eW σ p) h (k + 1) := by rw [df_s]; rfl
theorem eP_s (σ : Sg) (h : Int64) (k : Nat) : dgs (dgs (dgs (df (eP σ) h k) (nI (v_place σ k 0))) (nI (v_place σ k 1))) (nI (v_place σ k 2)) = df (eP σ) h (k + 1) := by rw [df_s]; rfl
theorem eP_w (σ : Sg) (h : Int64) (k : Nat) : df (eW σ k) (df (eP σ) h k) 3 = df (eP σ) h (k + 1) := by
  rw [show (3 : Nat) = 0 + 1 + 1 + 1 from rfl, df_s, df_s, df_s, df_s, df_0]; rfl
theorem eT_s (σ : Sg) (h : Int64) (k : Nat) : dgs (df (eT σ) h k) (nI (Tn σ (dT k))) = df (eT σ) h (k + 1) := by rw [df_s]; rfl
theorem eR_s (σ : Sg) (h : Int64) (k : Nat) : dgs (dgs (dgs (dgs (dgs (dgs (df (eR σ) h k) (nI (v_door σ k 50 1))) (nI (v_door σ k 50 2))) (nI (shN σ k 0 (99 + 1 - 0)))) (v_soon σ k 0 10 0)) (v_soon σ k 0 10 1)) (v_wait σ k 0) = df (eR σ) h (k + 1) := by rw [df_s]; rfl
theorem eA_s (σ : Sg) (h : Int64) (k : Nat) : dgs (dgs (df (eA σ) h k) (v_ahead σ k 0 (99 + 1 - 0) 0)) (v_ahead σ k 0 (99 + 1 - 0) 1) = df (eA σ) h (k + 1) := by rw [df_s]; rfl
theorem eJ_s (σ : Sg) (h : Int64) (k : Nat) : dgs (dgs (df (eJ σ) h k) (nI (σ.1 63 k))) (nI (v_best (J9 σ) (nI k))) = df (eJ σ) h (k + 1) := by rw [df_s]; rfl
theorem eHi_s (σ : Sg) (h : Int64) (k : Nat) : dgs (df (eHi σ) h k) (v_hist σ (t0 σ 20) 6 k) = df (eHi σ) h (k + 1) := by rw [df_s]; rfl
section
variable {σ : Sg} {k z : Nat}
theorem q_place (hk : k < 8) (hz : z < 3) : r_place σ (nI k) (nI z) = nI (v_place σ k z) := by
  rw [r_place, if_pos ⟨nI_inR (by omega) (by decide), nI_inR (by omega) (by decide)⟩, nv_nI (by omega), nv_nI (by omega)]
theorem q_door (hk : k < 8) (hz : z < 3) : r_door σ (nI k) (nI 50) (nI z) = nI (v_door σ k 50 z) := by
  rw [r_door, if_pos ⟨nI_inR (by omega) (by decide), nI_inR (by omega) (by decide), nI_inR (by omega) (by decide)⟩, nv_nI (a := k) (by omega), nv_nI (a := 50) (by omega), nv_nI (a := z) (by omega)]
theorem q_shine (hk : k < 8) : r_shine σ (nI k) (nI 0) (nI 99) = nI (shN σ k 0 (99 + 1 - 0)) := by
  rw [r_shine, if_pos ⟨nI_inR (by omega) (by decide), nI_inR (by omega) (by decide), nI_inR (by omega) (by decide)⟩, nv_nI (a := k) (by omega), nv_nI (a := 0) (by omega), nv_nI (a := 99) (by omega)]
theorem q_soon (hk : k < 8) : r_soon σ (nI k) (nI 0) (nI 10) = v_soon σ k 0 10 0 := by
  rw [r_soon, if_pos ⟨nI_inR (by omega) (by decide), nI_inR (by omega) (by decide), nI_inR (by omega) (by decide)⟩, nv_nI (a := k) (by omega), nv_nI (a := 0) (by omega), nv_nI (a := 10) (by omega)]
theorem q_carried (hk : k < 8) : r_carried σ (nI k) (nI 0) (nI 10) = v_soon σ k 0 10 1 := by
  rw [r_carried, if_pos ⟨nI_inR (by omega) (by decide), nI_inR (by omega) (by decide), nI_inR (by omega) (by decide)⟩, nv_nI (a := k) (by omega), nv_nI (a := 0) (by omega), nv_nI (a := 10) (by omega)]
theorem q_waits (hk : k < 8) : r_waits σ (nI k) (nI 0) = v_wait σ k 0 := by
  rw [r_waits, if_pos ⟨nI_inR (by omega) (by decide), nI_inR (by omega) (by decide)⟩, nv_nI (a := k) (by omega), nv_nI (a := 0) (by omega)]
theorem q_ahead (hk : k < 5) (hz : z < 2) : r_ahead σ (nI k) (nI 0) (nI 99) (nI z) = v_ahead σ k 0 (99 + 1 - 0) z := by
  rw [r_ahead, if_pos ⟨nI_inR (by omega) (by decide), ⟨nI_inR (by omega) (by decide), nI_inR (by omega) (by decide)⟩, nI_inR (by omega) (by decide)⟩, nv_nI (a := k) (by omega), nv_nI (a := 0) (by omega), nv_nI (a := 99) (by omega), nv_nI (a := z) (by omega)]
theorem q_hist (hk : k < 4) : r_history σ (nI 20) (nI 6) (nI k) = v_hist σ (t0 σ 20) 6 k := by
  rw [r_history, if_pos ⟨nI_inR (by omega) (by decide), nI_inR (by omega) (by decide), by decide, nI_inR (by omega) (by decide)⟩, nv_nI (a := 20) (by omega), nv_nI (a := 6) (by omega), nv_nI (a := k) (by omega)]
theorem q_dig : r_dig σ (nI 0) (nI 50) = (dgS σ 0 50 8).1 := by
  rw [r_dig, if_pos ⟨nI_inR (by omega) (by decide), nI_inR (by omega) (by decide)⟩, nv_nI (a := 0) (by omega), nv_nI (a := 50) (by omega)]
theorem q_meet (hz : z < 2) : r_meet σ (nI 0) (nI 4) (nI 10) (nI z) = v_meet σ 0 4 10 z := by
  rw [r_meet, if_pos ⟨nI_inR (by omega) (by decide), nI_inR (by omega) (by decide), by decide, nI_inR (by omega) (by decide), nI_inR (by omega) (by decide)⟩, nv_nI (a := 0) (by omega), nv_nI (a := 4) (by omega), nv_nI (a := 10) (by omega), nv_nI (a := z) (by omega)]
end
set_option maxHeartbeats 2000000 in
theorem c_X7_digestPlaces (ρ : Rho) (σ : Sg) (h : Int64) (hC : CInv σ ρ) : CallOK 2 mX7_digestPlaces [.ref 0, .long h] ρ (fun r ρ2 => ∃ v, r = some v ∧ (v = .long (yP σ h) ∧ CInv σ ρ2 ∧ EqM ρ ρ2)) := by
  refine callOK_of 3 (by decide +kernel) rfl (fun _ => Nat.le_of_ble_eq_true rfl) (ls := [some (.ref 0), some (.long h), none, none, none, none]) rfl ?_
  generalize hQ : (fun r ρ2 => ∃ v, r = some v ∧ (v = .long (yP σ h) ∧ CInv σ ρ2 ∧ EqM ρ ρ2) : Option Value → Rho → Prop) = Q
  refine w_ll dX7_digestPlaces_0 rfl ?_
  refine w_ls (ls2 := [some (.ref 0), some (.long h), none, some (.long h), none, none]) dX7_digestPlaces_1 rfl ?_
  refine w_k dX7_digestPlaces_2 ?_
  refine w_is (ls2 := [some (.ref 0), some (.long h), none, some (.long h), none, some (.int (nI 0))]) dX7_digestPlaces_3 rfl ?_
  have L5 : ∀ (n5 : Nat) (k : Nat) (ρ1 : Rho), (k ≤ 8) → (CInv σ ρ1) → (EqM ρ ρ1) → (8 - k) < n5 → MW mX7_digestPlaces 2 5 [some (.ref 0), some (.long h), none, some (.long (df (eP σ) h k)), none, some (.int (nI k))] [] ρ1 Q := by
    intro n5
    induction n5 with
    | zero =>
      intro k ρ1 hk hC1 hE1 hm5
      exact absurd hm5 (Nat.not_lt_zero _)
    | succ n5 ih5 =>
      intro k ρ1 hk hC1 hE1 hm5
      refine w_il dX7_digestPlaces_5 rfl ?_
      refine w_k dX7_digestPlaces_7 ?_
      refine w_icgeN dX7_digestPlaces_9 (by omega) (by omega) (fun h9 => ?_) (fun h9 => ?_)
      · --t
        refine w_ll dX7_digestPlaces_63 rfl ?_
        refine w_lret dX7_digestPlaces_64 rfl ?_
        rw [← hQ]
        exact ⟨_, rfl, by rw [show k = 8 by omega]; rfl, ⟨hC1.1, hC1.2.1, hC1.2.2⟩, hE1⟩
      · --f
        refine w_kl dX7_digestPlaces_12 ?_
        refine w_ll dX7_digestPlaces_15 rfl ?_
        refine w_lmul dX7_digestPlaces_16 ?_
        refine w_al dX7_digestPlaces_17 rfl ?_
        refine w_il dX7_digestPlaces_18 rfl ?_
        refine w_k dX7_digestPlaces_20 ?_
        refine w_cVr dX7_digestPlaces_21 (vl_X7_343 _ rfl) sh0 (by decide) (c_X7_place ρ1 σ (nI k) (nI 0) ⟨hC1.1, hC1.2.1, hC1.2.2⟩) rfl rfl (Nat.le_of_ble_eq_true rfl) (fun vp1 ρp1 hp1 => ?_)
        obtain ⟨rfl, hCp1, hEp1⟩ := hp1
        rw [show r_place σ (nI k) (nI 0) = (nI (v_place σ k 0)) from q_place (by omega) (by omega)]
        refine w_i2l dX7_digestPlaces_24 ?_
        refine w_ladd dX7_digestPlaces_25 ?_
        refine w_ls (ls2 := [some (.ref 0), some (.long h), none, some (.long (dgs (df (eP σ) h k) (nI (v_place σ k 0)))), none, some (.int (nI k))]) dX7_digestPlaces_26 rfl ?_
        refine w_kl dX7_digestPlaces_27 ?_
        refine w_ll dX7_digestPlaces_30 rfl ?_
        refine w_lmul dX7_digestPlaces_31 ?_
        refine w_al dX7_digestPlaces_32 rfl ?_
        refine w_il dX7_digestPlaces_33 rfl ?_
        refine w_k dX7_digestPlaces_35 ?_
        refine w_cVr dX7_digestPlaces_36 (vl_X7_343 _ rfl) sh0 (by decide) (c_X7_place ρp1 σ (nI k) (nI 1) ⟨hCp1.1, hCp1.2.1, hCp1.2.2⟩) rfl rfl (Nat.le_of_ble_eq_true rfl) (fun vp2 ρp2 hp2 => ?_)
        obtain ⟨rfl, hCp2, hEp2⟩ := hp2
        rw [show r_place σ (nI k) (nI 1) = (nI (v_place σ k 1)) from q_place (by omega) (by omega)]
        refine w_i2l dX7_digestPlaces_39 ?_
        refine w_ladd dX7_digestPlaces_40 ?_
        refine w_ls (ls2 := [some (.ref 0), some (.long h), none, some (.long (dgs (dgs (df (eP σ) h k) (nI (v_place σ k 0))) (nI (v_place σ k 1)))), none, some (.int (nI k))]) dX7_digestPlaces_41 rfl ?_
        refine w_kl dX7_digestPlaces_42 ?_
        refine w_ll dX7_digestPlaces_45 rfl ?_
        refine w_lmul dX7_digestPlaces_46 ?_
        refine w_al dX7_digestPlaces_47 rfl ?_
        refine w_il dX7_digestPlaces_48 rfl ?_
        refine w_k dX7_digestPlaces_50 ?_
        refine w_cVr dX7_digestPlaces_51 (vl_X7_343 _ rfl) sh0 (by decide) (c_X7_place ρp2 σ (nI k) (nI 2) ⟨hCp2.1, hCp2.2.1, hCp2.2.2⟩) rfl rfl (Nat.le_of_ble_eq_true rfl) (fun vp3 ρp3 hp3 => ?_)
        obtain ⟨rfl, hCp3, hEp3⟩ := hp3
        rw [show r_place σ (nI k) (nI 2) = (nI (v_place σ k 2)) from q_place (by omega) (by omega)]
        refine w_i2l dX7_digestPlaces_54 ?_
        refine w_ladd dX7_digestPlaces_55 ?_
        refine w_ls (ls2 := [some (.ref 0), some (.long h), none, some (.long (dgs (dgs (dgs (df (eP σ) h k) (nI (v_place σ k 0))) (nI (v_place σ k 1))) (nI (v_place σ k 2)))), none, some (.int (nI k))]) dX7_digestPlaces_56 rfl ?_
        refine w_iincN (ls2 := [some (.ref 0), some (.long h), none, some (.long (dgs (dgs (dgs (df (eP σ) h k) (nI (v_place σ k 0))) (nI (v_place σ k 1))) (nI (v_place σ k 2)))), none, some (.int (nI (k + 1)))]) dX7_digestPlaces_57 rfl rfl ?_
        refine w_goto dX7_digestPlaces_60 ?_
        rw [eP_s]
        exact ih5 (k + 1) ρp3 (by omega) (⟨hCp3.1, hCp3.2.1, hCp3.2.2⟩) ((EqM.tr (EqM.tr (EqM.tr hE1 hEp1) hEp2) hEp3)) (by omega)
  exact L5 _ 0 ρ (by omega) (⟨hC.1, hC.2.1, hC.2.2⟩) (EqM.rf) (Nat.lt_succ_self _)

set_option maxHeartbeats 2000000 in
theorem c_X7_digestRows (ρ : Rho) (σ : Sg) (h : Int64) (hC : CInv σ ρ) : CallOK 5 mX7_digestRows [.ref 0, .long h] ρ (fun r ρ2 => ∃ v, r = some v ∧ (v = .long (yR σ h) ∧ CInv σ ρ2 ∧ EqM ρ ρ2)) := by
  refine callOK_of 3 (by decide +kernel) rfl (fun _ => Nat.le_of_ble_eq_true rfl) (ls := [some (.ref 0), some (.long h), none, none, none, none]) rfl ?_
  generalize hQ : (fun r ρ2 => ∃ v, r = some v ∧ (v = .long (yR σ h) ∧ CInv σ ρ2 ∧ EqM ρ ρ2) : Option Value → Rho → Prop) = Q
  refine w_ll dX7_digestRows_0 rfl ?_
  refine w_ls (ls2 := [some (.ref 0), some (.long h), none, some (.long h), none, none]) dX7_digestRows_1 rfl ?_
  refine w_k dX7_digestRows_2 ?_
  refine w_is (ls2 := [some (.ref 0), some (.long h), none, some (.long h), none, some (.int (nI 0))]) dX7_digestRows_3 rfl ?_
  have L5 : ∀ (n5 : Nat) (k : Nat) (ρ1 : Rho), (k ≤ 8) → (CInv σ ρ1) → (EqM ρ ρ1) → (8 - k) < n5 → MW mX7_digestRows 5 5 [some (.ref 0), some (.long h), none, some (.long (df (eR σ) h k)), none, some (.int (nI k))] [] ρ1 Q := by
    intro n5
    induction n5 with
    | zero =>
      intro k ρ1 hk hC1 hE1 hm5
      exact absurd hm5 (Nat.not_lt_zero _)
    | succ n5 ih5 =>
      intro k ρ1 hk hC1 hE1 hm5
      refine w_il dX7_digestRows_5 rfl ?_
      refine w_k dX7_digestRows_7 ?_
      refine w_icgeN dX7_digestRows_9 (by omega) (by omega) (fun h9 => ?_) (fun h9 => ?_)
      · --t
        refine w_ll dX7_digestRows_118 rfl ?_
        refine w_lret dX7_digestRows_119 rfl ?_
        rw [← hQ]
        exact ⟨_, rfl, by rw [show k = 8 by omega]; rfl, ⟨hC1.1, hC1.2.1, hC1.2.2⟩, hE1⟩
      · --f
        refine w_kl dX7_digestRows_12 ?_
        refine w_ll dX7_digestRows_15 rfl ?_
        refine w_lmul dX7_digestRows_16 ?_
        refine w_al dX7_digestRows_17 rfl ?_
        refine w_il dX7_digestRows_18 rfl ?_
        refine w_k dX7_digestRows_20 ?_
        refine w_k dX7_digestRows_22 ?_
        refine w_cVr dX7_digestRows_23 (vl_X7_346 _ rfl) sh0 (by decide) (c_X7_door ρ1 σ (nI k) (nI 50) (nI 1) ⟨hC1.1, hC1.2.1, hC1.2.2⟩) rfl rfl (Nat.le_of_ble_eq_true rfl) (fun vp1 ρp1 hp1 => ?_)
        obtain ⟨rfl, hCp1, hEp1⟩ := hp1
        rw [show r_door σ (nI k) (nI 50) (nI 1) = (nI (v_door σ k 50 1)) from q_door (by omega) (by omega)]
        refine w_i2l dX7_digestRows_26 ?_
        refine w_ladd dX7_digestRows_27 ?_
        refine w_ls (ls2 := [some (.ref 0), some (.long h), none, some (.long (dgs (df (eR σ) h k) (nI (v_door σ k 50 1)))), none, some (.int (nI k))]) dX7_digestRows_28 rfl ?_
        refine w_kl dX7_digestRows_29 ?_
        refine w_ll dX7_digestRows_32 rfl ?_
        refine w_lmul dX7_digestRows_33 ?_
        refine w_al dX7_digestRows_34 rfl ?_
        refine w_il dX7_digestRows_35 rfl ?_
        refine w_k dX7_digestRows_37 ?_
        refine w_k dX7_digestRows_39 ?_
        refine w_cVr dX7_digestRows_40 (vl_X7_346 _ rfl) sh0 (by decide) (c_X7_door ρp1 σ (nI k) (nI 50) (nI 2) ⟨hCp1.1, hCp1.2.1, hCp1.2.2⟩) rfl rfl (Nat.le_of_ble_eq_true rfl) (fun vp2 ρp2 hp2 => ?_)
        obtain ⟨rfl, hCp2, hEp2⟩ := hp2
        rw [show r_door σ (nI k) (nI 50) (nI 2) = (nI (v_door σ k 50 2)) from q_door (by omega) (by omega)]
        refine w_i2l dX7_digestRows_43 ?_
        refine w_ladd dX7_digestRows_44 ?_
        refine w_ls (ls2 := [some (.ref 0), some (.long h), none, some (.long (dgs (dgs (df (eR σ) h k) (nI (v_door σ k 50 1))) (nI (v_door σ k 50 2)))), none, some (.int (nI k))]) dX7_digestRows_45 rfl ?_
        refine w_kl dX7_digestRows_46 ?_
        refine w_ll dX7_digestRows_49 rfl ?_
        refine w_lmul dX7_digestRows_50 ?_
        refine w_al dX7_digestRows_51 rfl ?_
        refine w_il dX7_digestRows_52 rfl ?_
        refine w_k dX7_digestRows_54 ?_
        refine w_k dX7_digestRows_55 ?_
        refine w_cVr dX7_digestRows_57 (vl_X7_349 _ rfl) sh0 (by decide) (c_X7_shine ρp2 σ (nI k) (nI 0) (nI 99) ⟨hCp2.1, hCp2.2.1, hCp2.2.2⟩) rfl rfl (Nat.le_of_ble_eq_true rfl) (fun vp3 ρp3 hp3 => ?_)
        obtain ⟨rfl, hCp3, hEp3⟩ := hp3
        rw [show r_shine σ (nI k) (nI 0) (nI 99) = (nI (shN σ k 0 (99 + 1 - 0))) from q_shine (by omega)]
        refine w_i2l dX7_digestRows_60 ?_
        refine w_ladd dX7_digestRows_61 ?_
        refine w_ls (ls2 := [some (.ref 0), some (.long h), none, some (.long (dgs (dgs (dgs (df (eR σ) h k) (nI (v_door σ k 50 1))) (nI (v_door σ k 50 2))) (nI (shN σ k 0 (99 + 1 - 0))))), none, some (.int (nI k))]) dX7_digestRows_62 rfl ?_
        refine w_kl dX7_digestRows_63 ?_
        refine w_ll dX7_digestRows_66 rfl ?_
        refine w_lmul dX7_digestRows_67 ?_
        refine w_al dX7_digestRows_68 rfl ?_
        refine w_il dX7_digestRows_69 rfl ?_
        refine w_k dX7_digestRows_71 ?_
        refine w_k dX7_digestRows_72 ?_
        refine w_cVr dX7_digestRows_74 (vl_X7_352 _ rfl) sh0 (by decide) (c_X7_soon ρp3 σ (nI k) (nI 0) (nI 10) ⟨hCp3.1, hCp3.2.1, hCp3.2.2⟩) rfl rfl (Nat.le_of_ble_eq_true rfl) (fun vp4 ρp4 hp4 => ?_)
        obtain ⟨rfl, hCp4, hEp4⟩ := hp4
        rw [show r_soon σ (nI k) (nI 0) (nI 10) = (v_soon σ k 0 10 0) from q_soon (by omega)]
        refine w_i2l dX7_digestRows_77 ?_
        refine w_ladd dX7_digestRows_78 ?_
        refine w_ls (ls2 := [some (.ref 0), some (.long h), none, some (.long (dgs (dgs (dgs (dgs (df (eR σ) h k) (nI (v_door σ k 50 1))) (nI (v_door σ k 50 2))) (nI (shN σ k 0 (99 + 1 - 0)))) (v_soon σ k 0 10 0))), none, some (.int (nI k))]) dX7_digestRows_79 rfl ?_
        refine w_kl dX7_digestRows_80 ?_
        refine w_ll dX7_digestRows_83 rfl ?_
        refine w_lmul dX7_digestRows_84 ?_
        refine w_al dX7_digestRows_85 rfl ?_
        refine w_il dX7_digestRows_86 rfl ?_
        refine w_k dX7_digestRows_88 ?_
        refine w_k dX7_digestRows_89 ?_
        refine w_cVr dX7_digestRows_91 (vl_X7_355 _ rfl) sh0 (by decide) (c_X7_carried ρp4 σ (nI k) (nI 0) (nI 10) ⟨hCp4.1, hCp4.2.1, hCp4.2.2⟩) rfl rfl (Nat.le_of_ble_eq_true rfl) (fun vp5 ρp5 hp5 => ?_)
        obtain ⟨rfl, hCp5, hEp5⟩ := hp5
        rw [show r_carried σ (nI k) (nI 0) (nI 10) = (v_soon σ k 0 10 1) from q_carried (by omega)]
        refine w_i2l dX7_digestRows_94 ?_
        refine w_ladd dX7_digestRows_95 ?_
        refine w_ls (ls2 := [some (.ref 0), some (.long h), none, some (.long (dgs (dgs (dgs (dgs (dgs (df (eR σ) h k) (nI (v_door σ k 50 1))) (nI (v_door σ k 50 2))) (nI (shN σ k 0 (99 + 1 - 0)))) (v_soon σ k 0 10 0)) (v_soon σ k 0 10 1))), none, some (.int (nI k))]) dX7_digestRows_96 rfl ?_
        refine w_kl dX7_digestRows_97 ?_
        refine w_ll dX7_digestRows_100 rfl ?_
        refine w_lmul dX7_digestRows_101 ?_
        refine w_al dX7_digestRows_102 rfl ?_
        refine w_il dX7_digestRows_103 rfl ?_
        refine w_k dX7_digestRows_105 ?_
        refine w_cVr dX7_digestRows_106 (vl_X7_358 _ rfl) sh0 (by decide) (c_X7_waits ρp5 σ (nI k) (nI 0) ⟨hCp5.1, hCp5.2.1, hCp5.2.2⟩) rfl rfl (Nat.le_of_ble_eq_true rfl) (fun vp6 ρp6 hp6 => ?_)
        obtain ⟨rfl, hCp6, hEp6⟩ := hp6
        rw [show r_waits σ (nI k) (nI 0) = (v_wait σ k 0) from q_waits (by omega)]
        refine w_i2l dX7_digestRows_109 ?_
        refine w_ladd dX7_digestRows_110 ?_
        refine w_ls (ls2 := [some (.ref 0), some (.long h), none, some (.long (dgs (dgs (dgs (dgs (dgs (dgs (df (eR σ) h k) (nI (v_door σ k 50 1))) (nI (v_door σ k 50 2))) (nI (shN σ k 0 (99 + 1 - 0)))) (v_soon σ k 0 10 0)) (v_soon σ k 0 10 1)) (v_wait σ k 0))), none, some (.int (nI k))]) dX7_digestRows_111 rfl ?_
        refine w_iincN (ls2 := [some (.ref 0), some (.long h), none, some (.long (dgs (dgs (dgs (dgs (dgs (dgs (df (eR σ) h k) (nI (v_door σ k 50 1))) (nI (v_door σ k 50 2))) (nI (shN σ k 0 (99 + 1 - 0)))) (v_soon σ k 0 10 0)) (v_soon σ k 0 10 1)) (v_wait σ k 0))), none, some (.int (nI (k + 1)))]) dX7_digestRows_112 rfl rfl ?_
        refine w_goto dX7_digestRows_115 ?_
        rw [eR_s]
        exact ih5 (k + 1) ρp6 (by omega) (⟨hCp6.1, hCp6.2.1, hCp6.2.2⟩) ((EqM.tr (EqM.tr (EqM.tr (EqM.tr (EqM.tr (EqM.tr hE1 hEp1) hEp2) hEp3) hEp4) hEp5) hEp6)) (by omega)
  exact L5 _ 0 ρ (by omega) (⟨hC.1, hC.2.1, hC.2.2⟩) (EqM.rf) (Nat.lt_succ_self _)

set_option maxHeartbeats 2000000 in
theorem c_X7_digestTenants (ρ : Rho) (σ : Sg) (h : Int64) (hC : CInv σ ρ) : CallOK 3 mX7_digestTenants [.ref 0, .long h] ρ (fun r ρ2 => ∃ v, r = some v ∧ (v = .long (yJ σ h) ∧ CInv σ ρ2 ∧ EqM ρ ρ2)) := by
  refine callOK_of 3 (by decide +kernel) rfl (fun _ => Nat.le_of_ble_eq_true rfl) (ls := [some (.ref 0), some (.long h), none, none, none, none]) rfl ?_
  generalize hQ : (fun r ρ2 => ∃ v, r = some v ∧ (v = .long (yJ σ h) ∧ CInv σ ρ2 ∧ EqM ρ ρ2) : Option Value → Rho → Prop) = Q
  refine w_ll dX7_digestTenants_0 rfl ?_
  refine w_ls (ls2 := [some (.ref 0), some (.long h), none, some (.long h), none, none]) dX7_digestTenants_1 rfl ?_
  refine w_al dX7_digestTenants_2 rfl ?_
  refine w_k dX7_digestTenants_3 ?_
  refine w_k dX7_digestTenants_5 ?_
  refine w_cVu dX7_digestTenants_7 (vl_X7_225 _ rfl) sh0 (by decide) (c_X7_reckonJoys ρ σ 10 30 hC (by omega) (by omega)) rfl rfl (Nat.le_of_ble_eq_true rfl) (fun ρj hj9 => ?_)
  obtain ⟨hFj, hJ⟩ := hj9
  refine w_al dX7_digestTenants_10 rfl ?_
  refine w_gr dX7_digestTenants_11 fl_X7_43 sh0 rfl ?_
  refine w_cVu dX7_digestTenants_14 (vl_X7_231 _ rfl) sh26 (by decide) (c_X5_findBest ρj (J9 σ) hJ (fun t q => jyN_b hC.1.1 t q 10 (30 + 1 - 10) (by omega))) rfl rfl (Nat.le_of_ble_eq_true rfl) (fun ρf hf9 => ?_)
  obtain ⟨hFf, hMf, hRf⟩ := hf9
  refine w_k dX7_digestTenants_17 ?_
  refine w_is (ls2 := [some (.ref 0), some (.long h), none, some (.long h), none, some (.int (nI 0))]) dX7_digestTenants_18 rfl ?_
  have L20 : ∀ (n20 : Nat) (k : Nat), (k ≤ 8) → (8 - k) < n20 → MW mX7_digestTenants 3 20 [some (.ref 0), some (.long h), none, some (.long (df (eJ σ) h k)), none, some (.int (nI k))] [] ρf Q := by
    intro n20
    induction n20 with
    | zero =>
      intro k hk hm20
      exact absurd hm20 (Nat.not_lt_zero _)
    | succ n20 ih20 =>
      intro k hk hm20
      refine w_il dX7_digestTenants_20 rfl ?_
      refine w_k dX7_digestTenants_22 ?_
      refine w_icgeN dX7_digestTenants_24 (by omega) (by omega) (fun h24 => ?_) (fun h24 => ?_)
      · --t
        refine w_kl dX7_digestTenants_69 ?_
        refine w_ll dX7_digestTenants_72 rfl ?_
        refine w_lmul dX7_digestTenants_73 ?_
        refine w_al dX7_digestTenants_74 rfl ?_
        refine w_gr dX7_digestTenants_75 fl_X7_43 sh0 rfl ?_
        refine w_cVf dX7_digestTenants_78 (vl_X7_234 _ rfl) sh26 (by decide) (c_X5_bestJoy ρf (v_best (J9 σ) (-1)) ((hMf 0 (by omega)).trans (by rw [v_best, if_pos rfl]))) rfl rfl (Nat.le_of_ble_eq_true rfl) ?_
        refine w_i2l dX7_digestTenants_81 ?_
        refine w_ladd dX7_digestTenants_82 ?_
        refine w_ls (ls2 := [some (.ref 0), some (.long h), none, some (.long (dgs (df (eJ σ) h k) (nI (v_best (J9 σ) (-1))))), none, some (.int (nI k))]) dX7_digestTenants_83 rfl ?_
        refine w_kl dX7_digestTenants_84 ?_
        refine w_ll dX7_digestTenants_87 rfl ?_
        refine w_lmul dX7_digestTenants_88 ?_
        refine w_al dX7_digestTenants_89 rfl ?_
        refine w_gr dX7_digestTenants_90 fl_X7_43 sh0 rfl ?_
        refine w_cVf dX7_digestTenants_93 (vl_X7_240 _ rfl) sh26 (by decide) (c_X5_envious ρf σ 10 (30 + 1 - 10) (CP.fr hC.1 (Fr.tr (Fr.sub hFj (S2 := [16, 29, 30, 31]) (by decide)) (Fr.sub hFf (S2 := [16, 29, 30, 31]) (by decide))) (by decide)) (hJ.fr hFf (by decide)) (by omega)) rfl rfl (Nat.le_of_ble_eq_true rfl) ?_
        refine w_i2l dX7_digestTenants_96 ?_
        refine w_ladd dX7_digestTenants_97 ?_
        rw [show lN 31 * (dgs (df (eJ σ) h k) (nI (v_best (J9 σ) (-1)))) + ((nI (envC σ 10 (30 + 1 - 10) 8)).toInt64) = dgs (dgs (df (eJ σ) h k) (nI (v_best (J9 σ) (-1)))) (nI (envC σ 10 (30 + 1 - 10) 8)) from rfl]
        refine w_lret dX7_digestTenants_98 rfl ?_
        rw [← hQ]
        exact ⟨_, rfl, by rw [show k = 8 by omega]; rfl, ⟨(CP.fr hC.1 (Fr.tr (Fr.sub hFj (S2 := [16, 29, 30, 31]) (by decide)) (Fr.sub hFf (S2 := [16, 29, 30, 31]) (by decide))) (by decide)), (CLd.fr hC.2.1 (Fr.tr (Fr.sub hFj (S2 := [16, 29, 30, 31]) (by decide)) (Fr.sub hFf (S2 := [16, 29, 30, 31]) (by decide))) (by decide)), (CTn.fr hC.2.2 (Fr.tr (Fr.sub hFj (S2 := [16, 29, 30, 31]) (by decide)) (Fr.sub hFf (S2 := [16, 29, 30, 31]) (by decide))) (by decide))⟩, (Fr.eqM (Fr.tr (Fr.sub hFj (S2 := [16, 29, 30, 31]) (by decide)) (Fr.sub hFf (S2 := [16, 29, 30, 31]) (by decide))) (by decide))⟩
      · --f
        refine w_kl dX7_digestTenants_27 ?_
        refine w_ll dX7_digestTenants_30 rfl ?_
        refine w_lmul dX7_digestTenants_31 ?_
        refine w_al dX7_digestTenants_32 rfl ?_
        refine w_gr dX7_digestTenants_33 fl_X7_43 sh0 rfl ?_
        refine w_gr dX7_digestTenants_36 fl_X7_218 sh26 rfl ?_
        refine w_il dX7_digestTenants_39 rfl ?_
        refine w_ialdV (v := (nI (σ.1 63 k))) dX7_digestTenants_41 sh27 (by omega) ((CP.fr hC.1 (Fr.tr (Fr.sub hFj (S2 := [16, 29, 30, 31]) (by decide)) (Fr.sub hFf (S2 := [16, 29, 30, 31]) (by decide))) (by decide)).2.1 (27, 63) (by decide) _) ?_
        refine w_i2l dX7_digestTenants_42 ?_
        refine w_ladd dX7_digestTenants_43 ?_
        refine w_ls (ls2 := [some (.ref 0), some (.long h), none, some (.long (dgs (df (eJ σ) h k) (nI (σ.1 63 k)))), none, some (.int (nI k))]) dX7_digestTenants_44 rfl ?_
        refine w_kl dX7_digestTenants_45 ?_
        refine w_ll dX7_digestTenants_48 rfl ?_
        refine w_lmul dX7_digestTenants_49 ?_
        refine w_al dX7_digestTenants_50 rfl ?_
        refine w_gr dX7_digestTenants_51 fl_X7_43 sh0 rfl ?_
        refine w_gr dX7_digestTenants_54 fl_X7_237 sh26 rfl ?_
        refine w_il dX7_digestTenants_57 rfl ?_
        refine w_ialdV (v := (nI (v_best (J9 σ) (nI k)))) dX7_digestTenants_59 sh31 (by omega) ((hRf k (by omega)).trans (by rw [v_best, if_neg (nIneg (by omega)), nv_nI (by omega)])) ?_
        refine w_i2l dX7_digestTenants_60 ?_
        refine w_ladd dX7_digestTenants_61 ?_
        refine w_ls (ls2 := [some (.ref 0), some (.long h), none, some (.long (dgs (dgs (df (eJ σ) h k) (nI (σ.1 63 k))) (nI (v_best (J9 σ) (nI k))))), none, some (.int (nI k))]) dX7_digestTenants_62 rfl ?_
        refine w_iincN (ls2 := [some (.ref 0), some (.long h), none, some (.long (dgs (dgs (df (eJ σ) h k) (nI (σ.1 63 k))) (nI (v_best (J9 σ) (nI k))))), none, some (.int (nI (k + 1)))]) dX7_digestTenants_63 rfl rfl ?_
        refine w_goto dX7_digestTenants_66 ?_
        rw [eJ_s]
        exact ih20 (k + 1) (by omega) (by omega)
  exact L20 _ 0 (by omega) (Nat.lt_succ_self _)

set_option maxHeartbeats 2000000 in
theorem c_X7_digest (ρ : Rho) (σ : Sg)  (hC : CInv σ ρ) : CallOK 6 mX7_digest [.ref 0] ρ (fun r ρ2 => ∃ v, r = some v ∧ (v = .long (r_digest σ) ∧ CInv σ ρ2 ∧ EqM ρ ρ2)) := by
  refine callOK_of 3 (by decide +kernel) rfl (fun _ => Nat.le_of_ble_eq_true rfl) (ls := [some (.ref 0), none, none, none]) rfl ?_
  generalize hQ : (fun r ρ2 => ∃ v, r = some v ∧ (v = .long (r_digest σ) ∧ CInv σ ρ2 ∧ EqM ρ ρ2) : Option Value → Rho → Prop) = Q
  refine w_kl dX7_digest_0 ?_
  refine w_ls (ls2 := [some (.ref 0), some (.long (lN 17)), none, none]) dX7_digest_3 rfl ?_
  refine w_k dX7_digest_4 ?_
  refine w_is (ls2 := [some (.ref 0), some (.long (lN 17)), none, some (.int (nI 0))]) dX7_digest_5 rfl ?_
  have L6 : ∀ (n6 : Nat) (k1 : Nat) (ρ1 : Rho), (k1 ≤ 8) → (CInv σ ρ1) → (EqM ρ ρ1) → (8 - k1) < n6 → MW mX7_digest 6 6 [some (.ref 0), some (.long (df (eC σ) (lN 17) k1)), none, some (.int (nI k1))] [] ρ1 Q := by
    intro n6
    induction n6 with
    | zero =>
      intro k1 ρ1 hk1 hC1 hE1 hm6
      exact absurd hm6 (Nat.not_lt_zero _)
    | succ n6 ih6 =>
      intro k1 ρ1 hk1 hC1 hE1 hm6
      refine w_il dX7_digest_6 rfl ?_
      refine w_k dX7_digest_7 ?_
      refine w_icgeN dX7_digest_9 (by omega) (by omega) (fun h9 => ?_) (fun h9 => ?_)
      · --t
        obtain rfl : k1 = 8 := by omega
        rw [show df (eC σ) (lN 17) 8 = x1 σ from rfl]
        refine w_kl dX7_digest_31 ?_
        refine w_ll dX7_digest_34 rfl ?_
        refine w_lmul dX7_digest_35 ?_
        refine w_al dX7_digest_36 rfl ?_
        refine w_gr dX7_digest_37 fl_X7_10 sh0 rfl ?_
        refine w_giV (v := (Flt σ)) dX7_digest_40 fl_X7_73 sh1 rfl (hC1.2.1.2.2.2.2) ?_
        refine w_i2l dX7_digest_43 ?_
        refine w_ladd dX7_digest_44 ?_
        refine w_ls (ls2 := [some (.ref 0), some (.long (dgs (x1 σ) (Flt σ))), none, some (.int (nI 8))]) dX7_digest_45 rfl ?_
        rw [show dgs (x1 σ) (Flt σ) = x2 σ from rfl]
        refine w_al dX7_digest_46 rfl ?_
        refine w_ll dX7_digest_47 rfl ?_
        refine w_cVr dX7_digest_48 (vl_X7_320 _ rfl) sh0 (by decide) (c_X7_digestPlaces ρ1 σ (x2 σ) ⟨hC1.1, hC1.2.1, hC1.2.2⟩) rfl rfl (Nat.le_of_ble_eq_true rfl) (fun vp1 ρp1 hp1 => ?_)
        obtain ⟨rfl, hCp1, hEp1⟩ := hp1
        refine w_ls (ls2 := [some (.ref 0), some (.long (yP σ (x2 σ))), none, some (.int (nI 8))]) dX7_digest_51 rfl ?_
        refine w_kl dX7_digest_52 ?_
        refine w_ll dX7_digest_55 rfl ?_
        refine w_lmul dX7_digest_56 ?_
        refine w_al dX7_digest_57 rfl ?_
        refine w_gr dX7_digest_58 fl_X7_19 sh0 rfl ?_
        refine w_gr dX7_digest_61 fl_X7_98 sh10 rfl ?_
        refine w_k dX7_digest_64 ?_
        refine w_ialdV (v := (nI (Tn σ 0))) dX7_digest_65 sh15 (by omega) (hCp1.2.2 _ (by omega)) ?_
        refine w_i2l dX7_digest_66 ?_
        refine w_ladd dX7_digest_67 ?_
        refine w_ls (ls2 := [some (.ref 0), some (.long (dgs (yP σ (x2 σ)) (nI (Tn σ 0)))), none, some (.int (nI 8))]) dX7_digest_68 rfl ?_
        refine w_kl dX7_digest_69 ?_
        refine w_ll dX7_digest_72 rfl ?_
        refine w_lmul dX7_digest_73 ?_
        refine w_al dX7_digest_74 rfl ?_
        refine w_gr dX7_digest_75 fl_X7_19 sh0 rfl ?_
        refine w_gr dX7_digest_78 fl_X7_98 sh10 rfl ?_
        refine w_k dX7_digest_81 ?_
        refine w_ialdV (v := (nI (Tn σ 25))) dX7_digest_83 sh15 (by omega) (hCp1.2.2 _ (by omega)) ?_
        refine w_i2l dX7_digest_84 ?_
        refine w_ladd dX7_digest_85 ?_
        refine w_ls (ls2 := [some (.ref 0), some (.long (dgs (dgs (yP σ (x2 σ)) (nI (Tn σ 0))) (nI (Tn σ 25)))), none, some (.int (nI 8))]) dX7_digest_86 rfl ?_
        refine w_kl dX7_digest_87 ?_
        refine w_ll dX7_digest_90 rfl ?_
        refine w_lmul dX7_digest_91 ?_
        refine w_al dX7_digest_92 rfl ?_
        refine w_gr dX7_digest_93 fl_X7_19 sh0 rfl ?_
        refine w_gr dX7_digest_96 fl_X7_98 sh10 rfl ?_
        refine w_k dX7_digest_99 ?_
        refine w_ialdV (v := (nI (Tn σ 50))) dX7_digest_101 sh15 (by omega) (hCp1.2.2 _ (by omega)) ?_
        refine w_i2l dX7_digest_102 ?_
        refine w_ladd dX7_digest_103 ?_
        refine w_ls (ls2 := [some (.ref 0), some (.long (dgs (dgs (dgs (yP σ (x2 σ)) (nI (Tn σ 0))) (nI (Tn σ 25))) (nI (Tn σ 50)))), none, some (.int (nI 8))]) dX7_digest_104 rfl ?_
        refine w_kl dX7_digest_105 ?_
        refine w_ll dX7_digest_108 rfl ?_
        refine w_lmul dX7_digest_109 ?_
        refine w_al dX7_digest_110 rfl ?_
        refine w_gr dX7_digest_111 fl_X7_19 sh0 rfl ?_
        refine w_gr dX7_digest_114 fl_X7_98 sh10 rfl ?_
        refine w_k dX7_digest_117 ?_
        refine w_ialdV (v := (nI (Tn σ 75))) dX7_digest_119 sh15 (by omega) (hCp1.2.2 _ (by omega)) ?_
        refine w_i2l dX7_digest_120 ?_
        refine w_ladd dX7_digest_121 ?_
        refine w_ls (ls2 := [some (.ref 0), some (.long (dgs (dgs (dgs (dgs (yP σ (x2 σ)) (nI (Tn σ 0))) (nI (Tn σ 25))) (nI (Tn σ 50))) (nI (Tn σ 75)))), none, some (.int (nI 8))]) dX7_digest_122 rfl ?_
        refine w_kl dX7_digest_123 ?_
        refine w_ll dX7_digest_126 rfl ?_
        refine w_lmul dX7_digest_127 ?_
        refine w_al dX7_digest_128 rfl ?_
        refine w_gr dX7_digest_129 fl_X7_19 sh0 rfl ?_
        refine w_gr dX7_digest_132 fl_X7_98 sh10 rfl ?_
        refine w_k dX7_digest_135 ?_
        refine w_ialdV (v := (nI (Tn σ 99))) dX7_digest_137 sh15 (by omega) (hCp1.2.2 _ (by omega)) ?_
        refine w_i2l dX7_digest_138 ?_
        refine w_ladd dX7_digest_139 ?_
        refine w_ls (ls2 := [some (.ref 0), some (.long (dgs (dgs (dgs (dgs (dgs (yP σ (x2 σ)) (nI (Tn σ 0))) (nI (Tn σ 25))) (nI (Tn σ 50))) (nI (Tn σ 75))) (nI (Tn σ 99)))), none, some (.int (nI 8))]) dX7_digest_140 rfl ?_
        rw [yT_5]
        refine w_al dX7_digest_141 rfl ?_
        refine w_ll dX7_digest_142 rfl ?_
        refine w_cVr dX7_digest_143 (vl_X7_324 _ rfl) sh0 (by decide) (c_X7_digestRows ρp1 σ (yT σ (yP σ (x2 σ))) ⟨hCp1.1, hCp1.2.1, hCp1.2.2⟩) rfl rfl (Nat.le_of_ble_eq_true rfl) (fun vp2 ρp2 hp2 => ?_)
        obtain ⟨rfl, hCp2, hEp2⟩ := hp2
        refine w_ls (ls2 := [some (.ref 0), some (.long (yR σ (yT σ (yP σ (x2 σ))))), none, some (.int (nI 8))]) dX7_digest_146 rfl ?_
        refine w_k dX7_digest_147 ?_
        refine w_is (ls2 := [some (.ref 0), some (.long (yR σ (yT σ (yP σ (x2 σ))))), none, some (.int (nI 0))]) dX7_digest_148 rfl ?_
        have L149 : ∀ (n149 : Nat) (k2 : Nat) (ρ2 : Rho), (k2 ≤ 5) → (CInv σ ρ2) → (EqM ρ ρ2) → (5 - k2) < n149 → MW mX7_digest 6 149 [some (.ref 0), some (.long (df (eA σ) (yR σ (yT σ (yP σ (x2 σ)))) k2)), none, some (.int (nI k2))] [] ρ2 Q := by
          intro n149
          induction n149 with
          | zero =>
            intro k2 ρ2 hk2 hC2 hE2 hm149
            exact absurd hm149 (Nat.not_lt_zero _)
          | succ n149 ih149 =>
            intro k2 ρ2 hk2 hC2 hE2 hm149
            refine w_il dX7_digest_149 rfl ?_
            refine w_k dX7_digest_150 ?_
            refine w_icgeN dX7_digest_151 (by omega) (by omega) (fun h151 => ?_) (fun h151 => ?_)
            · --t
              obtain rfl : k2 = 5 := by omega
              rw [show df (eA σ) (yR σ (yT σ (yP σ (x2 σ)))) 5 = yA σ (yR σ (yT σ (yP σ (x2 σ)))) from rfl]
              refine w_al dX7_digest_194 rfl ?_
              refine w_ll dX7_digest_195 rfl ?_
              refine w_cVr dX7_digest_196 (vl_X7_331 _ rfl) sh0 (by decide) (c_X7_digestTenants ρ2 σ (yA σ (yR σ (yT σ (yP σ (x2 σ))))) ⟨hC2.1, hC2.2.1, hC2.2.2⟩) rfl rfl (Nat.le_of_ble_eq_true rfl) (fun vp3 ρp3 hp3 => ?_)
              obtain ⟨rfl, hCp3, hEp3⟩ := hp3
              refine w_ls (ls2 := [some (.ref 0), some (.long (yJ σ (yA σ (yR σ (yT σ (yP σ (x2 σ))))))), none, some (.int (nI 5))]) dX7_digest_199 rfl ?_
              refine w_k dX7_digest_200 ?_
              refine w_is (ls2 := [some (.ref 0), some (.long (yJ σ (yA σ (yR σ (yT σ (yP σ (x2 σ))))))), none, some (.int (nI 0))]) dX7_digest_201 rfl ?_
              have L202 : ∀ (n202 : Nat) (k3 : Nat) (ρ3 : Rho), (k3 ≤ 4) → (CInv σ ρ3) → (EqM ρ ρ3) → (4 - k3) < n202 → MW mX7_digest 6 202 [some (.ref 0), some (.long (df (eHi σ) (yJ σ (yA σ (yR σ (yT σ (yP σ (x2 σ)))))) k3)), none, some (.int (nI k3))] [] ρ3 Q := by
                intro n202
                induction n202 with
                | zero =>
                  intro k3 ρ3 hk3 hC3 hE3 hm202
                  exact absurd hm202 (Nat.not_lt_zero _)
                | succ n202 ih202 =>
                  intro k3 ρ3 hk3 hC3 hE3 hm202
                  refine w_il dX7_digest_202 rfl ?_
                  refine w_k dX7_digest_203 ?_
                  refine w_icgeN dX7_digest_204 (by omega) (by omega) (fun h204 => ?_) (fun h204 => ?_)
                  · --t
                    obtain rfl : k3 = 4 := by omega
                    rw [show df (eHi σ) (yJ σ (yA σ (yR σ (yT σ (yP σ (x2 σ)))))) 4 = yH σ (yJ σ (yA σ (yR σ (yT σ (yP σ (x2 σ)))))) from rfl]
                    refine w_kl dX7_digest_230 ?_
                    refine w_ll dX7_digest_233 rfl ?_
                    refine w_lmul dX7_digest_234 ?_
                    refine w_al dX7_digest_235 rfl ?_
                    refine w_k dX7_digest_236 ?_
                    refine w_k dX7_digest_237 ?_
                    refine w_cVr dX7_digest_239 (vl_X7_337 _ rfl) sh0 (by decide) (c_X7_dig ρ3 σ (nI 0) (nI 50) ⟨hC3.1, hC3.2.1, hC3.2.2⟩) rfl rfl (Nat.le_of_ble_eq_true rfl) (fun vp4 ρp4 hp4 => ?_)
                    obtain ⟨rfl, hCp4, hEp4⟩ := hp4
                    rw [show r_dig σ (nI 0) (nI 50) = ((dgS σ 0 50 8).1) from q_dig]
                    refine w_i2l dX7_digest_242 ?_
                    refine w_ladd dX7_digest_243 ?_
                    refine w_ls (ls2 := [some (.ref 0), some (.long (dgs (yH σ (yJ σ (yA σ (yR σ (yT σ (yP σ (x2 σ))))))) ((dgS σ 0 50 8).1))), none, some (.int (nI 4))]) dX7_digest_244 rfl ?_
                    refine w_kl dX7_digest_245 ?_
                    refine w_ll dX7_digest_248 rfl ?_
                    refine w_lmul dX7_digest_249 ?_
                    refine w_al dX7_digest_250 rfl ?_
                    refine w_k dX7_digest_251 ?_
                    refine w_k dX7_digest_252 ?_
                    refine w_k dX7_digest_253 ?_
                    refine w_k dX7_digest_255 ?_
                    refine w_cVr dX7_digest_256 (vl_X7_340 _ rfl) sh0 (by decide) (c_X7_meet ρp4 σ (nI 0) (nI 4) (nI 10) (nI 0) ⟨hCp4.1, hCp4.2.1, hCp4.2.2⟩) rfl rfl (Nat.le_of_ble_eq_true rfl) (fun vp5 ρp5 hp5 => ?_)
                    obtain ⟨rfl, hCp5, hEp5⟩ := hp5
                    rw [show r_meet σ (nI 0) (nI 4) (nI 10) (nI 0) = (v_meet σ 0 4 10 0) from q_meet (by omega)]
                    refine w_i2l dX7_digest_259 ?_
                    refine w_ladd dX7_digest_260 ?_
                    refine w_ls (ls2 := [some (.ref 0), some (.long (dgs (dgs (yH σ (yJ σ (yA σ (yR σ (yT σ (yP σ (x2 σ))))))) ((dgS σ 0 50 8).1)) (v_meet σ 0 4 10 0))), none, some (.int (nI 4))]) dX7_digest_261 rfl ?_
                    refine w_kl dX7_digest_262 ?_
                    refine w_ll dX7_digest_265 rfl ?_
                    refine w_lmul dX7_digest_266 ?_
                    refine w_al dX7_digest_267 rfl ?_
                    refine w_k dX7_digest_268 ?_
                    refine w_k dX7_digest_269 ?_
                    refine w_k dX7_digest_270 ?_
                    refine w_k dX7_digest_272 ?_
                    refine w_cVr dX7_digest_273 (vl_X7_340 _ rfl) sh0 (by decide) (c_X7_meet ρp5 σ (nI 0) (nI 4) (nI 10) (nI 1) ⟨hCp5.1, hCp5.2.1, hCp5.2.2⟩) rfl rfl (Nat.le_of_ble_eq_true rfl) (fun vp6 ρp6 hp6 => ?_)
                    obtain ⟨rfl, hCp6, hEp6⟩ := hp6
                    rw [show r_meet σ (nI 0) (nI 4) (nI 10) (nI 1) = (v_meet σ 0 4 10 1) from q_meet (by omega)]
                    refine w_i2l dX7_digest_276 ?_
                    refine w_ladd dX7_digest_277 ?_
                    rw [show lN 31 * (dgs (dgs (yH σ (yJ σ (yA σ (yR σ (yT σ (yP σ (x2 σ))))))) ((dgS σ 0 50 8).1)) (v_meet σ 0 4 10 0)) + ((v_meet σ 0 4 10 1).toInt64) = dgs (dgs (dgs (yH σ (yJ σ (yA σ (yR σ (yT σ (yP σ (x2 σ))))))) ((dgS σ 0 50 8).1)) (v_meet σ 0 4 10 0)) (v_meet σ 0 4 10 1) from rfl]
                    refine w_lret dX7_digest_278 rfl ?_
                    rw [← hQ]
                    exact ⟨_, rfl, rfl, ⟨hCp6.1, hCp6.2.1, hCp6.2.2⟩, (EqM.tr (EqM.tr (EqM.tr hE3 hEp4) hEp5) hEp6)⟩
                  · --f
                    refine w_kl dX7_digest_207 ?_
                    refine w_ll dX7_digest_210 rfl ?_
                    refine w_lmul dX7_digest_211 ?_
                    refine w_al dX7_digest_212 rfl ?_
                    refine w_k dX7_digest_213 ?_
                    refine w_k dX7_digest_215 ?_
                    refine w_il dX7_digest_217 rfl ?_
                    refine w_cVr dX7_digest_218 (vl_X7_334 _ rfl) sh0 (by decide) (c_X7_history ρ3 σ (nI 20) (nI 6) (nI k3) ⟨hC3.1, hC3.2.1, hC3.2.2⟩) rfl rfl (Nat.le_of_ble_eq_true rfl) (fun vp7 ρp7 hp7 => ?_)
                    obtain ⟨rfl, hCp7, hEp7⟩ := hp7
                    rw [show r_history σ (nI 20) (nI 6) (nI k3) = (v_hist σ (t0 σ 20) 6 k3) from q_hist (by omega)]
                    refine w_i2l dX7_digest_221 ?_
                    refine w_ladd dX7_digest_222 ?_
                    refine w_ls (ls2 := [some (.ref 0), some (.long (dgs (df (eHi σ) (yJ σ (yA σ (yR σ (yT σ (yP σ (x2 σ)))))) k3) (v_hist σ (t0 σ 20) 6 k3))), none, some (.int (nI k3))]) dX7_digest_223 rfl ?_
                    refine w_iincN (ls2 := [some (.ref 0), some (.long (dgs (df (eHi σ) (yJ σ (yA σ (yR σ (yT σ (yP σ (x2 σ)))))) k3) (v_hist σ (t0 σ 20) 6 k3))), none, some (.int (nI (k3 + 1)))]) dX7_digest_224 rfl rfl ?_
                    refine w_goto dX7_digest_227 ?_
                    rw [eHi_s]
                    exact ih202 (k3 + 1) ρp7 (by omega) (⟨hCp7.1, hCp7.2.1, hCp7.2.2⟩) ((EqM.tr hE3 hEp7)) (by omega)
              rw [show yJ σ (yA σ (yR σ (yT σ (yP σ (x2 σ))))) = df (eHi σ) (yJ σ (yA σ (yR σ (yT σ (yP σ (x2 σ)))))) 0 from df_0.symm]
              exact L202 _ 0 ρp3 (by omega) (⟨hCp3.1, hCp3.2.1, hCp3.2.2⟩) ((EqM.tr hE2 hEp3)) (Nat.lt_succ_self _)
            · --f
              refine w_kl dX7_digest_154 ?_
              refine w_ll dX7_digest_157 rfl ?_
              refine w_lmul dX7_digest_158 ?_
              refine w_al dX7_digest_159 rfl ?_
              refine w_il dX7_digest_160 rfl ?_
              refine w_k dX7_digest_161 ?_
              refine w_k dX7_digest_162 ?_
              refine w_k dX7_digest_164 ?_
              refine w_cVr dX7_digest_165 (vl_X7_327 _ rfl) sh0 (by decide) (c_X7_ahead ρ2 σ (nI k2) (nI 0) (nI 99) (nI 0) ⟨hC2.1, hC2.2.1, hC2.2.2⟩) rfl rfl (Nat.le_of_ble_eq_true rfl) (fun vp8 ρp8 hp8 => ?_)
              obtain ⟨rfl, hCp8, hEp8⟩ := hp8
              rw [show r_ahead σ (nI k2) (nI 0) (nI 99) (nI 0) = (v_ahead σ k2 0 (99 + 1 - 0) 0) from q_ahead (by omega) (by omega)]
              refine w_i2l dX7_digest_168 ?_
              refine w_ladd dX7_digest_169 ?_
              refine w_ls (ls2 := [some (.ref 0), some (.long (dgs (df (eA σ) (yR σ (yT σ (yP σ (x2 σ)))) k2) (v_ahead σ k2 0 (99 + 1 - 0) 0))), none, some (.int (nI k2))]) dX7_digest_170 rfl ?_
              refine w_kl dX7_digest_171 ?_
              refine w_ll dX7_digest_174 rfl ?_
              refine w_lmul dX7_digest_175 ?_
              refine w_al dX7_digest_176 rfl ?_
              refine w_il dX7_digest_177 rfl ?_
              refine w_k dX7_digest_178 ?_
              refine w_k dX7_digest_179 ?_
              refine w_k dX7_digest_181 ?_
              refine w_cVr dX7_digest_182 (vl_X7_327 _ rfl) sh0 (by decide) (c_X7_ahead ρp8 σ (nI k2) (nI 0) (nI 99) (nI 1) ⟨hCp8.1, hCp8.2.1, hCp8.2.2⟩) rfl rfl (Nat.le_of_ble_eq_true rfl) (fun vp9 ρp9 hp9 => ?_)
              obtain ⟨rfl, hCp9, hEp9⟩ := hp9
              rw [show r_ahead σ (nI k2) (nI 0) (nI 99) (nI 1) = (v_ahead σ k2 0 (99 + 1 - 0) 1) from q_ahead (by omega) (by omega)]
              refine w_i2l dX7_digest_185 ?_
              refine w_ladd dX7_digest_186 ?_
              refine w_ls (ls2 := [some (.ref 0), some (.long (dgs (dgs (df (eA σ) (yR σ (yT σ (yP σ (x2 σ)))) k2) (v_ahead σ k2 0 (99 + 1 - 0) 0)) (v_ahead σ k2 0 (99 + 1 - 0) 1))), none, some (.int (nI k2))]) dX7_digest_187 rfl ?_
              refine w_iincN (ls2 := [some (.ref 0), some (.long (dgs (dgs (df (eA σ) (yR σ (yT σ (yP σ (x2 σ)))) k2) (v_ahead σ k2 0 (99 + 1 - 0) 0)) (v_ahead σ k2 0 (99 + 1 - 0) 1))), none, some (.int (nI (k2 + 1)))]) dX7_digest_188 rfl rfl ?_
              refine w_goto dX7_digest_191 ?_
              rw [eA_s]
              exact ih149 (k2 + 1) ρp9 (by omega) (⟨hCp9.1, hCp9.2.1, hCp9.2.2⟩) ((EqM.tr (EqM.tr hE2 hEp8) hEp9)) (by omega)
        rw [show yR σ (yT σ (yP σ (x2 σ))) = df (eA σ) (yR σ (yT σ (yP σ (x2 σ)))) 0 from df_0.symm]
        exact L149 _ 0 ρp2 (by omega) (⟨hCp2.1, hCp2.2.1, hCp2.2.2⟩) ((EqM.tr (EqM.tr hE1 hEp1) hEp2)) (Nat.lt_succ_self _)
      · --f
        refine w_kl dX7_digest_12 ?_
        refine w_ll dX7_digest_15 rfl ?_
        refine w_lmul dX7_digest_16 ?_
        refine w_al dX7_digest_17 rfl ?_
        refine w_il dX7_digest_18 rfl ?_
        refine w_cVr dX7_digest_19 (vl_X7_317 _ rfl) sh0 (by decide) (c_X7_count ρ1 σ (nI k1) ⟨hC1.1, hC1.2.1, hC1.2.2⟩) rfl rfl (Nat.le_of_ble_eq_true rfl) (fun vp10 ρp10 hp10 => ?_)
        obtain ⟨rfl, hCp10, hEp10⟩ := hp10
        refine w_i2l dX7_digest_22 ?_
        refine w_ladd dX7_digest_23 ?_
        refine w_ls (ls2 := [some (.ref 0), some (.long (dgs (df (eC σ) (lN 17) k1) (r_count σ (nI k1)))), none, some (.int (nI k1))]) dX7_digest_24 rfl ?_
        refine w_iincN (ls2 := [some (.ref 0), some (.long (dgs (df (eC σ) (lN 17) k1) (r_count σ (nI k1)))), none, some (.int (nI (k1 + 1)))]) dX7_digest_25 rfl rfl ?_
        refine w_goto dX7_digest_28 ?_
        rw [eC_s]
        exact ih6 (k1 + 1) ρp10 (by omega) (⟨hCp10.1, hCp10.2.1, hCp10.2.2⟩) ((EqM.tr hE1 hEp10)) (by omega)
  exact L6 _ 0 ρ (by omega) (⟨hC.1, hC.2.1, hC.2.2⟩) (EqM.rf) (Nat.lt_succ_self _)

set_option maxHeartbeats 2000000 in
theorem c_X8_digest (ρ : Rho) (σ : Sg) (hM : MInv σ ρ) : CallOK 7 mX8_digest [.ref 47] ρ (fun r ρ2 => ∃ v, r = some v ∧ (v = .long (r_digest σ) ∧ MInv σ ρ2 ∧ EqC ρ ρ2)) := by
  refine callOK_of 4 (by decide +kernel) rfl (fun _ => Nat.le_of_ble_eq_true rfl) (ls := [some (.ref 47), none, none, none, none]) rfl ?_
  generalize hQ : (fun r ρ2 => ∃ v, r = some v ∧ (v = .long (r_digest σ) ∧ MInv σ ρ2 ∧ EqC ρ ρ2) : Option Value → Rho → Prop) = Q
  refine w_kl dX8_digest_0 ?_
  refine w_ls (ls2 := [some (.ref 47), some (.long (lN 17)), none, none, none]) dX8_digest_3 rfl ?_
  refine w_k dX8_digest_4 ?_
  refine w_is (ls2 := [some (.ref 47), some (.long (lN 17)), none, some (.int (nI 0)), none]) dX8_digest_5 rfl ?_
  have L6 : ∀ (n6 : Nat) (k1 : Nat) (ρ1 : Rho), (k1 ≤ 8) → (MInv σ ρ1) → (EqC ρ ρ1) → (8 - k1) < n6 → MW mX8_digest 7 6 [some (.ref 47), some (.long (df (eC σ) (lN 17) k1)), none, some (.int (nI k1)), none] [] ρ1 Q := by
    intro n6
    induction n6 with
    | zero =>
      intro k1 ρ1 hk1 hM1 hE1 hm6
      exact absurd hm6 (Nat.not_lt_zero _)
    | succ n6 ih6 =>
      intro k1 ρ1 hk1 hM1 hE1 hm6
      refine w_il dX8_digest_6 rfl ?_
      refine w_k dX8_digest_7 ?_
      refine w_icgeN dX8_digest_9 (by omega) (by omega) (fun h9 => ?_) (fun h9 => ?_)
      · --t
        obtain rfl : k1 = 8 := by omega
        rw [show df (eC σ) (lN 17) 8 = x1 σ from rfl]
        refine w_kl dX8_digest_31 ?_
        refine w_ll dX8_digest_34 rfl ?_
        refine w_lmul dX8_digest_35 ?_
        refine w_al dX8_digest_36 rfl ?_
        refine w_cVr dX8_digest_37 (vl_X8_115 _ rfl) sh47 (by decide) (c_X8_faultNow ρ1 σ hM1) rfl rfl (Nat.le_of_ble_eq_true rfl) (fun vf1 ρf1 hf1 => ?_)
        obtain ⟨rfl, hMf1, hEf1, hLf1⟩ := hf1
        refine w_i2l dX8_digest_40 ?_
        refine w_ladd dX8_digest_41 ?_
        refine w_ls (ls2 := [some (.ref 47), some (.long (dgs (x1 σ) (Flt σ))), none, some (.int (nI 8)), none]) dX8_digest_42 rfl ?_
        rw [show dgs (x1 σ) (Flt σ) = x2 σ from rfl]
        refine w_k dX8_digest_43 ?_
        refine w_is (ls2 := [some (.ref 47), some (.long (x2 σ)), none, some (.int (nI 0)), none]) dX8_digest_44 rfl ?_
        have L45 : ∀ (n45 : Nat) (k2 : Nat) (ρ2 : Rho), (k2 ≤ 8) → (MInv σ ρ2) → (EqC ρ ρ2) → (8 - k2) < n45 → MW mX8_digest 7 45 [some (.ref 47), some (.long (df (eP σ) (x2 σ) k2)), none, some (.int (nI k2)), none] [] ρ2 Q := by
          intro n45
          induction n45 with
          | zero =>
            intro k2 ρ2 hk2 hM2 hE2 hm45
            exact absurd hm45 (Nat.not_lt_zero _)
          | succ n45 ih45 =>
            intro k2 ρ2 hk2 hM2 hE2 hm45
            refine w_il dX8_digest_45 rfl ?_
            refine w_k dX8_digest_46 ?_
            refine w_icgeN dX8_digest_48 (by omega) (by omega) (fun h48 => ?_) (fun h48 => ?_)
            · --t
              obtain rfl : k2 = 8 := by omega
              rw [show df (eP σ) (x2 σ) 8 = yP σ (x2 σ) from rfl]
              refine w_k dX8_digest_87 ?_
              refine w_is (ls2 := [some (.ref 47), some (.long (yP σ (x2 σ))), none, some (.int (nI 0)), none]) dX8_digest_88 rfl ?_
              have L89 : ∀ (n89 : Nat) (k3 : Nat) (ρ3 : Rho), (k3 ≤ 5) → (MInv σ ρ3) → (EqC ρ ρ3) → (5 - k3) < n89 → MW mX8_digest 7 89 [some (.ref 47), some (.long (df (eT σ) (yP σ (x2 σ)) k3)), none, some (.int (nI k3)), none] [] ρ3 Q := by
                intro n89
                induction n89 with
                | zero =>
                  intro k3 ρ3 hk3 hM3 hE3 hm89
                  exact absurd hm89 (Nat.not_lt_zero _)
                | succ n89 ih89 =>
                  intro k3 ρ3 hk3 hM3 hE3 hm89
                  refine w_il dX8_digest_89 rfl ?_
                  refine w_k dX8_digest_90 ?_
                  refine w_icgeN dX8_digest_91 (by omega) (by omega) (fun h91 => ?_) (fun h91 => ?_)
                  · --t
                    obtain rfl : k3 = 5 := by omega
                    rw [show df (eT σ) (yP σ (x2 σ)) 5 = yT σ (yP σ (x2 σ)) from rfl]
                    refine w_k dX8_digest_126 ?_
                    refine w_is (ls2 := [some (.ref 47), some (.long (yT σ (yP σ (x2 σ)))), none, some (.int (nI 0)), none]) dX8_digest_127 rfl ?_
                    have L128 : ∀ (n128 : Nat) (k4 : Nat) (ρ4 : Rho), (k4 ≤ 8) → (MInv σ ρ4) → (EqC ρ ρ4) → (8 - k4) < n128 → MW mX8_digest 7 128 [some (.ref 47), some (.long (df (eR σ) (yT σ (yP σ (x2 σ))) k4)), none, some (.int (nI k4)), none] [] ρ4 Q := by
                      intro n128
                      induction n128 with
                      | zero =>
                        intro k4 ρ4 hk4 hM4 hE4 hm128
                        exact absurd hm128 (Nat.not_lt_zero _)
                      | succ n128 ih128 =>
                        intro k4 ρ4 hk4 hM4 hE4 hm128
                        refine w_il dX8_digest_128 rfl ?_
                        refine w_k dX8_digest_129 ?_
                        refine w_icgeN dX8_digest_131 (by omega) (by omega) (fun h131 => ?_) (fun h131 => ?_)
                        · --t
                          obtain rfl : k4 = 8 := by omega
                          rw [show df (eR σ) (yT σ (yP σ (x2 σ))) 8 = yR σ (yT σ (yP σ (x2 σ))) from rfl]
                          refine w_k dX8_digest_236 ?_
                          refine w_is (ls2 := [some (.ref 47), some (.long (yR σ (yT σ (yP σ (x2 σ))))), none, some (.int (nI 0)), none]) dX8_digest_237 rfl ?_
                          have L238 : ∀ (n238 : Nat) (k5 : Nat) (ρ5 : Rho), (k5 ≤ 5) → (MInv σ ρ5) → (EqC ρ ρ5) → (5 - k5) < n238 → MW mX8_digest 7 238 [some (.ref 47), some (.long (df (eA σ) (yR σ (yT σ (yP σ (x2 σ)))) k5)), none, some (.int (nI k5)), none] [] ρ5 Q := by
                            intro n238
                            induction n238 with
                            | zero =>
                              intro k5 ρ5 hk5 hM5 hE5 hm238
                              exact absurd hm238 (Nat.not_lt_zero _)
                            | succ n238 ih238 =>
                              intro k5 ρ5 hk5 hM5 hE5 hm238
                              refine w_il dX8_digest_238 rfl ?_
                              refine w_k dX8_digest_239 ?_
                              refine w_icgeN dX8_digest_240 (by omega) (by omega) (fun h240 => ?_) (fun h240 => ?_)
                              · --t
                                obtain rfl : k5 = 5 := by omega
                                rw [show df (eA σ) (yR σ (yT σ (yP σ (x2 σ)))) 5 = yA σ (yR σ (yT σ (yP σ (x2 σ)))) from rfl]
                                refine w_k dX8_digest_283 ?_
                                refine w_is (ls2 := [some (.ref 47), some (.long (yA σ (yR σ (yT σ (yP σ (x2 σ)))))), none, some (.int (nI 0)), none]) dX8_digest_284 rfl ?_
                                have L285 : ∀ (n285 : Nat) (k6 : Nat) (ρ6 : Rho), (k6 ≤ 8) → (MInv σ ρ6) → (EqC ρ ρ6) → (8 - k6) < n285 → MW mX8_digest 7 285 [some (.ref 47), some (.long (df (eJ σ) (yA σ (yR σ (yT σ (yP σ (x2 σ))))) k6)), none, some (.int (nI k6)), none] [] ρ6 Q := by
                                  intro n285
                                  induction n285 with
                                  | zero =>
                                    intro k6 ρ6 hk6 hM6 hE6 hm285
                                    exact absurd hm285 (Nat.not_lt_zero _)
                                  | succ n285 ih285 =>
                                    intro k6 ρ6 hk6 hM6 hE6 hm285
                                    refine w_il dX8_digest_285 rfl ?_
                                    refine w_k dX8_digest_286 ?_
                                    refine w_icgeN dX8_digest_288 (by omega) (by omega) (fun h288 => ?_) (fun h288 => ?_)
                                    · --t
                                      obtain rfl : k6 = 8 := by omega
                                      refine w_kl dX8_digest_328 ?_
                                      refine w_ll dX8_digest_331 rfl ?_
                                      refine w_lmul dX8_digest_332 ?_
                                      refine w_al dX8_digest_333 rfl ?_
                                      refine w_k dX8_digest_334 ?_
                                      refine w_k dX8_digest_335 ?_
                                      refine w_k dX8_digest_337 ?_
                                      refine w_cVr dX8_digest_339 (vl_X8_219 _ rfl) sh47 (by decide) (c_X8_bestOf ρ6 σ (-1) 10 30 hM6 (Or.inl rfl) (by omega) (by omega)) rfl rfl (Nat.le_of_ble_eq_true rfl) (fun vh2 ρh2 hh2 => ?_)
                                      obtain ⟨rfl, hMh2, hEh2⟩ := hh2
                                      refine w_i2l dX8_digest_342 ?_
                                      refine w_ladd dX8_digest_343 ?_
                                      refine w_ls (ls2 := [some (.ref 47), some (.long (dgs (df (eJ σ) (yA σ (yR σ (yT σ (yP σ (x2 σ))))) 8) (nI (v_best (J9 σ) (-1))))), none, some (.int (nI 8)), none]) dX8_digest_344 rfl ?_
                                      refine w_kl dX8_digest_345 ?_
                                      refine w_ll dX8_digest_348 rfl ?_
                                      refine w_lmul dX8_digest_349 ?_
                                      refine w_al dX8_digest_350 rfl ?_
                                      refine w_k dX8_digest_351 ?_
                                      refine w_k dX8_digest_353 ?_
                                      refine w_cVr dX8_digest_355 (vl_X8_222 _ rfl) sh47 (by decide) (c_X8_envyOf ρh2 σ 10 30 hMh2 (by omega) (by omega)) rfl rfl (Nat.le_of_ble_eq_true rfl) (fun vh3 ρh3 hh3 => ?_)
                                      obtain ⟨rfl, hMh3, hEh3⟩ := hh3
                                      refine w_i2l dX8_digest_358 ?_
                                      refine w_ladd dX8_digest_359 ?_
                                      refine w_ls (ls2 := [some (.ref 47), some (.long (dgs (dgs (df (eJ σ) (yA σ (yR σ (yT σ (yP σ (x2 σ))))) 8) (nI (v_best (J9 σ) (-1)))) (nI (envC σ 10 (30 + 1 - 10) 8)))), none, some (.int (nI 8)), none]) dX8_digest_360 rfl ?_
                                      rw [show dgs (dgs (df (eJ σ) (yA σ (yR σ (yT σ (yP σ (x2 σ))))) 8) (nI (v_best (J9 σ) (-1)))) (nI (envC σ 10 (30 + 1 - 10) 8)) = yJ σ (yA σ (yR σ (yT σ (yP σ (x2 σ))))) from rfl]
                                      refine w_k dX8_digest_361 ?_
                                      refine w_is (ls2 := [some (.ref 47), some (.long (yJ σ (yA σ (yR σ (yT σ (yP σ (x2 σ))))))), none, some (.int (nI 0)), none]) dX8_digest_362 rfl ?_
                                      have L363 : ∀ (n363 : Nat) (k7 : Nat) (ρ7 : Rho), (k7 ≤ 4) → (MInv σ ρ7) → (EqC ρ ρ7) → (4 - k7) < n363 → MW mX8_digest 7 363 [some (.ref 47), some (.long (df (eHi σ) (yJ σ (yA σ (yR σ (yT σ (yP σ (x2 σ)))))) k7)), none, some (.int (nI k7)), none] [] ρ7 Q := by
                                        intro n363
                                        induction n363 with
                                        | zero =>
                                          intro k7 ρ7 hk7 hM7 hE7 hm363
                                          exact absurd hm363 (Nat.not_lt_zero _)
                                        | succ n363 ih363 =>
                                          intro k7 ρ7 hk7 hM7 hE7 hm363
                                          refine w_il dX8_digest_363 rfl ?_
                                          refine w_k dX8_digest_364 ?_
                                          refine w_icgeN dX8_digest_365 (by omega) (by omega) (fun h365 => ?_) (fun h365 => ?_)
                                          · --t
                                            obtain rfl : k7 = 4 := by omega
                                            rw [show df (eHi σ) (yJ σ (yA σ (yR σ (yT σ (yP σ (x2 σ)))))) 4 = yH σ (yJ σ (yA σ (yR σ (yT σ (yP σ (x2 σ)))))) from rfl]
                                            refine w_kl dX8_digest_391 ?_
                                            refine w_ll dX8_digest_394 rfl ?_
                                            refine w_lmul dX8_digest_395 ?_
                                            refine w_al dX8_digest_396 rfl ?_
                                            refine w_k dX8_digest_397 ?_
                                            refine w_k dX8_digest_398 ?_
                                            refine w_cVr dX8_digest_400 (vl_X8_231 _ rfl) sh47 (by decide) (c_X8_digOf ρ7 σ 0 50 hM7 (by omega) (by omega)) rfl rfl (Nat.le_of_ble_eq_true rfl) (fun vh4 ρh4 hh4 => ?_)
                                            obtain ⟨rfl, hMh4, hEh4⟩ := hh4
                                            refine w_i2l dX8_digest_403 ?_
                                            refine w_ladd dX8_digest_404 ?_
                                            refine w_ls (ls2 := [some (.ref 47), some (.long (dgs (yH σ (yJ σ (yA σ (yR σ (yT σ (yP σ (x2 σ))))))) ((dgS σ 0 50 8).1))), none, some (.int (nI 4)), none]) dX8_digest_405 rfl ?_
                                            refine w_kl dX8_digest_406 ?_
                                            refine w_ll dX8_digest_409 rfl ?_
                                            refine w_lmul dX8_digest_410 ?_
                                            refine w_al dX8_digest_411 rfl ?_
                                            refine w_k dX8_digest_412 ?_
                                            refine w_k dX8_digest_413 ?_
                                            refine w_k dX8_digest_414 ?_
                                            refine w_k dX8_digest_416 ?_
                                            refine w_cVr dX8_digest_417 (vl_X8_207 _ rfl) sh47 (by decide) (c_X8_meetOf ρh4 σ 0 4 10 0 hMh4 (by omega) (by omega) (by omega) (by omega)) rfl rfl (Nat.le_of_ble_eq_true rfl) (fun vh5 ρh5 hh5 => ?_)
                                            obtain ⟨rfl, hMh5, hEh5⟩ := hh5
                                            refine w_i2l dX8_digest_420 ?_
                                            refine w_ladd dX8_digest_421 ?_
                                            refine w_ls (ls2 := [some (.ref 47), some (.long (dgs (dgs (yH σ (yJ σ (yA σ (yR σ (yT σ (yP σ (x2 σ))))))) ((dgS σ 0 50 8).1)) (v_meet σ 0 4 10 0))), none, some (.int (nI 4)), none]) dX8_digest_422 rfl ?_
                                            refine w_kl dX8_digest_423 ?_
                                            refine w_ll dX8_digest_426 rfl ?_
                                            refine w_lmul dX8_digest_427 ?_
                                            refine w_al dX8_digest_428 rfl ?_
                                            refine w_k dX8_digest_429 ?_
                                            refine w_k dX8_digest_430 ?_
                                            refine w_k dX8_digest_431 ?_
                                            refine w_k dX8_digest_433 ?_
                                            refine w_cVr dX8_digest_434 (vl_X8_207 _ rfl) sh47 (by decide) (c_X8_meetOf ρh5 σ 0 4 10 1 hMh5 (by omega) (by omega) (by omega) (by omega)) rfl rfl (Nat.le_of_ble_eq_true rfl) (fun vh6 ρh6 hh6 => ?_)
                                            obtain ⟨rfl, hMh6, hEh6⟩ := hh6
                                            refine w_i2l dX8_digest_437 ?_
                                            refine w_ladd dX8_digest_438 ?_
                                            rw [show lN 31 * (dgs (dgs (yH σ (yJ σ (yA σ (yR σ (yT σ (yP σ (x2 σ))))))) ((dgS σ 0 50 8).1)) (v_meet σ 0 4 10 0)) + ((v_meet σ 0 4 10 1).toInt64) = dgs (dgs (dgs (yH σ (yJ σ (yA σ (yR σ (yT σ (yP σ (x2 σ))))))) ((dgS σ 0 50 8).1)) (v_meet σ 0 4 10 0)) (v_meet σ 0 4 10 1) from rfl]
                                            refine w_lret dX8_digest_439 rfl ?_
                                            rw [← hQ]
                                            exact ⟨_, rfl, rfl, hMh6, (EqC.tr (EqC.tr (EqC.tr hE7 hEh4) hEh5) hEh6)⟩
                                          · --f
                                            refine w_kl dX8_digest_368 ?_
                                            refine w_ll dX8_digest_371 rfl ?_
                                            refine w_lmul dX8_digest_372 ?_
                                            refine w_al dX8_digest_373 rfl ?_
                                            refine w_k dX8_digest_374 ?_
                                            refine w_k dX8_digest_376 ?_
                                            refine w_il dX8_digest_378 rfl ?_
                                            refine w_cVr dX8_digest_379 (vl_X8_225 _ rfl) sh47 (by decide) (c_X8_historyOf ρ7 σ 20 6 k7 hM7 (by omega) (by omega) (by omega)) rfl rfl (Nat.le_of_ble_eq_true rfl) (fun vh7 ρh7 hh7 => ?_)
                                            obtain ⟨rfl, hMh7, hEh7⟩ := hh7
                                            refine w_i2l dX8_digest_382 ?_
                                            refine w_ladd dX8_digest_383 ?_
                                            refine w_ls (ls2 := [some (.ref 47), some (.long (dgs (df (eHi σ) (yJ σ (yA σ (yR σ (yT σ (yP σ (x2 σ)))))) k7) (v_hist σ (t0 σ 20) 6 k7))), none, some (.int (nI k7)), none]) dX8_digest_384 rfl ?_
                                            refine w_iincN (ls2 := [some (.ref 47), some (.long (dgs (df (eHi σ) (yJ σ (yA σ (yR σ (yT σ (yP σ (x2 σ)))))) k7) (v_hist σ (t0 σ 20) 6 k7))), none, some (.int (nI (k7 + 1))), none]) dX8_digest_385 rfl rfl ?_
                                            refine w_goto dX8_digest_388 ?_
                                            rw [eHi_s]
                                            exact ih363 (k7 + 1) ρh7 (by omega) (hMh7) ((EqC.tr hE7 hEh7)) (by omega)
                                      rw [show yJ σ (yA σ (yR σ (yT σ (yP σ (x2 σ))))) = df (eHi σ) (yJ σ (yA σ (yR σ (yT σ (yP σ (x2 σ)))))) 0 from df_0.symm]
                                      exact L363 _ 0 ρh3 (by omega) (hMh3) ((EqC.tr (EqC.tr hE6 hEh2) hEh3)) (Nat.lt_succ_self _)
                                    · --f
                                      refine w_kl dX8_digest_291 ?_
                                      refine w_ll dX8_digest_294 rfl ?_
                                      refine w_lmul dX8_digest_295 ?_
                                      refine w_al dX8_digest_296 rfl ?_
                                      refine w_gr dX8_digest_297 fl_X8_56 sh47 rfl ?_
                                      refine w_il dX8_digest_300 rfl ?_
                                      refine w_ialdV (v := (nI (σ.1 63 k6))) dX8_digest_301 sh63 (by omega) (hM6.2.1 63 (by decide) _) ?_
                                      refine w_i2l dX8_digest_302 ?_
                                      refine w_ladd dX8_digest_303 ?_
                                      refine w_ls (ls2 := [some (.ref 47), some (.long (dgs (df (eJ σ) (yA σ (yR σ (yT σ (yP σ (x2 σ))))) k6) (nI (σ.1 63 k6)))), none, some (.int (nI k6)), none]) dX8_digest_304 rfl ?_
                                      refine w_kl dX8_digest_305 ?_
                                      refine w_ll dX8_digest_308 rfl ?_
                                      refine w_lmul dX8_digest_309 ?_
                                      refine w_al dX8_digest_310 rfl ?_
                                      refine w_il dX8_digest_311 rfl ?_
                                      refine w_k dX8_digest_312 ?_
                                      refine w_k dX8_digest_314 ?_
                                      refine w_cVr dX8_digest_316 (vl_X8_219 _ rfl) sh47 (by decide) (c_X8_bestOf ρ6 σ (nI k6) 10 30 hM6 (Or.inr ⟨k6, by omega, rfl⟩) (by omega) (by omega)) rfl rfl (Nat.le_of_ble_eq_true rfl) (fun vh8 ρh8 hh8 => ?_)
                                      obtain ⟨rfl, hMh8, hEh8⟩ := hh8
                                      refine w_i2l dX8_digest_319 ?_
                                      refine w_ladd dX8_digest_320 ?_
                                      refine w_ls (ls2 := [some (.ref 47), some (.long (dgs (dgs (df (eJ σ) (yA σ (yR σ (yT σ (yP σ (x2 σ))))) k6) (nI (σ.1 63 k6))) (nI (v_best (J9 σ) (nI k6))))), none, some (.int (nI k6)), none]) dX8_digest_321 rfl ?_
                                      refine w_iincN (ls2 := [some (.ref 47), some (.long (dgs (dgs (df (eJ σ) (yA σ (yR σ (yT σ (yP σ (x2 σ))))) k6) (nI (σ.1 63 k6))) (nI (v_best (J9 σ) (nI k6))))), none, some (.int (nI (k6 + 1))), none]) dX8_digest_322 rfl rfl ?_
                                      refine w_goto dX8_digest_325 ?_
                                      rw [eJ_s]
                                      exact ih285 (k6 + 1) ρh8 (by omega) (hMh8) ((EqC.tr hE6 hEh8)) (by omega)
                                rw [show yA σ (yR σ (yT σ (yP σ (x2 σ)))) = df (eJ σ) (yA σ (yR σ (yT σ (yP σ (x2 σ))))) 0 from df_0.symm]
                                exact L285 _ 0 ρ5 (by omega) (hM5) (hE5) (Nat.lt_succ_self _)
                              · --f
                                refine w_kl dX8_digest_243 ?_
                                refine w_ll dX8_digest_246 rfl ?_
                                refine w_lmul dX8_digest_247 ?_
                                refine w_al dX8_digest_248 rfl ?_
                                refine w_il dX8_digest_249 rfl ?_
                                refine w_k dX8_digest_250 ?_
                                refine w_k dX8_digest_251 ?_
                                refine w_k dX8_digest_253 ?_
                                refine w_cVr dX8_digest_254 (vl_X8_184 _ rfl) sh47 (by decide) (c_X8_aheadOf ρ5 σ k5 0 99 0 hM5 (by omega) (by omega) (by omega) (by omega)) rfl rfl (Nat.le_of_ble_eq_true rfl) (fun vh9 ρh9 hh9 => ?_)
                                obtain ⟨rfl, hMh9, hEh9⟩ := hh9
                                refine w_i2l dX8_digest_257 ?_
                                refine w_ladd dX8_digest_258 ?_
                                refine w_ls (ls2 := [some (.ref 47), some (.long (dgs (df (eA σ) (yR σ (yT σ (yP σ (x2 σ)))) k5) (v_ahead σ k5 0 (99 + 1 - 0) 0))), none, some (.int (nI k5)), none]) dX8_digest_259 rfl ?_
                                refine w_kl dX8_digest_260 ?_
                                refine w_ll dX8_digest_263 rfl ?_
                                refine w_lmul dX8_digest_264 ?_
                                refine w_al dX8_digest_265 rfl ?_
                                refine w_il dX8_digest_266 rfl ?_
                                refine w_k dX8_digest_267 ?_
                                refine w_k dX8_digest_268 ?_
                                refine w_k dX8_digest_270 ?_
                                refine w_cVr dX8_digest_271 (vl_X8_184 _ rfl) sh47 (by decide) (c_X8_aheadOf ρh9 σ k5 0 99 1 hMh9 (by omega) (by omega) (by omega) (by omega)) rfl rfl (Nat.le_of_ble_eq_true rfl) (fun vh10 ρh10 hh10 => ?_)
                                obtain ⟨rfl, hMh10, hEh10⟩ := hh10
                                refine w_i2l dX8_digest_274 ?_
                                refine w_ladd dX8_digest_275 ?_
                                refine w_ls (ls2 := [some (.ref 47), some (.long (dgs (dgs (df (eA σ) (yR σ (yT σ (yP σ (x2 σ)))) k5) (v_ahead σ k5 0 (99 + 1 - 0) 0)) (v_ahead σ k5 0 (99 + 1 - 0) 1))), none, some (.int (nI k5)), none]) dX8_digest_276 rfl ?_
                                refine w_iincN (ls2 := [some (.ref 47), some (.long (dgs (dgs (df (eA σ) (yR σ (yT σ (yP σ (x2 σ)))) k5) (v_ahead σ k5 0 (99 + 1 - 0) 0)) (v_ahead σ k5 0 (99 + 1 - 0) 1))), none, some (.int (nI (k5 + 1))), none]) dX8_digest_277 rfl rfl ?_
                                refine w_goto dX8_digest_280 ?_
                                rw [eA_s]
                                exact ih238 (k5 + 1) ρh10 (by omega) (hMh10) ((EqC.tr (EqC.tr hE5 hEh9) hEh10)) (by omega)
                          rw [show yR σ (yT σ (yP σ (x2 σ))) = df (eA σ) (yR σ (yT σ (yP σ (x2 σ)))) 0 from df_0.symm]
                          exact L238 _ 0 ρ4 (by omega) (hM4) (hE4) (Nat.lt_succ_self _)
                        · --f
                          refine w_kl dX8_digest_134 ?_
                          refine w_ll dX8_digest_137 rfl ?_
                          refine w_lmul dX8_digest_138 ?_
                          refine w_al dX8_digest_139 rfl ?_
                          refine w_il dX8_digest_140 rfl ?_
                          refine w_k dX8_digest_141 ?_
                          refine w_k dX8_digest_143 ?_
                          refine w_cVr dX8_digest_144 (vl_X8_160 _ rfl) sh47 (by decide) (c_X8_doorOf ρ4 σ k4 50 1 hM4 (by omega) (by omega) (by omega)) rfl rfl (Nat.le_of_ble_eq_true rfl) (fun vh11 ρh11 hh11 => ?_)
                          obtain ⟨rfl, hMh11, hEh11⟩ := hh11
                          refine w_i2l dX8_digest_147 ?_
                          refine w_ladd dX8_digest_148 ?_
                          refine w_ls (ls2 := [some (.ref 47), some (.long (dgs (df (eR σ) (yT σ (yP σ (x2 σ))) k4) (nI (v_door σ k4 50 1)))), none, some (.int (nI k4)), none]) dX8_digest_149 rfl ?_
                          refine w_kl dX8_digest_150 ?_
                          refine w_ll dX8_digest_153 rfl ?_
                          refine w_lmul dX8_digest_154 ?_
                          refine w_al dX8_digest_155 rfl ?_
                          refine w_il dX8_digest_156 rfl ?_
                          refine w_k dX8_digest_157 ?_
                          refine w_k dX8_digest_159 ?_
                          refine w_cVr dX8_digest_160 (vl_X8_160 _ rfl) sh47 (by decide) (c_X8_doorOf ρh11 σ k4 50 2 hMh11 (by omega) (by omega) (by omega)) rfl rfl (Nat.le_of_ble_eq_true rfl) (fun vh12 ρh12 hh12 => ?_)
                          obtain ⟨rfl, hMh12, hEh12⟩ := hh12
                          refine w_i2l dX8_digest_163 ?_
                          refine w_ladd dX8_digest_164 ?_
                          refine w_ls (ls2 := [some (.ref 47), some (.long (dgs (dgs (df (eR σ) (yT σ (yP σ (x2 σ))) k4) (nI (v_door σ k4 50 1))) (nI (v_door σ k4 50 2)))), none, some (.int (nI k4)), none]) dX8_digest_165 rfl ?_
                          refine w_kl dX8_digest_166 ?_
                          refine w_ll dX8_digest_169 rfl ?_
                          refine w_lmul dX8_digest_170 ?_
                          refine w_al dX8_digest_171 rfl ?_
                          refine w_il dX8_digest_172 rfl ?_
                          refine w_k dX8_digest_173 ?_
                          refine w_k dX8_digest_174 ?_
                          refine w_cVr dX8_digest_176 (vl_X8_181 _ rfl) sh47 (by decide) (c_X8_shineOf ρh12 σ k4 0 99 hMh12 (by omega) (by omega) (by omega)) rfl rfl (Nat.le_of_ble_eq_true rfl) (fun vh13 ρh13 hh13 => ?_)
                          obtain ⟨rfl, hMh13, hEh13⟩ := hh13
                          refine w_i2l dX8_digest_179 ?_
                          refine w_ladd dX8_digest_180 ?_
                          refine w_ls (ls2 := [some (.ref 47), some (.long (dgs (dgs (dgs (df (eR σ) (yT σ (yP σ (x2 σ))) k4) (nI (v_door σ k4 50 1))) (nI (v_door σ k4 50 2))) (nI (shN σ k4 0 (99 + 1 - 0))))), none, some (.int (nI k4)), none]) dX8_digest_181 rfl ?_
                          refine w_kl dX8_digest_182 ?_
                          refine w_ll dX8_digest_185 rfl ?_
                          refine w_lmul dX8_digest_186 ?_
                          refine w_al dX8_digest_187 rfl ?_
                          refine w_il dX8_digest_188 rfl ?_
                          refine w_k dX8_digest_189 ?_
                          refine w_k dX8_digest_190 ?_
                          refine w_k dX8_digest_192 ?_
                          refine w_cVr dX8_digest_193 (vl_X8_204 _ rfl) sh47 (by decide) (c_X8_soonOf ρh13 σ k4 0 10 0 hMh13 (by omega) (by omega) (by omega) (by omega)) rfl rfl (Nat.le_of_ble_eq_true rfl) (fun vh14 ρh14 hh14 => ?_)
                          obtain ⟨rfl, hMh14, hEh14⟩ := hh14
                          refine w_i2l dX8_digest_196 ?_
                          refine w_ladd dX8_digest_197 ?_
                          refine w_ls (ls2 := [some (.ref 47), some (.long (dgs (dgs (dgs (dgs (df (eR σ) (yT σ (yP σ (x2 σ))) k4) (nI (v_door σ k4 50 1))) (nI (v_door σ k4 50 2))) (nI (shN σ k4 0 (99 + 1 - 0)))) (v_soon σ k4 0 10 0))), none, some (.int (nI k4)), none]) dX8_digest_198 rfl ?_
                          refine w_kl dX8_digest_199 ?_
                          refine w_ll dX8_digest_202 rfl ?_
                          refine w_lmul dX8_digest_203 ?_
                          refine w_al dX8_digest_204 rfl ?_
                          refine w_il dX8_digest_205 rfl ?_
                          refine w_k dX8_digest_206 ?_
                          refine w_k dX8_digest_207 ?_
                          refine w_k dX8_digest_209 ?_
                          refine w_cVr dX8_digest_210 (vl_X8_204 _ rfl) sh47 (by decide) (c_X8_soonOf ρh14 σ k4 0 10 1 hMh14 (by omega) (by omega) (by omega) (by omega)) rfl rfl (Nat.le_of_ble_eq_true rfl) (fun vh15 ρh15 hh15 => ?_)
                          obtain ⟨rfl, hMh15, hEh15⟩ := hh15
                          refine w_i2l dX8_digest_213 ?_
                          refine w_ladd dX8_digest_214 ?_
                          refine w_ls (ls2 := [some (.ref 47), some (.long (dgs (dgs (dgs (dgs (dgs (df (eR σ) (yT σ (yP σ (x2 σ))) k4) (nI (v_door σ k4 50 1))) (nI (v_door σ k4 50 2))) (nI (shN σ k4 0 (99 + 1 - 0)))) (v_soon σ k4 0 10 0)) (v_soon σ k4 0 10 1))), none, some (.int (nI k4)), none]) dX8_digest_215 rfl ?_
                          refine w_kl dX8_digest_216 ?_
                          refine w_ll dX8_digest_219 rfl ?_
                          refine w_lmul dX8_digest_220 ?_
                          refine w_al dX8_digest_221 rfl ?_
                          refine w_il dX8_digest_222 rfl ?_
                          refine w_k dX8_digest_223 ?_
                          refine w_cVr dX8_digest_224 (vl_X8_228 _ rfl) sh47 (by decide) (c_X8_waitsOf ρh15 σ k4 0 hMh15 (by omega) (by omega)) rfl rfl (Nat.le_of_ble_eq_true rfl) (fun vh16 ρh16 hh16 => ?_)
                          obtain ⟨rfl, hMh16, hEh16⟩ := hh16
                          refine w_i2l dX8_digest_227 ?_
                          refine w_ladd dX8_digest_228 ?_
                          refine w_ls (ls2 := [some (.ref 47), some (.long (dgs (dgs (dgs (dgs (dgs (dgs (df (eR σ) (yT σ (yP σ (x2 σ))) k4) (nI (v_door σ k4 50 1))) (nI (v_door σ k4 50 2))) (nI (shN σ k4 0 (99 + 1 - 0)))) (v_soon σ k4 0 10 0)) (v_soon σ k4 0 10 1)) (v_wait σ k4 0))), none, some (.int (nI k4)), none]) dX8_digest_229 rfl ?_
                          refine w_iincN (ls2 := [some (.ref 47), some (.long (dgs (dgs (dgs (dgs (dgs (dgs (df (eR σ) (yT σ (yP σ (x2 σ))) k4) (nI (v_door σ k4 50 1))) (nI (v_door σ k4 50 2))) (nI (shN σ k4 0 (99 + 1 - 0)))) (v_soon σ k4 0 10 0)) (v_soon σ k4 0 10 1)) (v_wait σ k4 0))), none, some (.int (nI (k4 + 1))), none]) dX8_digest_230 rfl rfl ?_
                          refine w_goto dX8_digest_233 ?_
                          rw [eR_s]
                          exact ih128 (k4 + 1) ρh16 (by omega) (hMh16) ((EqC.tr (EqC.tr (EqC.tr (EqC.tr (EqC.tr (EqC.tr hE4 hEh11) hEh12) hEh13) hEh14) hEh15) hEh16)) (by omega)
                    rw [show yT σ (yP σ (x2 σ)) = df (eR σ) (yT σ (yP σ (x2 σ))) 0 from df_0.symm]
                    exact L128 _ 0 ρ3 (by omega) (hM3) (hE3) (Nat.lt_succ_self _)
                  · --f
                    refine w_kl dX8_digest_94 ?_
                    refine w_ll dX8_digest_97 rfl ?_
                    refine w_lmul dX8_digest_98 ?_
                    refine w_al dX8_digest_99 rfl ?_
                    refine w_il dX8_digest_100 rfl ?_
                    refine w_k dX8_digest_101 ?_
                    have J102 : MW mX8_digest 7 114 [some (.ref 47), some (.long (df (eT σ) (yP σ (x2 σ)) k3)), none, some (.int (nI k3)), none] [.int (nI (dT k3)), .ref 47, .long (lN 31 * (df (eT σ) (yP σ (x2 σ)) k3))] ρ3 Q := by
                      refine w_cVr dX8_digest_114 (vl_X8_151 _ rfl) sh47 (by decide) (c_X8_turnOf ρ3 σ (dT k3) hM3 (dT_lt (by omega))) rfl rfl (Nat.le_of_ble_eq_true rfl) (fun vh17 ρh17 hh17 => ?_)
                      obtain ⟨rfl, hMh17, hEh17⟩ := hh17
                      refine w_i2l dX8_digest_117 ?_
                      refine w_ladd dX8_digest_118 ?_
                      refine w_ls (ls2 := [some (.ref 47), some (.long (dgs (df (eT σ) (yP σ (x2 σ)) k3) (nI (Tn σ (dT k3))))), none, some (.int (nI k3)), none]) dX8_digest_119 rfl ?_
                      refine w_iincN (ls2 := [some (.ref 47), some (.long (dgs (df (eT σ) (yP σ (x2 σ)) k3) (nI (Tn σ (dT k3))))), none, some (.int (nI (k3 + 1))), none]) dX8_digest_120 rfl rfl ?_
                      refine w_goto dX8_digest_123 ?_
                      rw [eT_s]
                      exact ih89 (k3 + 1) ρh17 (by omega) (hMh17) ((EqC.tr hE3 hEh17)) (by omega)
                    refine w_icneN dX8_digest_102 (by omega) (by omega) (fun h102 => ?_) (fun h102 => ?_)
                    · --t
                      refine w_k dX8_digest_110 ?_
                      refine w_il dX8_digest_112 rfl ?_
                      refine w_imulN dX8_digest_113 ?_
                      rw [show dT k3 = 25 * k3 from if_neg h102] at J102
                      exact J102
                    · --f
                      refine w_k dX8_digest_105 ?_
                      refine w_goto dX8_digest_107 ?_
                      rw [show dT k3 = 99 from if_pos h102] at J102
                      exact J102
              rw [show yP σ (x2 σ) = df (eT σ) (yP σ (x2 σ)) 0 from df_0.symm]
              exact L89 _ 0 ρ2 (by omega) (hM2) (hE2) (Nat.lt_succ_self _)
            · --f
              refine w_k dX8_digest_51 ?_
              refine w_is (ls2 := [some (.ref 47), some (.long (df (eP σ) (x2 σ) k2)), none, some (.int (nI k2)), some (.int (nI 0))]) dX8_digest_52 rfl ?_
              have L54 : ∀ (n54 : Nat) (kw : Nat) (ρw : Rho), (kw ≤ 3) → (MInv σ ρw) → (EqC ρ ρw) → (3 - kw) < n54 → MW mX8_digest 7 54 [some (.ref 47), some (.long (df (eW σ k2) (df (eP σ) (x2 σ) k2) kw)), none, some (.int (nI k2)), some (.int (nI kw))] [] ρw Q := by
                intro n54
                induction n54 with
                | zero =>
                  intro kw ρw hkw hMw hEw hm54
                  exact absurd hm54 (Nat.not_lt_zero _)
                | succ n54 ih54 =>
                  intro kw ρw hkw hMw hEw hm54
                  refine w_il dX8_digest_54 rfl ?_
                  refine w_k dX8_digest_56 ?_
                  refine w_icgeN dX8_digest_57 (by omega) (by omega) (fun h57 => ?_) (fun h57 => ?_)
                  · --t
                    obtain rfl : kw = 3 := by omega
                    rw [eP_w]
                    refine w_iincN (ls2 := [some (.ref 47), some (.long (df (eP σ) (x2 σ) (k2 + 1))), none, some (.int (nI (k2 + 1))), some (.int (nI 3))]) dX8_digest_81 rfl rfl ?_
                    refine w_goto dX8_digest_84 ?_
                    refine w_weak (ls2 := [some (.ref 47), some (.long (df (eP σ) (x2 σ) (k2 + 1))), none, some (.int (nI (k2 + 1))), none]) ⟨rfl, ⟨rfl, ⟨rfl, trivial⟩⟩⟩ ?_
                    exact ih45 (k2 + 1) ρw (by omega) (hMw) (hEw) (by omega)
                  · --f
                    refine w_kl dX8_digest_60 ?_
                    refine w_ll dX8_digest_63 rfl ?_
                    refine w_lmul dX8_digest_64 ?_
                    refine w_al dX8_digest_65 rfl ?_
                    refine w_il dX8_digest_66 rfl ?_
                    refine w_il dX8_digest_67 rfl ?_
                    refine w_cVr dX8_digest_69 (vl_X8_122 _ rfl) sh47 (by decide) (c_X8_placeOf ρw σ k2 kw hMw (by omega) (by omega)) rfl rfl (Nat.le_of_ble_eq_true rfl) (fun vh18 ρh18 hh18 => ?_)
                    obtain ⟨rfl, hMh18, hEh18⟩ := hh18
                    refine w_i2l dX8_digest_72 ?_
                    refine w_ladd dX8_digest_73 ?_
                    refine w_ls (ls2 := [some (.ref 47), some (.long (dgs (df (eW σ k2) (df (eP σ) (x2 σ) k2) kw) (nI (v_place σ k2 kw)))), none, some (.int (nI k2)), some (.int (nI kw))]) dX8_digest_74 rfl ?_
                    refine w_iincN (ls2 := [some (.ref 47), some (.long (dgs (df (eW σ k2) (df (eP σ) (x2 σ) k2) kw) (nI (v_place σ k2 kw)))), none, some (.int (nI k2)), some (.int (nI (kw + 1)))]) dX8_digest_75 rfl rfl ?_
                    refine w_goto dX8_digest_78 ?_
                    rw [eW_s]
                    exact ih54 (kw + 1) ρh18 (by omega) (hMh18) ((EqC.tr hEw hEh18)) (by omega)
              rw [show df (eP σ) (x2 σ) k2 = df (eW σ k2) (df (eP σ) (x2 σ) k2) 0 from df_0.symm]
              exact L54 _ 0 ρ2 (by omega) (hM2) (hE2) (Nat.lt_succ_self _)
        rw [show x2 σ = df (eP σ) (x2 σ) 0 from df_0.symm]
        exact L45 _ 0 ρf1 (by omega) (hMf1) ((EqC.tr hE1 hEf1)) (Nat.lt_succ_self _)
      · --f
        refine w_kl dX8_digest_12 ?_
        refine w_ll dX8_digest_15 rfl ?_
        refine w_lmul dX8_digest_16 ?_
        refine w_al dX8_digest_17 rfl ?_
        refine w_il dX8_digest_18 rfl ?_
        refine w_cVr dX8_digest_19 (vl_X8_252 _ rfl) sh47 (by decide) (c_X8_count ρ1 σ (nI k1) hM1 ) rfl rfl (Nat.le_of_ble_eq_true rfl) (fun vh19 ρh19 hh19 => ?_)
        obtain ⟨rfl, hMh19, hEh19⟩ := hh19
        refine w_i2l dX8_digest_22 ?_
        refine w_ladd dX8_digest_23 ?_
        refine w_ls (ls2 := [some (.ref 47), some (.long (dgs (df (eC σ) (lN 17) k1) (r_count σ (nI k1)))), none, some (.int (nI k1)), none]) dX8_digest_24 rfl ?_
        refine w_iincN (ls2 := [some (.ref 47), some (.long (dgs (df (eC σ) (lN 17) k1) (r_count σ (nI k1)))), none, some (.int (nI (k1 + 1))), none]) dX8_digest_25 rfl rfl ?_
        refine w_goto dX8_digest_28 ?_
        rw [eC_s]
        exact ih6 (k1 + 1) ρh19 (by omega) (hMh19) ((EqC.tr hE1 hEh19)) (by omega)
  exact L6 _ 0 ρ (by omega) (hM) (EqC.rf) (Nat.lt_succ_self _)
