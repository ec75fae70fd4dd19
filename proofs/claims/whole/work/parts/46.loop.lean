/-! THE LAW'S LOOP -/
theorem sw64 (x : Int32) : ∃ c, c < 64 ∧ x &&& nI 63 = nI c := by
  have hx : x = nI x.toBitVec.toNat := by
    apply Int32.toBitVec_inj.mp
    show x.toBitVec = BitVec.ofNat 32 x.toBitVec.toNat
    simp
  have hlt : x.toBitVec.toNat < 2 ^ 32 := x.toBitVec.isLt
  refine ⟨x.toBitVec.toNat % 64, Nat.mod_lt _ (by decide), ?_⟩
  generalize x.toBitVec.toNat = a at hx hlt
  subst hx
  exact pk_andN hlt 6 (by decide)
theorem lim {L i : Nat} (hL : L ≤ 4096) (hi : i ≤ L) (h : ¬ nI L - nI 8 < nI i) : i + 8 ≤ L := by
  by_cases c : 8 ≤ L
  · rw [pk_sub c, nI_ltI (by omega) (by omega)] at h
    omega
  · exfalso
    apply h
    have h1 : nI L - nI 8 < 0 := pk_sneg (by omega) (by omega)
    have h2 : (0 : Int32) ≤ nI i := nI_pos' (by omega)
    rw [Int32.lt_iff_toInt_lt] at h1 ⊢
    rw [Int32.le_iff_toInt_le] at h2
    omega
theorem law_loop {L : Nat} {xs : Nat → Int32} (hL : L ≤ 4096) : ∀ (n i : Nat) (ρ : Rho) (σ : Sg), i ≤ L → L - i < n → CInv σ ρ → MInv σ ρ → LW L xs 18 [some (.ref 73), some (.ref 0), some (.ref 47), some (.int (nI i))] [] ρ
  | 0, i, ρ, σ, _, h, _, _ => absurd h (Nat.not_lt_zero _)
  | n + 1, i, ρ, σ, hi, hn, hC, hM => by
    refine l_il dlw_18 rfl ?_
    refine l_al dlw_19 rfl ?_
    refine l_slen dlw_20 ?_
    refine l_k dlw_21 ?_
    refine l_isub dlw_23 ?_
    refine l_icgt dlw_24 (fun h => ?_) (fun h => ?_)
    · refine l_k dlw_1677 ?_
      exact l_ret dlw_1678
    · have h8 := lim hL hi h
      have back : ∀ (ρ2 : Rho) (σ2 : Sg), CInv σ2 ρ2 → MInv σ2 ρ2 → LW L xs 1671 [some (.ref 73), some (.ref 0), some (.ref 47), some (.int (nI i))] [] ρ2 := fun ρ2 σ2 hC2 hM2 => by
        refine l_iinc (a := i) (b := 8) (ls2 := [some (.ref 73), some (.ref 0), some (.ref 47), some (.int (nI (i + 8)))]) dlw_1671 rfl rfl ?_
        refine l_goto dlw_1674 ?_
        exact law_loop hL n (i + 8) ρ2 σ2 (by omega) (by omega) hC2 hM2
      refine l_al dlw_27 rfl ?_
      refine l_il dlw_28 rfl ?_
      refine l_sld dlw_29 (by omega) hL ?_
      refine l_k dlw_30 ?_
      refine l_iand dlw_32 ?_
      obtain ⟨c, hc, ec⟩ := sw64 (xs i)
      rw [ec]
      clear ec
      by_cases h38 : c < 38
      · match c, h38 with
        | 0, _ => exact l_tin (off := 167) (tgt := 200) dlw_33 (by decide) (by decide) (by decide) (by decide) (lc_0 hL h8 hC hM back)
        | 1, _ => exact l_tin (off := 190) (tgt := 223) dlw_33 (by decide) (by decide) (by decide) (by decide) (lc_1 hL h8 hC hM back)
        | 2, _ => exact l_tin (off := 203) (tgt := 236) dlw_33 (by decide) (by decide) (by decide) (by decide) (lc_2 hL h8 hC hM back)
        | 3, _ => exact l_tin (off := 216) (tgt := 249) dlw_33 (by decide) (by decide) (by decide) (by decide) (lc_3 hL h8 hC hM back)
        | 4, _ => exact l_tin (off := 249) (tgt := 282) dlw_33 (by decide) (by decide) (by decide) (by decide) (lc_4 hL h8 hC hM back)
        | 5, _ => exact l_tin (off := 292) (tgt := 325) dlw_33 (by decide) (by decide) (by decide) (by decide) (lc_5 hL h8 hC hM back)
        | 6, _ => exact l_tin (off := 335) (tgt := 368) dlw_33 (by decide) (by decide) (by decide) (by decide) (lc_6 hL h8 hC hM back)
        | 7, _ => exact l_tin (off := 368) (tgt := 401) dlw_33 (by decide) (by decide) (by decide) (by decide) (lc_7 hL h8 hC hM back)
        | 8, _ => exact l_tin (off := 401) (tgt := 434) dlw_33 (by decide) (by decide) (by decide) (by decide) (lc_8 hL h8 hC hM back)
        | 9, _ => exact l_tin (off := 434) (tgt := 467) dlw_33 (by decide) (by decide) (by decide) (by decide) (lc_9 hL h8 hC hM back)
        | 10, _ => exact l_tin (off := 467) (tgt := 500) dlw_33 (by decide) (by decide) (by decide) (by decide) (lc_10 hL h8 hC hM back)
        | 11, _ => exact l_tin (off := 490) (tgt := 523) dlw_33 (by decide) (by decide) (by decide) (by decide) (lc_11 hL h8 hC hM back)
        | 12, _ => exact l_tin (off := 533) (tgt := 566) dlw_33 (by decide) (by decide) (by decide) (by decide) (lc_12 hL h8 hC hM back)
        | 13, _ => exact l_tin (off := 597) (tgt := 630) dlw_33 (by decide) (by decide) (by decide) (by decide) (lc_13 hL h8 hC hM back)
        | 14, _ => exact l_tin (off := 640) (tgt := 673) dlw_33 (by decide) (by decide) (by decide) (by decide) (lc_14 hL h8 hC hM back)
        | 15, _ => exact l_tin (off := 693) (tgt := 726) dlw_33 (by decide) (by decide) (by decide) (by decide) (lc_15 hL h8 hC hM back)
        | 16, _ => exact l_tin (off := 746) (tgt := 779) dlw_33 (by decide) (by decide) (by decide) (by decide) (lc_16 hL h8 hC hM back)
        | 17, _ => exact l_tin (off := 834) (tgt := 867) dlw_33 (by decide) (by decide) (by decide) (by decide) (lc_17 hL h8 hC hM back)
        | 18, _ => exact l_tin (off := 877) (tgt := 910) dlw_33 (by decide) (by decide) (by decide) (by decide) (lc_18 hL h8 hC hM back)
        | 19, _ => exact l_tin (off := 920) (tgt := 953) dlw_33 (by decide) (by decide) (by decide) (by decide) (lc_19 hL h8 hC hM back)
        | 20, _ => exact l_tin (off := 973) (tgt := 1006) dlw_33 (by decide) (by decide) (by decide) (by decide) (lc_20 hL h8 hC hM back)
        | 21, _ => exact l_tin (off := 1016) (tgt := 1049) dlw_33 (by decide) (by decide) (by decide) (by decide) (lc_21 hL h8 hC hM back)
        | 22, _ => exact l_tin (off := 1039) (tgt := 1072) dlw_33 (by decide) (by decide) (by decide) (by decide) (lc_22 hL h8 hC hM back)
        | 23, _ => exact l_tin (off := 1092) (tgt := 1125) dlw_33 (by decide) (by decide) (by decide) (by decide) (lc_23 hL h8 hC hM back)
        | 24, _ => exact l_tin (off := 1125) (tgt := 1158) dlw_33 (by decide) (by decide) (by decide) (by decide) (lc_24 hL h8 hC hM back)
        | 25, _ => exact l_tin (off := 1168) (tgt := 1201) dlw_33 (by decide) (by decide) (by decide) (by decide) (lc_25 hL h8 hC hM back)
        | 26, _ => exact l_tin (off := 1201) (tgt := 1234) dlw_33 (by decide) (by decide) (by decide) (by decide) (lc_26 hL h8 hC hM back)
        | 27, _ => exact l_tin (off := 1234) (tgt := 1267) dlw_33 (by decide) (by decide) (by decide) (by decide) (lc_27 hL h8 hC hM back)
        | 28, _ => exact l_tin (off := 1277) (tgt := 1310) dlw_33 (by decide) (by decide) (by decide) (by decide) (lc_28 hL h8 hC hM back)
        | 29, _ => exact l_tin (off := 1310) (tgt := 1343) dlw_33 (by decide) (by decide) (by decide) (by decide) (lc_29 hL h8 hC hM back)
        | 30, _ => exact l_tin (off := 1343) (tgt := 1376) dlw_33 (by decide) (by decide) (by decide) (by decide) (lc_30 hL h8 hC hM back)
        | 31, _ => exact l_tin (off := 1386) (tgt := 1419) dlw_33 (by decide) (by decide) (by decide) (by decide) (lc_31 hL h8 hC hM back)
        | 32, _ => exact l_tin (off := 1409) (tgt := 1442) dlw_33 (by decide) (by decide) (by decide) (by decide) (lc_32 hL h8 hC hM back)
        | 33, _ => exact l_tin (off := 1462) (tgt := 1495) dlw_33 (by decide) (by decide) (by decide) (by decide) (lc_33 hL h8 hC hM back)
        | 34, _ => exact l_tin (off := 1505) (tgt := 1538) dlw_33 (by decide) (by decide) (by decide) (by decide) (lc_34 hL h8 hC hM back)
        | 35, _ => exact l_tin (off := 1568) (tgt := 1601) dlw_33 (by decide) (by decide) (by decide) (by decide) (lc_35 hL h8 hC hM back)
        | 36, _ => exact l_tin (off := 1601) (tgt := 1634) dlw_33 (by decide) (by decide) (by decide) (by decide) (lc_36 hL h8 hC hM back)
        | 37, _ => exact l_tin (off := 1624) (tgt := 1657) dlw_33 (by decide) (by decide) (by decide) (by decide) (lc_37 hL h8 hC hM back)
        | q + 38, h => exact absurd h (by omega)
      · refine l_tout (tgt := 1671) dlw_33 (Or.inr ?_) (by decide) (back _ _ hC hM)
        rw [nI_toInt (by omega)]
        omega
/-! THE START -/
theorem arrV4 {cA : ClassId} {f g : Nat → Option Nat} (h : ∀ j, j < 4 → f j = g j) : vp_cell cA (4, .inr (.inr (.inr (.inr f)))) = vp_cell cA (4, .inr (.inr (.inr (.inr g)))) := by
  rw [vp_cell_q, vp_cell_q]
  unfold arrV
  have : (fun j : Fin 4 => va_rf (f j.val)) = fun j : Fin 4 => va_rf (g j.val) := by
    funext j
    rw [h j.val j.isLt]
  rw [this]
def fR : Nat → Int32 := upd (upd (upd (upd (upd (upd (upd (upd (fun _ => 0) 0 (nI 0)) 1 (nI 1)) 2 (nI 2)) 3 (nI 3)) 4 (nI 4)) 5 (nI 5)) 6 (nI 6)) 7 (nI 7)
def fK : Nat → Int32 := upd (upd (upd (upd (upd (upd (upd (upd (fun _ => 0) 0 (-1)) 1 (-1)) 2 (-1)) 3 (-1)) 4 (-1)) 5 (-1)) 6 (-1)) 7 (-1)
def tab1 : List (Nat → Int32) := [fun _ => 0, fun _ => 0, fun _ => 0, fun _ => 0, fun _ => 0, fun _ => 0, fun _ => 0, fun _ => 0, fun _ => 0, fun _ => 0, fun j => if j = 6 then nI 999 else 0, fun _ => 0, fun _ => 0, fun _ => 0, fun _ => 0, fun _ => 0, fun _ => 0, fun _ => 0, fun _ => 0, fun _ => 0, fun _ => 0, fun _ => 0, fun _ => 0, fun _ => 0, fun _ => 0, fun _ => 0, fun _ => 0, fR, fun _ => 0, fun _ => 0, fun _ => 0, fun _ => 0, fun j => if j = 6 then (-1) else 0, fK, fun _ => 0, fun _ => 0, fun _ => 0, fun _ => 0, fun _ => 0, fun j => if j = 0 then nI 1 else 0, fun j => if j = 0 then nI 1 else 0, fun j => if j = 0 then nI 1 else 0, fun j => if j = 0 then nI 1 else 0, fun _ => 0, fun _ => 0, fun _ => 0, fun _ => 0, fun _ => 0, fun _ => 0, fun _ => 0, fun _ => 0, fun _ => 0, fun _ => 0, fun _ => 0, fun _ => 0, fun _ => 0, fun _ => 0, upd (fun _ => 0) 0 (nI 999), fun _ => 0, fun _ => 0, fun _ => 0, fun _ => 0, fun _ => 0, fR, fun _ => 0, fun _ => 0, fK, fun _ => 0, fun _ => 0, fun _ => 0, fun _ => 0, fun _ => 0, fun _ => 0]
def tab2 : List (Nat → Int64) := [fun _ => 0, fun _ => 0, fun _ => 0, fun _ => 0, fun _ => 0, fun _ => 0, fun _ => 0, fun _ => 0, fun _ => 0, fun _ => 0, fun _ => 0, fun _ => 0, fun _ => 0, fun _ => 0, fun _ => 0, fun _ => 0, fun _ => 0, fun _ => 0, fun j => if j = 1 then lN 1 else 0, fun _ => 0, fun _ => 0, fun _ => 0, fun _ => 0, fun _ => 0, fun _ => 0, fun _ => 0, fun _ => 0, fun _ => 0, fun _ => 0, fun _ => 0, fun _ => 0, fun _ => 0, fun _ => 0, fun _ => 0, fun _ => 0, fun _ => 0, fun _ => 0, fun _ => 0, fun _ => 0, fun _ => 0, fun _ => 0, fun _ => 0, fun _ => 0, fun _ => 0, fun _ => 0, fun _ => 0, fun _ => 0, fun _ => 0, fun _ => 0, fun _ => 0, fun _ => 0, fun _ => 0, fun _ => 0, fun _ => 0, fun _ => 0, fun _ => 0, fun _ => 0, fun _ => 0, fun _ => 0, fun _ => 0, fun _ => 0, fun _ => 0, fun _ => 0, fun _ => 0, fun _ => 0, fun _ => 0, fun _ => 0, fun _ => 0, fun _ => 0, fun _ => 0, fun _ => 0, fun _ => 0, fun _ => 0]
def ρ0 : Rho := (fun k => tab1.getD k (fun _ => 0), fun k => tab2.getD k (fun _ => 0))
def adr0 (x : Nat) (u : Nat → Nat) (y : Nat) (v : Nat → Nat) (b : Nat) : Nat → Nat := fun k => [x, u 0, u 1, u 2, u 3, u 4, u 5, u 6, u 7, u 8, u 9, u 10, u 11, u 12, u 13, u 14, u 15, u 16, u 17, u 18, u 19, u 20, u 21, u 22, u 23, u 24, u 25, u 26, u 27, u 28, u 29, u 30, u 31, u 32, u 33, u 34, u 35, u 36, u 37, u 38, u 40, u 42, u 44, u 39, u 41, u 43, u 45, y, v 0, v 1, v 2, v 3, v 4, v 5, v 6, v 7, v 8, v 9, v 10, v 11, v 12, v 13, v 14, v 15, v 16, v 17, v 18, v 19, v 20, v 21, v 22, v 23, v 24, b].getD k 0
def prm : List Nat := [0, 1, 2, 3, 4, 5, 6, 7, 8, 9, 10, 11, 12, 13, 14, 15, 16, 17, 18, 19, 20, 21, 22, 23, 24, 25, 26, 27, 28, 29, 30, 31, 32, 33, 34, 35, 36, 37, 38, 39, 41, 43, 45, 40, 42, 44, 46, 47, 48, 49, 50, 51, 52, 53, 54, 55, 56, 57, 58, 59, 60, 61, 62, 63, 64, 65, 66, 67, 68, 69, 70, 71, 72]
theorem prm_inj : ∀ i, i < 73 → ∀ j, j < 73 → prm.getD i 0 = prm.getD j 0 → i = j := by decide +kernel
theorem fR_at (i : Nat) : fR i = nI (if i < 8 then i else 0) := by
  by_cases h : i < 8
  · match i, h with
    | 0, _ => rfl
    | 1, _ => rfl
    | 2, _ => rfl
    | 3, _ => rfl
    | 4, _ => rfl
    | 5, _ => rfl
    | 6, _ => rfl
    | 7, _ => rfl
  · rw [if_neg h]
    unfold fR upd
    rw [if_neg (by omega), if_neg (by omega), if_neg (by omega), if_neg (by omega), if_neg (by omega), if_neg (by omega), if_neg (by omega), if_neg (by omega)]
    rfl
theorem fK_at (i : Nat) : fK i = if i < 8 then -1 else 0 := by
  by_cases h : i < 8
  · match i, h with
    | 0, _ => rfl
    | 1, _ => rfl
    | 2, _ => rfl
    | 3, _ => rfl
    | 4, _ => rfl
    | 5, _ => rfl
    | 6, _ => rfl
    | 7, _ => rfl
  · rw [if_neg h]
    unfold fK upd
    rw [if_neg (by omega), if_neg (by omega), if_neg (by omega), if_neg (by omega), if_neg (by omega), if_neg (by omega), if_neg (by omega), if_neg (by omega)]
def σ0 : Sg := (fun k i => if k = 57 ∧ i = 0 then 999 else if k = 63 ∧ i < 8 then i else 0, fun k i => if k = 66 ∧ i < 8 then -1 else 0)
theorem s0_z {k i : Nat} (h1 : k ≠ 57 ∨ i ≠ 0) (h2 : k ≠ 63) : σ0.1 k i = 0 := by
  show (if k = 57 ∧ i = 0 then 999 else if k = 63 ∧ i < 8 then i else 0) = 0
  rw [if_neg (by omega), if_neg (by omega)]
theorem s0_63 (i : Nat) : σ0.1 63 i = if i < 8 then i else 0 := by
  show (if 63 = 57 ∧ i = 0 then 999 else if 63 = 63 ∧ i < 8 then i else 0) = _
  rw [if_neg (by omega)]
  by_cases h : i < 8
  · rw [if_pos ⟨rfl, h⟩, if_pos h]
  · rw [if_neg (fun q => h q.2), if_neg h]
theorem s0_66 (i : Nat) : σ0.2 66 i = if i < 8 then -1 else 0 := by
  show (if 66 = 66 ∧ i < 8 then (-1 : Int32) else 0) = _
  by_cases h : i < 8
  · rw [if_pos ⟨rfl, h⟩, if_pos h]
  · rw [if_neg (fun q => h q.2), if_neg h]
theorem s0_2z {k i : Nat} (h : k ≠ 66) : σ0.2 k i = 0 := by
  show (if k = 66 ∧ i < 8 then (-1 : Int32) else 0) = 0
  rw [if_neg (fun q => h q.1)]
theorem s0_wf : Wf σ0 := by
  have z : ∀ k i, k ≠ 57 → k ≠ 63 → σ0.1 k i = 0 := fun k i h1 h2 => s0_z (Or.inl h1) h2
  refine ⟨by rw [z _ _ (by decide) (by decide)]; decide, by rw [z _ _ (by decide) (by decide)]; decide, by rw [z _ _ (by decide) (by decide)]; decide, by rw [z _ _ (by decide) (by decide)]; decide, fun i => by rw [z _ _ (by decide) (by decide)]; decide, fun i => by rw [z _ _ (by decide) (by decide)]; decide, fun i => by rw [z _ _ (by decide) (by decide)]; decide, fun i => by rw [z _ _ (by decide) (by decide)]; decide, fun i => by rw [z _ _ (by decide) (by decide)]; decide, by decide, by rw [s0_z (Or.inr (by decide)) (by decide)]; decide, by rw [s0_z (Or.inr (by decide)) (by decide)]; decide, fun i => by rw [z _ _ (by decide) (by decide)]; decide, fun i => by rw [s0_63]; split <;> omega, fun i => by rw [z _ _ (by decide) (by decide)]; decide, fun i => by rw [z _ _ (by decide) (by decide)]; decide, fun i => by rw [z _ _ (by decide) (by decide)]; decide, fun i => ?_, fun i => Or.inr ⟨0, by decide, s0_2z (by decide)⟩⟩
  rw [s0_66]
  by_cases h : i < 8
  · rw [if_pos h]; exact Or.inl rfl
  · rw [if_neg h]; exact Or.inr ⟨0, by decide, rfl⟩
theorem r0_z {k i n : Nat} (h : ρ0.1 k i = 0) (hn : n = 0) : ρ0.1 k i = nI n := by rw [h, hn]; rfl
theorem r0_57 (i : Nat) : ρ0.1 57 i = nI (σ0.1 57 i) := by
  by_cases h : i = 0
  · subst h; rfl
  · rw [s0_z (Or.inr h) (by decide)]
    show upd (fun _ => 0) 0 (nI 999) i = nI 0
    unfold upd
    rw [if_neg h]
    rfl
theorem r0_63 (k i : Nat) (hk : ρ0.1 k i = fR i) : ρ0.1 k i = nI (σ0.1 63 i) := by rw [hk, fR_at, s0_63]
theorem r0_66 (k i : Nat) (hk : ρ0.1 k i = fK i) : ρ0.1 k i = σ0.2 66 i := by rw [hk, fK_at, s0_66]
theorem m0 : MInv σ0 ρ0 := by
  refine ⟨s0_wf, fun k hk i => ?_, fun k hk i => ?_, fun i hi => ?_⟩
  · simp only [mNs, List.mem_cons, List.not_mem_nil, or_false] at hk
    rcases hk with rfl | rfl | rfl | rfl | rfl | rfl | rfl | rfl | rfl | rfl | rfl
    · exact r0_z rfl (s0_z (Or.inl (by decide)) (by decide))
    · exact r0_z rfl (s0_z (Or.inl (by decide)) (by decide))
    · exact r0_z rfl (s0_z (Or.inl (by decide)) (by decide))
    · exact r0_z rfl (s0_z (Or.inl (by decide)) (by decide))
    · exact r0_z rfl (s0_z (Or.inl (by decide)) (by decide))
    · exact r0_57 i
    · exact r0_z rfl (s0_z (Or.inl (by decide)) (by decide))
    · exact r0_63 _ _ rfl
    · exact r0_z rfl (s0_z (Or.inl (by decide)) (by decide))
    · exact r0_z rfl (s0_z (Or.inl (by decide)) (by decide))
    · exact r0_z rfl (s0_z (Or.inl (by decide)) (by decide))
  · simp only [mZs, List.mem_cons, List.not_mem_nil, or_false] at hk
    rcases hk with rfl | rfl | rfl
    · rw [s0_2z (by decide)]; rfl
    · exact r0_66 _ _ rfl
    · rw [s0_2z (by decide)]; rfl
  · exact r0_z rfl (s0_z (Or.inl (by decide)) (by decide))
theorem flt0 : Flt σ0 = nI 0 := by
  have hb : bA σ0 0 = -1 := bA_ne (by rw [s0_z (Or.inl (by decide)) (by decide)]; decide)
  have ht : tOf (bA σ0 0) = -1 := by rw [hb]; decide
  have hf : fsg σ0 8 0 = some 0 := by rw [fsg, if_pos ht]
  unfold Flt LPr
  rw [hf]
theorem flt0n : ¬ Flt σ0 = -1 := by rw [flt0]; decide
theorem c0 : CInv σ0 ρ0 := by
  refine ⟨⟨s0_wf, fun q hq i => ?_, fun q hq i => ?_, fun q hq => ?_, fun t ht => ?_, rfl, rfl⟩, ⟨fun p hp => ?_, fun p hp => ?_, ?_, fun k hk => ?_, ?_⟩, fun d hd => ?_⟩
  · rcases mN_in hq with e | e | e | e | e | e | e <;> cases e
    · exact r0_z rfl (s0_z (Or.inl (by decide)) (by decide))
    · exact r0_z rfl (s0_z (Or.inl (by decide)) (by decide))
    · exact r0_z rfl (s0_z (Or.inl (by decide)) (by decide))
    · exact r0_z rfl (s0_z (Or.inl (by decide)) (by decide))
    · exact r0_z rfl (s0_z (Or.inl (by decide)) (by decide))
    · exact r0_63 _ _ rfl
    · exact r0_z rfl (s0_z (Or.inl (by decide)) (by decide))
  · rcases mZ_in hq with e | e <;> cases e
    · exact (s0_2z (by decide)).symm
    · exact r0_66 _ _ rfl
  · rcases mS_in hq with e | e | e | e | e | e | e <;> cases e
    · exact r0_z rfl (s0_z (Or.inl (by decide)) (by decide))
    · exact r0_z rfl (s0_z (Or.inl (by decide)) (by decide))
    · exact r0_z rfl (s0_z (Or.inl (by decide)) (by decide))
    · rfl
    · exact r0_z rfl (s0_z (Or.inr (by decide)) (by decide))
    · exact r0_z rfl (s0_z (Or.inr (by decide)) (by decide))
    · exact r0_z rfl (s0_z (Or.inl (by decide)) (by decide))
  · rw [s0_z (k := 68) (Or.inl (by decide)) (by decide), s0_z (k := 69) (Or.inl (by decide)) (by decide), s0_z (k := 70) (Or.inl (by decide)) (by decide)]
    match t, ht with
    | 0, _ => exact ⟨rfl, rfl, rfl, fun i _ => (s0_2z (by decide)).symm⟩
    | 1, _ => exact ⟨rfl, rfl, rfl, fun i _ => (s0_2z (by decide)).symm⟩
    | 2, _ => exact ⟨rfl, rfl, rfl, fun i _ => (s0_2z (by decide)).symm⟩
    | 3, _ => exact ⟨rfl, rfl, rfl, fun i _ => (s0_2z (by decide)).symm⟩
  · exact r0_z rfl (if_neg flt0n)
  · exact r0_z rfl (if_neg flt0n)
  · exact r0_z rfl (if_neg flt0n)
  · rw [show NB σ0 = 0 from if_neg flt0n] at hk; omega
  · rw [flt0]; rfl
  · refine r0_z rfl ?_
    unfold Tn
    rw [s0_z (k := 57) (i := 2) (Or.inr (by decide)) (by decide), s0_z (k := 47) (i := 7) (Or.inl (by decide)) (by decide)]
    rfl
theorem st_place (ct : Nat → ClassId) (x : Nat) (u : Nat → Nat) (y : Nat) (v : Nat → Nat) (b : Nat) : ∀ k, k < 73 → ∃ e, (qX7 ct x u ++ qX8 ct y v)[prm.getD k 0]? = some (adr0 x u y v b k, e) := fun k hk => by
  match k, hk with
  | 0, _ => exact ⟨_, rfl⟩
  | 1, _ => exact ⟨_, rfl⟩
  | 2, _ => exact ⟨_, rfl⟩
  | 3, _ => exact ⟨_, rfl⟩
  | 4, _ => exact ⟨_, rfl⟩
  | 5, _ => exact ⟨_, rfl⟩
  | 6, _ => exact ⟨_, rfl⟩
  | 7, _ => exact ⟨_, rfl⟩
  | 8, _ => exact ⟨_, rfl⟩
  | 9, _ => exact ⟨_, rfl⟩
  | 10, _ => exact ⟨_, rfl⟩
  | 11, _ => exact ⟨_, rfl⟩
  | 12, _ => exact ⟨_, rfl⟩
  | 13, _ => exact ⟨_, rfl⟩
  | 14, _ => exact ⟨_, rfl⟩
  | 15, _ => exact ⟨_, rfl⟩
  | 16, _ => exact ⟨_, rfl⟩
  | 17, _ => exact ⟨_, rfl⟩
  | 18, _ => exact ⟨_, rfl⟩
  | 19, _ => exact ⟨_, rfl⟩
  | 20, _ => exact ⟨_, rfl⟩
  | 21, _ => exact ⟨_, rfl⟩
  | 22, _ => exact ⟨_, rfl⟩
  | 23, _ => exact ⟨_, rfl⟩
  | 24, _ => exact ⟨_, rfl⟩
  | 25, _ => exact ⟨_, rfl⟩
  | 26, _ => exact ⟨_, rfl⟩
  | 27, _ => exact ⟨_, rfl⟩
  | 28, _ => exact ⟨_, rfl⟩
  | 29, _ => exact ⟨_, rfl⟩
  | 30, _ => exact ⟨_, rfl⟩
  | 31, _ => exact ⟨_, rfl⟩
  | 32, _ => exact ⟨_, rfl⟩
  | 33, _ => exact ⟨_, rfl⟩
  | 34, _ => exact ⟨_, rfl⟩
  | 35, _ => exact ⟨_, rfl⟩
  | 36, _ => exact ⟨_, rfl⟩
  | 37, _ => exact ⟨_, rfl⟩
  | 38, _ => exact ⟨_, rfl⟩
  | 39, _ => exact ⟨_, rfl⟩
  | 40, _ => exact ⟨_, rfl⟩
  | 41, _ => exact ⟨_, rfl⟩
  | 42, _ => exact ⟨_, rfl⟩
  | 43, _ => exact ⟨_, rfl⟩
  | 44, _ => exact ⟨_, rfl⟩
  | 45, _ => exact ⟨_, rfl⟩
  | 46, _ => exact ⟨_, rfl⟩
  | 47, _ => exact ⟨_, rfl⟩
  | 48, _ => exact ⟨_, rfl⟩
  | 49, _ => exact ⟨_, rfl⟩
  | 50, _ => exact ⟨_, rfl⟩
  | 51, _ => exact ⟨_, rfl⟩
  | 52, _ => exact ⟨_, rfl⟩
  | 53, _ => exact ⟨_, rfl⟩
  | 54, _ => exact ⟨_, rfl⟩
  | 55, _ => exact ⟨_, rfl⟩
  | 56, _ => exact ⟨_, rfl⟩
  | 57, _ => exact ⟨_, rfl⟩
  | 58, _ => exact ⟨_, rfl⟩
  | 59, _ => exact ⟨_, rfl⟩
  | 60, _ => exact ⟨_, rfl⟩
  | 61, _ => exact ⟨_, rfl⟩
  | 62, _ => exact ⟨_, rfl⟩
  | 63, _ => exact ⟨_, rfl⟩
  | 64, _ => exact ⟨_, rfl⟩
  | 65, _ => exact ⟨_, rfl⟩
  | 66, _ => exact ⟨_, rfl⟩
  | 67, _ => exact ⟨_, rfl⟩
  | 68, _ => exact ⟨_, rfl⟩
  | 69, _ => exact ⟨_, rfl⟩
  | 70, _ => exact ⟨_, rfl⟩
  | 71, _ => exact ⟨_, rfl⟩
  | 72, _ => exact ⟨_, rfl⟩
  | n + 73, h => exact absurd h (by omega)
set_option maxHeartbeats 4000000 in
set_option maxRecDepth 100000 in
theorem st_P {D : va_G} {ct : Nat → ClassId} {x : Nat} {u : Nat → Nat} {y : Nat} {v : Nat → Nat} {b : Nat} {H : Heap} (hP : va_P D CL (qX7 ct x u ++ qX8 ct y v) H) : va_P D CL (wsO ((D, adr0 x u y v b, ct) : Wd) ρ0) H := fun k q hk => by
  have h73 : k < NC := by
    have := (List.getElem?_eq_some_iff.mp hk).1
    simpa [wsO] using this
  rw [wsO_at h73] at hk
  cases hk
  match k, h73 with
  | 0, _ => exact hP 0 _ rfl
  | 1, _ => exact hP 1 _ rfl
  | 2, _ => exact hP 2 _ rfl
  | 3, _ => exact hP 3 _ rfl
  | 4, _ => exact hP 4 _ rfl
  | 5, _ => exact hP 5 _ rfl
  | 6, _ => exact hP 6 _ rfl
  | 7, _ => exact hP 7 _ rfl
  | 8, _ => exact hP 8 _ rfl
  | 9, _ => exact hP 9 _ rfl
  | 10, _ => exact hP 10 _ rfl
  | 11, _ => exact hP 11 _ rfl
  | 12, _ => exact hP 12 _ rfl
  | 13, _ => exact hP 13 _ rfl
  | 14, _ => exact hP 14 _ rfl
  | 15, _ => exact hP 15 _ rfl
  | 16, _ => exact hP 16 _ rfl
  | 17, _ => exact hP 17 _ rfl
  | 18, _ => exact hP 18 _ rfl
  | 19, _ => exact hP 19 _ rfl
  | 20, _ => exact hP 20 _ rfl
  | 21, _ => exact hP 21 _ rfl
  | 22, _ => exact hP 22 _ rfl
  | 23, _ => exact hP 23 _ rfl
  | 24, _ => exact hP 24 _ rfl
  | 25, _ => exact hP 25 _ rfl
  | 26, _ => exact hP 26 _ rfl
  | 27, _ => exact hP 27 _ rfl
  | 28, _ => exact hP 28 _ rfl
  | 29, _ => exact hP 29 _ rfl
  | 30, _ => exact hP 30 _ rfl
  | 31, _ => exact hP 31 _ rfl
  | 32, _ => exact hP 32 _ rfl
  | 33, _ => exact hP 33 _ rfl
  | 34, _ => exact hP 34 _ rfl
  | 35, _ => exact hP 35 _ rfl
  | 36, _ => exact hP 36 _ rfl
  | 37, _ => exact hP 37 _ rfl
  | 38, _ => exact (show _ = _ from hP 38 _ rfl).trans (congrArg some (arrV4 (fun j hj => by
      match j, hj with
      | 0, _ => rfl
      | 1, _ => rfl
      | 2, _ => rfl
      | 3, _ => rfl)))
  | 39, _ => exact hP 39 _ rfl
  | 40, _ => exact hP 41 _ rfl
  | 41, _ => exact hP 43 _ rfl
  | 42, _ => exact hP 45 _ rfl
  | 43, _ => exact hP 40 _ rfl
  | 44, _ => exact hP 42 _ rfl
  | 45, _ => exact hP 44 _ rfl
  | 46, _ => exact hP 46 _ rfl
  | 47, _ => exact hP 47 _ rfl
  | 48, _ => exact hP 48 _ rfl
  | 49, _ => exact hP 49 _ rfl
  | 50, _ => exact hP 50 _ rfl
  | 51, _ => exact hP 51 _ rfl
  | 52, _ => exact hP 52 _ rfl
  | 53, _ => exact hP 53 _ rfl
  | 54, _ => exact hP 54 _ rfl
  | 55, _ => exact hP 55 _ rfl
  | 56, _ => exact hP 56 _ rfl
  | 57, _ => exact hP 57 _ rfl
  | 58, _ => exact hP 58 _ rfl
  | 59, _ => exact hP 59 _ rfl
  | 60, _ => exact hP 60 _ rfl
  | 61, _ => exact hP 61 _ rfl
  | 62, _ => exact hP 62 _ rfl
  | 63, _ => exact hP 63 _ rfl
  | 64, _ => exact hP 64 _ rfl
  | 65, _ => exact hP 65 _ rfl
  | 66, _ => exact hP 66 _ rfl
  | 67, _ => exact hP 67 _ rfl
  | 68, _ => exact hP 68 _ rfl
  | 69, _ => exact hP 69 _ rfl
  | 70, _ => exact hP 70 _ rfl
  | 71, _ => exact hP 71 _ rfl
  | 72, _ => exact hP 72 _ rfl
  | n + 73, h => exact absurd h (by unfold NC; omega)
theorem st_G {D : va_G} {ct : Nat → ClassId} {x : Nat} {u : Nat → Nat} {y : Nat} {v : Nat → Nat} {b : Nat} {A : Nat → Prop} (hD : va_D A (qX7 ct x u ++ qX8 ct y v)) : Gd ((D, adr0 x u y v b, ct) : Wd) ∧ ∀ k, k < NC → A (adr0 x u y v b k) := by
  refine ⟨fun i j hi hj h => ?_, fun k hk => ?_⟩
  · obtain ⟨e1, h1⟩ := st_place ct x u y v b i hi
    obtain ⟨e2, h2⟩ := st_place ct x u y v b j hj
    exact prm_inj i hi j hj (hD.1 _ _ _ _ h1 h2 h)
  · obtain ⟨e1, h1⟩ := st_place ct x u y v b k hk
    exact hD.2 _ _ h1

