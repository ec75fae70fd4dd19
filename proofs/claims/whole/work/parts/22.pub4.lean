theorem mmin_code : Lib.Math.min.code = cJ9_min_7cf53 := by decide +kernel
theorem mmax_code : Lib.Math.max.code = cJ9_max_7cf53 := by decide +kernel
section
variable {M : Mth} {j pc nx idx : Nat} {ls : List (Option Value)} {rest : List Value} {ρ : Rho} {Q : Option Value → Rho → Prop}
theorem w_mmin {x y : Int32} (hd : D0 M pc (.invokestatic idx) 3 nx) (hl : SLk M mJ9_min_7cf53 idx 2) (hj : 0 < j) (hw : (rest.map fun v => v.category).sum ≤ 8) (k : MW M j nx ls (.int (if y < x then y else x) :: rest) ρ Q) : MW M j pc ls (.int y :: .int x :: rest) ρ Q := by
  obtain ⟨hd, rfl⟩ := hd
  obtain ⟨l1, l2, l3, l4, -⟩ := hl
  exact fun G p l e s m args below meth c H locs rls C D => by
    have B := C.2.2.2.2.2.1
    exact va_mmin C.1 C.2.1 (C.2.2.1.trans (rls_size D).symm) C.2.2.2.2.1 (B _ l1) (B _ l2) (B _ l3) (by rw [mmin_code]; exact B _ l4) (show 1 ≤ j by omega) (by rw [cat_rv]; show _ ≤ 40 * j; omega) (Nat.le_refl _) (Nat.le_refl _) hd (k G p l e s m args below meth c H locs rls C D)
theorem w_mmax {x y : Int32} (hd : D0 M pc (.invokestatic idx) 3 nx) (hl : SLk M mJ9_max_7cf53 idx 2) (hj : 0 < j) (hw : (rest.map fun v => v.category).sum ≤ 8) (k : MW M j nx ls (.int (if x < y then y else x) :: rest) ρ Q) : MW M j pc ls (.int y :: .int x :: rest) ρ Q := by
  obtain ⟨hd, rfl⟩ := hd
  obtain ⟨l1, l2, l3, l4, -⟩ := hl
  exact fun G p l e s m args below meth c H locs rls C D => by
    have B := C.2.2.2.2.2.1
    exact va_mmax C.1 C.2.1 (C.2.2.1.trans (rls_size D).symm) C.2.2.2.2.1 (B _ l1) (B _ l2) (B _ l3) (by rw [mmax_code]; exact B _ l4) (show 1 ≤ j by omega) (by rw [cat_rv]; show _ ≤ 40 * j; omega) (Nat.le_refl _) (Nat.le_refl _) hd (k G p l e s m args below meth c H locs rls C D)
theorem w_mminN {a b : Nat} (hd : D0 M pc (.invokestatic idx) 3 nx) (hl : SLk M mJ9_min_7cf53 idx 2) (hj : 0 < j) (hw : (rest.map fun v => v.category).sum ≤ 8) (ha : a < 2 ^ 31) (hb : b < 2 ^ 31) (k : MW M j nx ls (.int (nI (min a b)) :: rest) ρ Q) : MW M j pc ls (.int (nI b) :: .int (nI a) :: rest) ρ Q := w_mmin hd hl hj hw (by
  have e : (if nI b < nI a then nI b else nI a) = nI (min a b) := by
    by_cases h : b < a
    · rw [if_pos ((nI_ltI hb ha).mpr h), show min a b = b by omega]
    · rw [if_neg (fun q => h ((nI_ltI hb ha).mp q)), show min a b = a by omega]
  rw [e]
  exact k)
theorem w_mmaxN {a b : Nat} (hd : D0 M pc (.invokestatic idx) 3 nx) (hl : SLk M mJ9_max_7cf53 idx 2) (hj : 0 < j) (hw : (rest.map fun v => v.category).sum ≤ 8) (ha : a < 2 ^ 31) (hb : b < 2 ^ 31) (k : MW M j nx ls (.int (nI (max a b)) :: rest) ρ Q) : MW M j pc ls (.int (nI b) :: .int (nI a) :: rest) ρ Q := w_mmax hd hl hj hw (by
  have e : (if nI a < nI b then nI b else nI a) = nI (max a b) := by
    by_cases h : a < b
    · rw [if_pos ((nI_ltI ha hb).mpr h), show max a b = b by omega]
    · rw [if_neg (fun q => h ((nI_ltI ha hb).mp q)), show max a b = a by omega]
  rw [e]
  exact k)
end
theorem kCp_1 {σ : Sg} {s t : Nat} {i j n : Int32} (h : σ.1 68 s = 0 ∨ σ.1 68 t = 0) : kCp σ s t i j n = 1 := if_pos h
theorem kCp_4 {σ : Sg} {s t : Nat} {i j n : Int32} (h : ¬ (σ.1 68 s = 0 ∨ σ.1 68 t = 0)) (h2 : σ.1 69 s ≠ σ.1 69 t) : kCp σ s t i j n = 4 := by rw [kCp, if_neg h, if_pos h2]
theorem kCp_2 {σ : Sg} {s t : Nat} {i j n : Int32} (h : ¬ (σ.1 68 s = 0 ∨ σ.1 68 t = 0)) (h2 : σ.1 69 s = σ.1 69 t) (h3 : ¬ (hasS (σ.1 70 s) i n ∧ hasS (σ.1 70 t) j n)) : kCp σ s t i j n = 2 := by rw [kCp, if_neg h, if_neg (fun q => q h2), if_neg h3]
theorem kCp_0 {σ : Sg} {s t : Nat} {i j n : Int32} (h : ¬ (σ.1 68 s = 0 ∨ σ.1 68 t = 0)) (h2 : σ.1 69 s = σ.1 69 t) (h3 : hasS (σ.1 70 s) i n ∧ hasS (σ.1 70 t) j n) : kCp σ s t i j n = 0 := by rw [kCp, if_neg h, if_neg (fun q => q h2), if_pos h3]
/-- gales out of the items of a sheet: k of them are looked at -/
def rdS (t c : Nat) : Nat → Nat → Sg → Sg × Nat
  | 0, i, σ => (σ, i)
  | k + 1, i, σ => if inR (σ.2 71 (60 * t + i)) (nI 0) (nI 99) ∧ σ.1 47 7 ≠ 60 then rdS t c k (i + 1) (addG σ (nv (σ.2 71 (60 * t + i))) 0 c) else (σ, i)
abbrev g_read (σ : Sg) (s t : Int32) : Prop := inR s (nI 0) (nI 3) ∧ inR t (nI (σ.1 47 12)) (nI 999)
def r_read (σ : Sg) (s t : Int32) : Int32 := if g_read σ s t then (if σ.1 68 (nv s) = 0 then -10 - nI 1 else nI (rdS (nv s) (nv t) (σ.1 70 (nv s)) 0 σ).2) else -2
def n_read (σ : Sg) (s t : Int32) : Sg := if g_read σ s t then (if σ.1 68 (nv s) = 0 then sN σ 47 29 1 else (rdS (nv s) (nv t) (σ.1 70 (nv s)) 0 σ).1) else σ
theorem addG_sh (σ : Sg) (d f t : Nat) : (addG σ d f t).1 68 = σ.1 68 ∧ (addG σ d f t).1 69 = σ.1 69 ∧ (addG σ d f t).1 70 = σ.1 70 ∧ (addG σ d f t).2 71 = σ.2 71 := by
  refine ⟨?_, ?_, ?_, ?_⟩ <;> funext b <;> simp [addG, sN, sZ]
theorem addG_last (σ : Sg) (d f t : Nat) : (addG σ d f t).1 47 12 = t := by simp [addG, sN, sZ]
/-- a gale from the west out of a sheet, at a TIME that may be told -/
theorem gale_west {σ : Sg} {x : Int32} {c : Nat} (hw : Wf σ) (h1 : σ.1 47 12 ≤ c) (h2 : c ≤ 999) : g_gale σ x (nI 0) (nI c) ↔ inR x (nI 0) (nI 99) := by
  have := hw.last
  exact ⟨fun h => h.1, fun h => ⟨h, nI_inR (by omega) (by decide), (nI_leI (by omega) (by omega)).mpr h1, (nI_leI (by omega) (by omega)).mpr h2⟩⟩
theorem rd_y {σ : Sg} {x : Int32} {c : Nat} (hw : Wf σ) (h1 : σ.1 47 12 ≤ c) (h2 : c ≤ 999) (h : ¬ r_gale σ x (nI 0) (nI c) < 0) : (inR x (nI 0) (nI 99) ∧ σ.1 47 7 ≠ 60) ∧ n_gale σ x (nI 0) (nI c) = addG σ (nv x) 0 c := by
  unfold r_gale at h
  have hg := gale_west (x := x) hw h1 h2
  by_cases g : g_gale σ x (nI 0) (nI c)
  · rw [if_pos g] at h
    by_cases e : σ.1 47 7 = 60
    · rw [if_pos e] at h
      exact absurd (by decide) h
    · refine ⟨⟨hg.mp g, e⟩, ?_⟩
      rw [n_gale, if_pos g, if_neg e, nv_nI (by decide), nv_nI (by omega)]
  · rw [if_neg g] at h
    exact absurd (by decide) h
theorem rd_n {σ : Sg} {x : Int32} {c : Nat} (hw : Wf σ) (h1 : σ.1 47 12 ≤ c) (h2 : c ≤ 999) (h : r_gale σ x (nI 0) (nI c) < 0) : ¬ (inR x (nI 0) (nI 99) ∧ σ.1 47 7 ≠ 60) ∧ n_gale σ x (nI 0) (nI c) = σ := by
  unfold r_gale at h
  have hg := gale_west (x := x) hw h1 h2
  by_cases g : g_gale σ x (nI 0) (nI c)
  · rw [if_pos g] at h
    by_cases e : σ.1 47 7 = 60
    · exact ⟨fun q => q.2 e, by rw [n_gale, if_pos g, if_pos e]⟩
    · rw [if_neg e] at h
      exact absurd h (nI_pos (by have := hw.gales; omega))
  · exact ⟨fun q => g (hg.mpr q.1), by rw [n_gale, if_neg g]⟩
set_option maxHeartbeats 4000000 in
theorem c_X4_has (ρ : Rho) (t z : Nat) (i n : Int32) (hf : ρ.1 (39 + t) 2 = nI z) (hz : z ≤ 60) (ht : t < 4) : CallOK 0 mX4_has [.ref (39 + t), .int i, .int n] ρ (fun r ρ2 => r = some (.int (b2i (hasS z i n))) ∧ ρ2 = ρ) := by
  refine callOK_of 0 (by decide +kernel) rfl (fun _ => Nat.le_of_ble_eq_true rfl) (ls := [some (.ref (39 + t)), some (.int i), some (.int n)]) rfl ?_
  generalize hQ : (fun r ρ2 => r = some (.int (b2i (hasS z i n))) ∧ ρ2 = ρ : Option Value → Rho → Prop) = Q
  refine w_il dX4_has_0 rfl ?_
  refine w_iflt dX4_has_1 (fun h1 => ?_) (fun h1 => ?_)
  · --t
    refine w_k dX4_has_30 ?_
    refine w_zret dX4_has_31 rfl rfl ?_
    rw [← hQ]
    exact ⟨congrArg (fun z => some (Value.int z)) (b2i_f (fun z => z.1 h1)).symm, rfl⟩
  · --f
    refine w_il dX4_has_4 rfl ?_
    refine w_iflt dX4_has_5 (fun h5 => ?_) (fun h5 => ?_)
    · --t
      refine w_k dX4_has_30 ?_
      refine w_zret dX4_has_31 rfl rfl ?_
      rw [← hQ]
      exact ⟨congrArg (fun z => some (Value.int z)) (b2i_f (fun z => z.2.1 h5)).symm, rfl⟩
    · --f
      refine w_il dX4_has_8 rfl ?_
      refine w_al dX4_has_9 rfl ?_
      refine w_giV (v := (nI z)) dX4_has_10 fl_X4_19 (sh_sheet (by omega)) rfl (hf) ?_
      refine w_icgt dX4_has_13 (fun h13 => ?_) (fun h13 => ?_)
      · --t
        refine w_k dX4_has_30 ?_
        refine w_zret dX4_has_31 rfl rfl ?_
        rw [← hQ]
        exact ⟨congrArg (fun z => some (Value.int z)) (b2i_f (has_f13 hz h13)).symm, rfl⟩
      · --f
        refine w_il dX4_has_16 rfl ?_
        refine w_al dX4_has_17 rfl ?_
        refine w_giV (v := (nI z)) dX4_has_18 fl_X4_19 (sh_sheet (by omega)) rfl (hf) ?_
        refine w_il dX4_has_21 rfl ?_
        refine w_isub dX4_has_22 ?_
        refine w_icgt dX4_has_23 (fun h23 => ?_) (fun h23 => ?_)
        · --t
          refine w_k dX4_has_30 ?_
          refine w_zret dX4_has_31 rfl rfl ?_
          rw [← hQ]
          exact ⟨congrArg (fun z => some (Value.int z)) (b2i_f (has_f23 hz h13 h23)).symm, rfl⟩
        · --f
          refine w_k dX4_has_26 ?_
          refine w_goto dX4_has_27 ?_
          refine w_zret dX4_has_31 rfl rfl ?_
          rw [← hQ]
          exact ⟨congrArg (fun z => some (Value.int z)) (b2i_t (has_t hz h1 h5 h13 h23)).symm, rfl⟩

set_option maxHeartbeats 4000000 in
theorem c_X7_copy (ρ : Rho) (σ : Sg) (p : Int32) (i : Int32) (q : Int32) (j : Int32) (n : Int32) (hC : CInv σ ρ) : CallOK 2 mX7_copy [.ref 0, .int p, .int i, .int q, .int j, .int n] ρ (fun r ρ2 => ∃ v, r = some v ∧ (v = .int (r_copy σ p i q j n) ∧ CInv (n_copy σ p i q j n) ρ2 ∧ EqM ρ ρ2)) := by
  refine callOK_of 2 (by decide +kernel) rfl (fun _ => Nat.le_of_ble_eq_true rfl) (ls := [some (.ref 0), some (.int p), some (.int i), some (.int q), some (.int j), some (.int n), none, none]) rfl ?_
  generalize hQ : (fun r ρ2 => ∃ v, r = some v ∧ (v = .int (r_copy σ p i q j n) ∧ CInv (n_copy σ p i q j n) ρ2 ∧ EqM ρ ρ2) : Option Value → Rho → Prop) = Q
  refine w_il dX7_copy_0 rfl ?_
  refine w_cSf dX7_copy_1 (sl_X7_116 _ rfl) (by decide) (c_X7_isSheet ρ p) rfl rfl (Nat.le_of_ble_eq_true rfl) ?_
  refine w_ifeqB dX7_copy_4 (fun h4 => ?_) (fun h4 => ?_)
  · --t
    refine w_k dX7_copy_14 ?_
    refine w_iret dX7_copy_16 rfl ?_
    rw [← hQ]
    exact ⟨_, rfl, by rw [r_copy, if_neg (fun z => h4 z.1)], by rw [n_copy, if_neg (fun z => h4 z.1)]; exact ⟨hC.1, hC.2.1, hC.2.2⟩, EqM.rf⟩
  · --f
    obtain ⟨x, hx, rfl⟩ := inR_nI h4 (by decide)
    refine w_il dX7_copy_7 rfl ?_
    refine w_cSf dX7_copy_8 (sl_X7_116 _ rfl) (by decide) (c_X7_isSheet ρ q) rfl rfl (Nat.le_of_ble_eq_true rfl) ?_
    refine w_ifneB dX7_copy_11 (fun h11 => ?_) (fun h11 => ?_)
    · --t
      obtain ⟨y, hy, rfl⟩ := inR_nI h11 (by decide)
      have w1 := hC.1.1.form x
      have w2 := hC.1.1.form y
      have w3 := hC.1.1.size x
      have w4 := hC.1.1.size y
      refine w_al dX7_copy_17 rfl ?_
      refine w_gr dX7_copy_18 fl_X7_56 sh0 rfl ?_
      refine w_il dX7_copy_21 rfl ?_
      refine w_aaldN (b := 39) dX7_copy_22 sh38 (by omega) ?_
      refine w_as (ls2 := [some (.ref 0), some (.int (nI x)), some (.int i), some (.int (nI y)), some (.int j), some (.int n), some (.ref (39 + x)), none]) dX7_copy_23 rfl ?_
      refine w_al dX7_copy_25 rfl ?_
      refine w_gr dX7_copy_26 fl_X7_56 sh0 rfl ?_
      refine w_il dX7_copy_29 rfl ?_
      refine w_aaldN (b := 39) dX7_copy_30 sh38 (by omega) ?_
      refine w_as (ls2 := [some (.ref 0), some (.int (nI x)), some (.int i), some (.int (nI y)), some (.int j), some (.int n), some (.ref (39 + x)), some (.ref (39 + y))]) dX7_copy_31 rfl ?_
      refine w_al dX7_copy_33 rfl ?_
      refine w_giV (v := (nI (1 - σ.1 68 x))) dX7_copy_35 fl_X7_119 (sh_sheet (by omega)) rfl ((hC.1.2.2.2.2.1 x (by omega)).1) ?_
      refine w_ifneN dX7_copy_38 (by omega) (fun h38 => ?_) (fun h38 => ?_)
      · --t
        refine w_al dX7_copy_49 rfl ?_
        refine w_k dX7_copy_50 ?_
        refine w_cVf dX7_copy_51 (vl_X7_123 _ rfl) sh0 (by decide) (c_X7_found ρ 1) rfl rfl (Nat.le_of_ble_eq_true rfl) ?_
        have e := kCp_1 (σ := σ) (s := x) (t := y) (i := i) (j := j) (n := n) (Or.inl (by omega))
        refine w_iret dX7_copy_54 rfl ?_
        rw [← hQ]
        exact ⟨_, rfl, by rw [r_copy, if_pos ⟨h4, h11⟩, nv_nI (by omega), nv_nI (by omega), e, if_neg (by decide)], by rw [n_copy, if_pos ⟨h4, h11⟩, nv_nI (by omega), nv_nI (by omega), e, if_neg (by decide)]; exact hC.find (by omega), (EqM.only EqM.rf only_wI (by decide))⟩
      · --f
        refine w_al dX7_copy_41 rfl ?_
        refine w_giV (v := (nI (1 - σ.1 68 y))) dX7_copy_43 fl_X7_119 (sh_sheet (by omega)) rfl ((hC.1.2.2.2.2.1 y (by omega)).1) ?_
        refine w_ifeqN dX7_copy_46 (by omega) (fun h46 => ?_) (fun h46 => ?_)
        · --t
          refine w_al dX7_copy_55 rfl ?_
          refine w_giV (v := (nI (σ.1 69 x))) dX7_copy_57 fl_X7_283 (sh_sheet (by omega)) rfl ((hC.1.2.2.2.2.1 x (by omega)).2.1) ?_
          refine w_al dX7_copy_60 rfl ?_
          refine w_giV (v := (nI (σ.1 69 y))) dX7_copy_62 fl_X7_283 (sh_sheet (by omega)) rfl ((hC.1.2.2.2.2.1 y (by omega)).2.1) ?_
          refine w_iceqN dX7_copy_65 (by omega) (by omega) (fun h65 => ?_) (fun h65 => ?_)
          · --t
            refine w_al dX7_copy_74 rfl ?_
            refine w_il dX7_copy_76 rfl ?_
            refine w_il dX7_copy_77 rfl ?_
            refine w_cVf dX7_copy_79 (vl_X7_286 _ rfl) (sh_sheet (by omega)) (by decide) (c_X4_has ρ x (σ.1 70 x) i n (hC.1.2.2.2.2.1 x (by omega)).2.2.1 (by omega) (by omega)) rfl rfl (Nat.le_of_ble_eq_true rfl) ?_
            refine w_ifeqB dX7_copy_82 (fun h82 => ?_) (fun h82 => ?_)
            · --t
              refine w_al dX7_copy_97 rfl ?_
              refine w_k dX7_copy_98 ?_
              refine w_cVf dX7_copy_99 (vl_X7_123 _ rfl) sh0 (by decide) (c_X7_found ρ 2) rfl rfl (Nat.le_of_ble_eq_true rfl) ?_
              have e := kCp_2 (i := i) (j := j) (n := n) (show ¬ (σ.1 68 x = 0 ∨ σ.1 68 y = 0) by omega) h65 (fun q => h82 q.1)
              refine w_iret dX7_copy_102 rfl ?_
              rw [← hQ]
              exact ⟨_, rfl, by rw [r_copy, if_pos ⟨h4, h11⟩, nv_nI (by omega), nv_nI (by omega), e, if_neg (by decide)], by rw [n_copy, if_pos ⟨h4, h11⟩, nv_nI (by omega), nv_nI (by omega), e, if_neg (by decide)]; exact hC.find (by omega), (EqM.only EqM.rf only_wI (by decide))⟩
            · --f
              refine w_al dX7_copy_85 rfl ?_
              refine w_il dX7_copy_87 rfl ?_
              refine w_il dX7_copy_89 rfl ?_
              refine w_cVf dX7_copy_91 (vl_X7_286 _ rfl) (sh_sheet (by omega)) (by decide) (c_X4_has ρ y (σ.1 70 y) j n (hC.1.2.2.2.2.1 y (by omega)).2.2.1 (by omega) (by omega)) rfl rfl (Nat.le_of_ble_eq_true rfl) ?_
              refine w_ifneB dX7_copy_94 (fun h94 => ?_) (fun h94 => ?_)
              · --t
                obtain ⟨a, c, rfl, rfl, hac⟩ := hasS_nI w3 h82
                obtain ⟨b, c2, rfl, ec, hbc⟩ := hasS_nI w4 h94
                have ec := (nI_eq (by omega) (by omega)).mp ec
                subst ec
                refine w_al dX7_copy_103 rfl ?_
                refine w_gr dX7_copy_105 fl_X7_129 (sh_sheet (by omega)) rfl ?_
                refine w_il dX7_copy_108 rfl ?_
                refine w_al dX7_copy_109 rfl ?_
                refine w_gr dX7_copy_111 fl_X7_129 (sh_sheet (by omega)) rfl ?_
                refine w_il dX7_copy_114 rfl ?_
                refine w_il dX7_copy_116 rfl ?_
                refine w_acpy dX7_copy_118 bt445 (sh_items (by omega)) (sh_items (by omega)) (by omega) (by omega) (by decide) (Nat.le_of_ble_eq_true rfl) ?_
                refine w_k dX7_copy_121 ?_
                have e := kCp_0 (show ¬ (σ.1 68 x = 0 ∨ σ.1 68 y = 0) by omega) h65 ⟨h82, h94⟩
                refine w_iret dX7_copy_122 rfl ?_
                rw [← hQ]
                exact ⟨_, rfl, by rw [r_copy, if_pos ⟨h4, h11⟩, nv_nI (a := x) (by omega), nv_nI (a := y) (by omega), if_pos e], by rw [n_copy, if_pos ⟨h4, h11⟩, nv_nI (a := x) (by omega), nv_nI (a := y) (by omega), if_pos e, nv_nI (by omega), nv_nI (by omega), nv_nI (by omega)]; exact hC.shd ShD.rf.cpS (Wf.cpS hC.1.1 _ _ _ _ _) (fun k hk => (only_cpyI k (by omega)).1) (CSh.copy hC.1.2.2.2.2.1 (by omega) (by omega) (by omega) (by omega)), (EqM.only EqM.rf only_cpyI (by omega))⟩
              · --f
                refine w_al dX7_copy_97 rfl ?_
                refine w_k dX7_copy_98 ?_
                refine w_cVf dX7_copy_99 (vl_X7_123 _ rfl) sh0 (by decide) (c_X7_found ρ 2) rfl rfl (Nat.le_of_ble_eq_true rfl) ?_
                have e := kCp_2 (i := i) (j := j) (n := n) (show ¬ (σ.1 68 x = 0 ∨ σ.1 68 y = 0) by omega) h65 (fun q => h94 q.2)
                refine w_iret dX7_copy_102 rfl ?_
                rw [← hQ]
                exact ⟨_, rfl, by rw [r_copy, if_pos ⟨h4, h11⟩, nv_nI (by omega), nv_nI (by omega), e, if_neg (by decide)], by rw [n_copy, if_pos ⟨h4, h11⟩, nv_nI (by omega), nv_nI (by omega), e, if_neg (by decide)]; exact hC.find (by omega), (EqM.only EqM.rf only_wI (by decide))⟩
          · --f
            refine w_al dX7_copy_68 rfl ?_
            refine w_k dX7_copy_69 ?_
            refine w_cVf dX7_copy_70 (vl_X7_123 _ rfl) sh0 (by decide) (c_X7_found ρ 4) rfl rfl (Nat.le_of_ble_eq_true rfl) ?_
            have e := kCp_4 (i := i) (j := j) (n := n) (show ¬ (σ.1 68 x = 0 ∨ σ.1 68 y = 0) by omega) h65
            refine w_iret dX7_copy_73 rfl ?_
            rw [← hQ]
            exact ⟨_, rfl, by rw [r_copy, if_pos ⟨h4, h11⟩, nv_nI (by omega), nv_nI (by omega), e, if_neg (by decide)], by rw [n_copy, if_pos ⟨h4, h11⟩, nv_nI (by omega), nv_nI (by omega), e, if_neg (by decide)]; exact hC.find (by omega), (EqM.only EqM.rf only_wI (by decide))⟩
        · --f
          refine w_al dX7_copy_49 rfl ?_
          refine w_k dX7_copy_50 ?_
          refine w_cVf dX7_copy_51 (vl_X7_123 _ rfl) sh0 (by decide) (c_X7_found ρ 1) rfl rfl (Nat.le_of_ble_eq_true rfl) ?_
          have e := kCp_1 (σ := σ) (s := x) (t := y) (i := i) (j := j) (n := n) (Or.inr (by omega))
          refine w_iret dX7_copy_54 rfl ?_
          rw [← hQ]
          exact ⟨_, rfl, by rw [r_copy, if_pos ⟨h4, h11⟩, nv_nI (by omega), nv_nI (by omega), e, if_neg (by decide)], by rw [n_copy, if_pos ⟨h4, h11⟩, nv_nI (by omega), nv_nI (by omega), e, if_neg (by decide)]; exact hC.find (by omega), (EqM.only EqM.rf only_wI (by decide))⟩
    · --f
      refine w_k dX7_copy_14 ?_
      refine w_iret dX7_copy_16 rfl ?_
      rw [← hQ]
      exact ⟨_, rfl, by rw [r_copy, if_neg (fun z => h11 z.2)], by rw [n_copy, if_neg (fun z => h11 z.2)]; exact ⟨hC.1, hC.2.1, hC.2.2⟩, EqM.rf⟩

set_option maxHeartbeats 4000000 in
theorem c_X8_copy (ρ : Rho) (σ : Sg) (p : Int32) (i : Int32) (q : Int32) (j : Int32) (n : Int32) (hM : MInv σ ρ) : CallOK 2 mX8_copy [.ref 47, .int p, .int i, .int q, .int j, .int n] ρ (fun r ρ2 => ∃ v, r = some v ∧ (v = .int (r_copy σ p i q j n) ∧ MInv (n_copy σ p i q j n) ρ2 ∧ EqC ρ ρ2)) := by
  refine callOK_of 1 (by decide +kernel) rfl (fun _ => Nat.le_of_ble_eq_true rfl) (ls := [some (.ref 47), some (.int p), some (.int i), some (.int q), some (.int j), some (.int n), none]) rfl ?_
  generalize hQ : (fun r ρ2 => ∃ v, r = some v ∧ (v = .int (r_copy σ p i q j n) ∧ MInv (n_copy σ p i q j n) ρ2 ∧ EqC ρ ρ2) : Option Value → Rho → Prop) = Q
  refine w_il dX8_copy_0 rfl ?_
  refine w_cSf dX8_copy_1 (sl_X8_136 _ rfl) (by decide) (c_X8_isSheet ρ p) rfl rfl (Nat.le_of_ble_eq_true rfl) ?_
  refine w_ifeqB dX8_copy_4 (fun h4 => ?_) (fun h4 => ?_)
  · --t
    refine w_k dX8_copy_14 ?_
    refine w_iret dX8_copy_16 rfl ?_
    rw [← hQ]
    exact ⟨_, rfl, by rw [r_copy, if_neg (fun z => h4 z.1)], by rw [n_copy, if_neg (fun z => h4 z.1)]; exact hM, EqC.rf⟩
  · --f
    obtain ⟨x, hx, rfl⟩ := inR_nI h4 (by decide)
    refine w_il dX8_copy_7 rfl ?_
    refine w_cSf dX8_copy_8 (sl_X8_136 _ rfl) (by decide) (c_X8_isSheet ρ q) rfl rfl (Nat.le_of_ble_eq_true rfl) ?_
    refine w_ifneB dX8_copy_11 (fun h11 => ?_) (fun h11 => ?_)
    · --t
      obtain ⟨y, hy, rfl⟩ := inR_nI h11 (by decide)
      have w1 := hM.1.form x
      have w2 := hM.1.form y
      have w3 := hM.1.size x
      have w4 := hM.1.size y
      have w5 := hM.1.there x
      have w6 := hM.1.there y
      refine w_al dX8_copy_17 rfl ?_
      refine w_gr dX8_copy_18 fl_X8_71 sh47 rfl ?_
      refine w_il dX8_copy_21 rfl ?_
      refine w_zaldV (v := (nI (σ.1 68 x))) dX8_copy_22 sh68 (by omega) (hM.2.1 68 (by decide) _) ?_
      refine w_ifeqN dX8_copy_23 (by omega) (fun h23 => ?_) (fun h23 => ?_)
      · --t
        refine w_al dX8_copy_35 rfl ?_
        refine w_k dX8_copy_36 ?_
        refine w_cVf dX8_copy_37 (vl_X8_139 _ rfl) sh47 (by decide) (c_X8_meets ρ 1) rfl rfl (Nat.le_of_ble_eq_true rfl) ?_
        have e := kCp_1 (σ := σ) (s := x) (t := y) (i := i) (j := j) (n := n) (Or.inl h23)
        refine w_iret dX8_copy_40 rfl ?_
        rw [← hQ]
        exact ⟨_, rfl, by rw [r_copy, if_pos ⟨h4, h11⟩, nv_nI (by omega), nv_nI (by omega), e, if_neg (by decide)], by rw [n_copy, if_pos ⟨h4, h11⟩, nv_nI (by omega), nv_nI (by omega), e, if_neg (by decide)]; exact hM.find (by omega), (EqC.w EqC.rf (by decide))⟩
      · --f
        refine w_al dX8_copy_26 rfl ?_
        refine w_gr dX8_copy_27 fl_X8_71 sh47 rfl ?_
        refine w_il dX8_copy_30 rfl ?_
        refine w_zaldV (v := (nI (σ.1 68 y))) dX8_copy_31 sh68 (by omega) (hM.2.1 68 (by decide) _) ?_
        refine w_ifneN dX8_copy_32 (by omega) (fun h32 => ?_) (fun h32 => ?_)
        · --t
          refine w_al dX8_copy_41 rfl ?_
          refine w_gr dX8_copy_42 fl_X8_75 sh47 rfl ?_
          refine w_il dX8_copy_45 rfl ?_
          refine w_ialdV (v := (nI (σ.1 69 x))) dX8_copy_46 sh69 (by omega) (hM.2.1 69 (by decide) _) ?_
          refine w_al dX8_copy_47 rfl ?_
          refine w_gr dX8_copy_48 fl_X8_75 sh47 rfl ?_
          refine w_il dX8_copy_51 rfl ?_
          refine w_ialdV (v := (nI (σ.1 69 y))) dX8_copy_52 sh69 (by omega) (hM.2.1 69 (by decide) _) ?_
          refine w_iceqN dX8_copy_53 (by omega) (by omega) (fun h53 => ?_) (fun h53 => ?_)
          · --t
            refine w_il dX8_copy_62 rfl ?_
            refine w_iflt dX8_copy_63 (fun h63 => ?_) (fun h63 => ?_)
            · --t
              refine w_al dX8_copy_111 rfl ?_
              refine w_k dX8_copy_112 ?_
              refine w_cVf dX8_copy_113 (vl_X8_139 _ rfl) sh47 (by decide) (c_X8_meets ρ 2) rfl rfl (Nat.le_of_ble_eq_true rfl) ?_
              have e := kCp_2 (i := i) (j := j) (n := n) (show ¬ (σ.1 68 x = 0 ∨ σ.1 68 y = 0) by omega) h53 (fun q => q.1.1 h63)
              refine w_iret dX8_copy_116 rfl ?_
              rw [← hQ]
              exact ⟨_, rfl, by rw [r_copy, if_pos ⟨h4, h11⟩, nv_nI (by omega), nv_nI (by omega), e, if_neg (by decide)], by rw [n_copy, if_pos ⟨h4, h11⟩, nv_nI (by omega), nv_nI (by omega), e, if_neg (by decide)]; exact hM.find (by omega), (EqC.w EqC.rf (by decide))⟩
            · --f
              obtain ⟨a, ha, rfl⟩ := nI_of h63
              refine w_il dX8_copy_66 rfl ?_
              refine w_iflt dX8_copy_68 (fun h68 => ?_) (fun h68 => ?_)
              · --t
                refine w_al dX8_copy_111 rfl ?_
                refine w_k dX8_copy_112 ?_
                refine w_cVf dX8_copy_113 (vl_X8_139 _ rfl) sh47 (by decide) (c_X8_meets ρ 2) rfl rfl (Nat.le_of_ble_eq_true rfl) ?_
                have e := kCp_2 (i := (nI a)) (j := j) (n := n) (show ¬ (σ.1 68 x = 0 ∨ σ.1 68 y = 0) by omega) h53 (fun q => q.2.1 h68)
                refine w_iret dX8_copy_116 rfl ?_
                rw [← hQ]
                exact ⟨_, rfl, by rw [r_copy, if_pos ⟨h4, h11⟩, nv_nI (by omega), nv_nI (by omega), e, if_neg (by decide)], by rw [n_copy, if_pos ⟨h4, h11⟩, nv_nI (by omega), nv_nI (by omega), e, if_neg (by decide)]; exact hM.find (by omega), (EqC.w EqC.rf (by decide))⟩
              · --f
                obtain ⟨b, hb, rfl⟩ := nI_of h68
                refine w_il dX8_copy_71 rfl ?_
                refine w_iflt dX8_copy_73 (fun h73 => ?_) (fun h73 => ?_)
                · --t
                  refine w_al dX8_copy_111 rfl ?_
                  refine w_k dX8_copy_112 ?_
                  refine w_cVf dX8_copy_113 (vl_X8_139 _ rfl) sh47 (by decide) (c_X8_meets ρ 2) rfl rfl (Nat.le_of_ble_eq_true rfl) ?_
                  have e := kCp_2 (i := (nI a)) (j := (nI b)) (n := n) (show ¬ (σ.1 68 x = 0 ∨ σ.1 68 y = 0) by omega) h53 (fun q => q.1.2.1 h73)
                  refine w_iret dX8_copy_116 rfl ?_
                  rw [← hQ]
                  exact ⟨_, rfl, by rw [r_copy, if_pos ⟨h4, h11⟩, nv_nI (by omega), nv_nI (by omega), e, if_neg (by decide)], by rw [n_copy, if_pos ⟨h4, h11⟩, nv_nI (by omega), nv_nI (by omega), e, if_neg (by decide)]; exact hM.find (by omega), (EqC.w EqC.rf (by decide))⟩
                · --f
                  obtain ⟨c, hc, rfl⟩ := nI_of h73
                  refine w_il dX8_copy_76 rfl ?_
                  refine w_i2l dX8_copy_77 ?_
                  refine w_il dX8_copy_78 rfl ?_
                  refine w_i2l dX8_copy_80 ?_
                  refine w_ladd dX8_copy_81 ?_
                  refine w_al dX8_copy_82 rfl ?_
                  refine w_gr dX8_copy_83 fl_X8_78 sh47 rfl ?_
                  refine w_il dX8_copy_86 rfl ?_
                  refine w_ialdV (v := (nI (σ.1 70 x))) dX8_copy_87 sh70 (by omega) (hM.2.1 70 (by decide) _) ?_
                  refine w_i2l dX8_copy_88 ?_
                  refine w_lcmp dX8_copy_89 ?_
                  refine w_ifgt dX8_copy_90 (fun h90 => ?_) (fun h90 => ?_)
                  · --t
                    refine w_al dX8_copy_111 rfl ?_
                    refine w_k dX8_copy_112 ?_
                    refine w_cVf dX8_copy_113 (vl_X8_139 _ rfl) sh47 (by decide) (c_X8_meets ρ 2) rfl rfl (Nat.le_of_ble_eq_true rfl) ?_
                    have e := kCp_2 (i := (nI a)) (j := (nI b)) (n := (nI c)) (show ¬ (σ.1 68 x = 0 ∨ σ.1 68 y = 0) by omega) h53 (fun q => absurd ((hasS_n ha hc).mp q.1) (by have := (cmpL ha hc (by omega)).mp h90; omega))
                    refine w_iret dX8_copy_116 rfl ?_
                    rw [← hQ]
                    exact ⟨_, rfl, by rw [r_copy, if_pos ⟨h4, h11⟩, nv_nI (by omega), nv_nI (by omega), e, if_neg (by decide)], by rw [n_copy, if_pos ⟨h4, h11⟩, nv_nI (by omega), nv_nI (by omega), e, if_neg (by decide)]; exact hM.find (by omega), (EqC.w EqC.rf (by decide))⟩
                  · --f
                    have g1 : a + c ≤ σ.1 70 x := by rcases Nat.lt_or_ge (σ.1 70 x) (a + c) with z | z; exact absurd ((cmpL ha hc (by omega)).mpr z) h90; exact z
                    refine w_il dX8_copy_93 rfl ?_
                    refine w_i2l dX8_copy_95 ?_
                    refine w_il dX8_copy_96 rfl ?_
                    refine w_i2l dX8_copy_98 ?_
                    refine w_ladd dX8_copy_99 ?_
                    refine w_al dX8_copy_100 rfl ?_
                    refine w_gr dX8_copy_101 fl_X8_78 sh47 rfl ?_
                    refine w_il dX8_copy_104 rfl ?_
                    refine w_ialdV (v := (nI (σ.1 70 y))) dX8_copy_105 sh70 (by omega) (hM.2.1 70 (by decide) _) ?_
                    refine w_i2l dX8_copy_106 ?_
                    refine w_lcmp dX8_copy_107 ?_
                    refine w_ifle dX8_copy_108 (fun h108 => ?_) (fun h108 => ?_)
                    · --t
                      have g2 := (cmpL2 hb hc (by omega)).mp h108
                      refine w_k dX8_copy_117 ?_
                      refine w_is (ls2 := [some (.ref 47), some (.int (nI x)), some (.int (nI a)), some (.int (nI y)), some (.int (nI b)), some (.int (nI c)), some (.int (nI 0))]) dX8_copy_118 rfl ?_
                      have L120 : ∀ (n120 : Nat) (k : Nat) (ρ1 : Rho), (k ≤ c) → (Fr [72] ρ ρ1) → (∀ q, q < k → ρ1.1 72 q = σ.2 71 (60 * x + a + q)) → (c - k) < n120 → MW mX8_copy 2 120 [some (.ref 47), some (.int (nI x)), some (.int (nI a)), some (.int (nI y)), some (.int (nI b)), some (.int (nI c)), some (.int (nI k))] [] ρ1 Q := by
                        intro n120
                        induction n120 with
                        | zero =>
                          intro k ρ1 hk hF1 hm1 hm120
                          exact absurd hm120 (Nat.not_lt_zero _)
                        | succ n120 ih120 =>
                          intro k ρ1 hk hF1 hm1 hm120
                          refine w_il dX8_copy_120 rfl ?_
                          refine w_il dX8_copy_122 rfl ?_
                          refine w_icgeN dX8_copy_124 (by omega) (by omega) (fun h124 => ?_) (fun h124 => ?_)
                          · --t
                            refine w_k dX8_copy_154 ?_
                            refine w_is (ls2 := [some (.ref 47), some (.int (nI x)), some (.int (nI a)), some (.int (nI y)), some (.int (nI b)), some (.int (nI c)), some (.int (nI 0))]) dX8_copy_155 rfl ?_
                            have L157 : ∀ (n157 : Nat) (k : Nat) (ρ2 : Rho), (k ≤ c) → (Fr [71, 72] ρ ρ2) → (∀ q, q < c → ρ2.1 72 q = σ.2 71 (60 * x + a + q)) → (∀ q, ρ2.1 71 q = if 60 * y + b ≤ q ∧ q < 60 * y + b + k then σ.2 71 (60 * x + a + (q - (60 * y + b))) else σ.2 71 q) → (c - k) < n157 → MW mX8_copy 2 157 [some (.ref 47), some (.int (nI x)), some (.int (nI a)), some (.int (nI y)), some (.int (nI b)), some (.int (nI c)), some (.int (nI k))] [] ρ2 Q := by
                              intro n157
                              induction n157 with
                              | zero =>
                                intro k ρ2 hk2 hF2 hm2 hz2 hm157
                                exact absurd hm157 (Nat.not_lt_zero _)
                              | succ n157 ih157 =>
                                intro k ρ2 hk2 hF2 hm2 hz2 hm157
                                refine w_il dX8_copy_157 rfl ?_
                                refine w_il dX8_copy_159 rfl ?_
                                refine w_icgeN dX8_copy_161 (by omega) (by omega) (fun h161 => ?_) (fun h161 => ?_)
                                · --t
                                  refine w_k dX8_copy_192 ?_
                                  have e := kCp_0 (i := nI a) (j := nI b) (n := nI c) (show ¬ (σ.1 68 x = 0 ∨ σ.1 68 y = 0) by omega) h53 ⟨(hasS_n ha hc).mpr g1, (hasS_n hb hc).mpr g2⟩
                                  refine w_iret dX8_copy_193 rfl ?_
                                  rw [← hQ]
                                  exact ⟨_, rfl, by rw [r_copy, if_pos ⟨h4, h11⟩, nv_nI (a := x) (by omega), nv_nI (a := y) (by omega), if_pos e], by rw [n_copy, if_pos ⟨h4, h11⟩, nv_nI (a := x) (by omega), nv_nI (a := y) (by omega), if_pos e, nv_nI ha, nv_nI hb, nv_nI hc]; exact hM.cp hF2 (fun q => by rw [hz2 q, show k = c by omega]), (Fr.eqC hF2 (by decide))⟩
                                · --f
                                  refine w_al dX8_copy_164 rfl ?_
                                  refine w_gr dX8_copy_165 fl_X8_81 sh47 rfl ?_
                                  refine w_k dX8_copy_168 ?_
                                  refine w_il dX8_copy_170 rfl ?_
                                  refine w_imulN dX8_copy_171 ?_
                                  refine w_il dX8_copy_172 rfl ?_
                                  refine w_iaddN dX8_copy_174 ?_
                                  refine w_il dX8_copy_175 rfl ?_
                                  refine w_iaddN dX8_copy_177 ?_
                                  refine w_al dX8_copy_178 rfl ?_
                                  refine w_gr dX8_copy_179 fl_X8_84 sh47 rfl ?_
                                  refine w_il dX8_copy_182 rfl ?_
                                  refine w_ialdV (v := (σ.2 71 (60 * x + a + k))) dX8_copy_184 sh72 (by omega) (hm2 k (by omega)) ?_
                                  refine w_iastN dX8_copy_185 sh71 (by omega) ?_
                                  refine w_iincN (ls2 := [some (.ref 47), some (.int (nI x)), some (.int (nI a)), some (.int (nI y)), some (.int (nI b)), some (.int (nI c)), some (.int (nI (k + 1)))]) dX8_copy_186 rfl rfl ?_
                                  refine w_goto dX8_copy_189 ?_
                                  exact ih157 (k + 1) (wI ρ2 71 (60 * y + b + k) (σ.2 71 (60 * x + a + k))) (by omega) (Fr.only hF2 only_wI (by decide)) (keepA (f := fun q => σ.2 71 (60 * x + a + q)) (by decide) hm2) (zst (f := fun q => σ.2 71 (60 * x + a + (q - (60 * y + b)))) (g := fun q => σ.2 71 q) hz2 (by show _ = σ.2 71 (60 * x + a + (60 * y + b + k - (60 * y + b))); rw [show 60 * y + b + k - (60 * y + b) = k by omega])) (by omega)
                            exact L157 _ 0 ρ1 (by omega) (Fr.sub hF1 (by decide)) (fun q hq => hm1 q (by omega)) (fun q => by rw [if_neg (by omega), (hF1 71 (by decide)).1]; exact hM.2.2.1 71 (by decide) q) (Nat.lt_succ_self _)
                          · --f
                            refine w_al dX8_copy_127 rfl ?_
                            refine w_gr dX8_copy_128 fl_X8_84 sh47 rfl ?_
                            refine w_il dX8_copy_131 rfl ?_
                            refine w_al dX8_copy_133 rfl ?_
                            refine w_gr dX8_copy_134 fl_X8_81 sh47 rfl ?_
                            refine w_k dX8_copy_137 ?_
                            refine w_il dX8_copy_139 rfl ?_
                            refine w_imulN dX8_copy_140 ?_
                            refine w_il dX8_copy_141 rfl ?_
                            refine w_iaddN dX8_copy_142 ?_
                            refine w_il dX8_copy_143 rfl ?_
                            refine w_iaddN dX8_copy_145 ?_
                            refine w_ialdV (v := (σ.2 71 (60 * x + a + k))) dX8_copy_146 sh71 (by omega) ((hM.fr hF1 (by decide)).2.2.1 71 (by decide) _) ?_
                            refine w_iastN dX8_copy_147 sh72 (by omega) ?_
                            refine w_iincN (ls2 := [some (.ref 47), some (.int (nI x)), some (.int (nI a)), some (.int (nI y)), some (.int (nI b)), some (.int (nI c)), some (.int (nI (k + 1)))]) dX8_copy_148 rfl rfl ?_
                            refine w_goto dX8_copy_151 ?_
                            exact ih120 (k + 1) (wI ρ1 72 k (σ.2 71 (60 * x + a + k))) (by omega) (Fr.only hF1 only_wI (by decide)) (ext1 (f := fun q => σ.2 71 (60 * x + a + q)) hm1 rfl) (by omega)
                      exact L120 _ 0 ρ (by omega) (Fr.rf) (fun q hq => absurd hq (Nat.not_lt_zero _)) (Nat.lt_succ_self _)
                    · --f
                      refine w_al dX8_copy_111 rfl ?_
                      refine w_k dX8_copy_112 ?_
                      refine w_cVf dX8_copy_113 (vl_X8_139 _ rfl) sh47 (by decide) (c_X8_meets ρ 2) rfl rfl (Nat.le_of_ble_eq_true rfl) ?_
                      have e := kCp_2 (i := (nI a)) (j := (nI b)) (n := (nI c)) (show ¬ (σ.1 68 x = 0 ∨ σ.1 68 y = 0) by omega) h53 (fun q => h108 ((cmpL2 hb hc (by omega)).mpr ((hasS_n hb hc).mp q.2)))
                      refine w_iret dX8_copy_116 rfl ?_
                      rw [← hQ]
                      exact ⟨_, rfl, by rw [r_copy, if_pos ⟨h4, h11⟩, nv_nI (by omega), nv_nI (by omega), e, if_neg (by decide)], by rw [n_copy, if_pos ⟨h4, h11⟩, nv_nI (by omega), nv_nI (by omega), e, if_neg (by decide)]; exact hM.find (by omega), (EqC.w EqC.rf (by decide))⟩
          · --f
            refine w_al dX8_copy_56 rfl ?_
            refine w_k dX8_copy_57 ?_
            refine w_cVf dX8_copy_58 (vl_X8_139 _ rfl) sh47 (by decide) (c_X8_meets ρ 4) rfl rfl (Nat.le_of_ble_eq_true rfl) ?_
            have e := kCp_4 (i := i) (j := j) (n := n) (show ¬ (σ.1 68 x = 0 ∨ σ.1 68 y = 0) by omega) h53
            refine w_iret dX8_copy_61 rfl ?_
            rw [← hQ]
            exact ⟨_, rfl, by rw [r_copy, if_pos ⟨h4, h11⟩, nv_nI (by omega), nv_nI (by omega), e, if_neg (by decide)], by rw [n_copy, if_pos ⟨h4, h11⟩, nv_nI (by omega), nv_nI (by omega), e, if_neg (by decide)]; exact hM.find (by omega), (EqC.w EqC.rf (by decide))⟩
        · --f
          refine w_al dX8_copy_35 rfl ?_
          refine w_k dX8_copy_36 ?_
          refine w_cVf dX8_copy_37 (vl_X8_139 _ rfl) sh47 (by decide) (c_X8_meets ρ 1) rfl rfl (Nat.le_of_ble_eq_true rfl) ?_
          have e := kCp_1 (σ := σ) (s := x) (t := y) (i := i) (j := j) (n := n) (Or.inr h32)
          refine w_iret dX8_copy_40 rfl ?_
          rw [← hQ]
          exact ⟨_, rfl, by rw [r_copy, if_pos ⟨h4, h11⟩, nv_nI (by omega), nv_nI (by omega), e, if_neg (by decide)], by rw [n_copy, if_pos ⟨h4, h11⟩, nv_nI (by omega), nv_nI (by omega), e, if_neg (by decide)]; exact hM.find (by omega), (EqC.w EqC.rf (by decide))⟩
    · --f
      refine w_k dX8_copy_14 ?_
      refine w_iret dX8_copy_16 rfl ?_
      rw [← hQ]
      exact ⟨_, rfl, by rw [r_copy, if_neg (fun z => h11 z.2)], by rw [n_copy, if_neg (fun z => h11 z.2)]; exact hM, EqC.rf⟩

set_option maxHeartbeats 4000000 in
theorem c_X7_write (ρ : Rho) (σ : Sg) (d : Int32) (p : Int32) (hC : CInv σ ρ) : CallOK 2 mX7_write [.ref 0, .int d, .int p] ρ (fun r ρ2 => ∃ v, r = some v ∧ (v = .int (r_write σ d p) ∧ CInv (n_write σ d p) ρ2 ∧ EqM ρ ρ2)) := by
  refine callOK_of 3 (by decide +kernel) rfl (fun _ => Nat.le_of_ble_eq_true rfl) (ls := [some (.ref 0), some (.int d), some (.int p), none, none, none]) rfl ?_
  generalize hQ : (fun r ρ2 => ∃ v, r = some v ∧ (v = .int (r_write σ d p) ∧ CInv (n_write σ d p) ρ2 ∧ EqM ρ ρ2) : Option Value → Rho → Prop) = Q
  refine w_il dX7_write_0 rfl ?_
  refine w_cSf dX7_write_1 (sl_X7_87 _ rfl) (by decide) (c_X7_isDay ρ d) rfl rfl (Nat.le_of_ble_eq_true rfl) ?_
  refine w_ifeqB dX7_write_4 (fun h4 => ?_) (fun h4 => ?_)
  · --t
    refine w_k dX7_write_14 ?_
    refine w_iret dX7_write_16 rfl ?_
    rw [← hQ]
    exact ⟨_, rfl, by rw [r_write, if_neg (fun z => h4 z.1)], by rw [n_write, if_neg (fun z => h4 z.1)]; exact ⟨hC.1, hC.2.1, hC.2.2⟩, EqM.rf⟩
  · --f
    obtain ⟨d1, hd1, rfl⟩ := inR_nI h4 (by decide)
    refine w_il dX7_write_7 rfl ?_
    refine w_cSf dX7_write_8 (sl_X7_116 _ rfl) (by decide) (c_X7_isSheet ρ p) rfl rfl (Nat.le_of_ble_eq_true rfl) ?_
    refine w_ifneB dX7_write_11 (fun h11 => ?_) (fun h11 => ?_)
    · --t
      obtain ⟨x, hx, rfl⟩ := inR_nI h11 (by decide)
      have w1 := hC.1.1.form x
      have w3 := hC.1.1.size x
      refine w_al dX7_write_17 rfl ?_
      refine w_gr dX7_write_18 fl_X7_56 sh0 rfl ?_
      refine w_il dX7_write_21 rfl ?_
      refine w_aaldN (b := 39) dX7_write_22 sh38 (by omega) ?_
      refine w_as (ls2 := [some (.ref 0), some (.int (nI d1)), some (.int (nI x)), some (.ref (39 + x)), none, none]) dX7_write_23 rfl ?_
      refine w_al dX7_write_24 rfl ?_
      refine w_giV (v := (nI (1 - σ.1 68 x))) dX7_write_25 fl_X7_119 (sh_sheet (by omega)) rfl ((hC.1.2.2.2.2.1 x (by omega)).1) ?_
      refine w_ifeqN dX7_write_28 (by omega) (fun h28 => ?_) (fun h28 => ?_)
      · --t
        refine w_al dX7_write_37 rfl ?_
        refine w_giV (v := (nI (σ.1 70 x))) dX7_write_38 fl_X7_126 (sh_sheet (by omega)) rfl ((hC.1.2.2.2.2.1 x (by omega)).2.2.1) ?_
        refine w_k dX7_write_41 ?_
        refine w_il dX7_write_43 rfl ?_
        refine w_isubN dX7_write_44 (by omega) ?_
        refine w_mminN dX7_write_45 (sl_X7_168 _ rfl) (by decide) (Nat.le_of_ble_eq_true rfl) (by omega) (by omega) ?_
        refine w_is (ls2 := [some (.ref 0), some (.int (nI d1)), some (.int (nI x)), some (.ref (39 + x)), some (.int (nI (min (σ.1 70 x) (100 - d1)))), none]) dX7_write_48 rfl ?_
        refine w_k dX7_write_50 ?_
        refine w_is (ls2 := [some (.ref 0), some (.int (nI d1)), some (.int (nI x)), some (.ref (39 + x)), some (.int (nI (min (σ.1 70 x) (100 - d1)))), some (.int (nI 0))]) dX7_write_51 rfl ?_
        have L53 : ∀ (n53 : Nat) (k : Nat) (ρ1 : Rho), (k ≤ min (σ.1 70 x) (100 - d1)) → (CInv (wrS σ x d1 k) ρ1) → (EqM ρ ρ1) → (100 - k) < n53 → MW mX7_write 2 53 [some (.ref 0), some (.int (nI d1)), some (.int (nI x)), some (.ref (39 + x)), some (.int (nI (min (σ.1 70 x) (100 - d1)))), some (.int (nI k))] [] ρ1 Q := by
          intro n53
          induction n53 with
          | zero =>
            intro k ρ1 hk hC1 hE1 hm53
            exact absurd hm53 (Nat.not_lt_zero _)
          | succ n53 ih53 =>
            intro k ρ1 hk hC1 hE1 hm53
            refine w_il dX7_write_53 rfl ?_
            refine w_il dX7_write_55 rfl ?_
            refine w_icgeN dX7_write_57 (by omega) (by omega) (fun h57 => ?_) (fun h57 => ?_)
            · --t
              refine w_il dX7_write_84 rfl ?_
              refine w_iret dX7_write_86 rfl ?_
              rw [← hQ]
              exact ⟨_, rfl, by rw [r_write, if_pos ⟨h4, h11⟩, nv_nI (by omega), nv_nI (by omega), if_neg (by omega)]; rfl, by rw [n_write, if_pos ⟨h4, h11⟩, nv_nI (by omega), nv_nI (by omega), if_neg (by omega), mWr, show min (σ.1 70 x) (100 - d1) = k by omega]; exact hC1, hE1⟩
            · --f
              refine w_al dX7_write_60 rfl ?_
              refine w_il dX7_write_61 rfl ?_
              refine w_al dX7_write_63 rfl ?_
              refine w_gr dX7_write_64 fl_X7_19 sh0 rfl ?_
              refine w_gr dX7_write_67 fl_X7_98 sh10 rfl ?_
              refine w_il dX7_write_70 rfl ?_
              refine w_il dX7_write_71 rfl ?_
              refine w_iaddN dX7_write_73 ?_
              refine w_ialdV (v := (nI (Tn σ (d1 + k)))) dX7_write_74 sh15 (by omega) (by rw [hC1.2.2 _ (by omega), wrS_T]) ?_
              refine w_cVv dX7_write_75 (vl_X7_276 _ rfl) (sh_sheet (by omega)) (by decide) (c_X4_keep ρ1 x (σ.1 69 x) k (nI (Tn σ (d1 + k))) (hC1.1.2.2.2.2.1 x (by omega)).2.1 (by omega) (by omega) (by omega)) rfl rfl (Nat.le_of_ble_eq_true rfl) ?_
              refine w_iincN (ls2 := [some (.ref 0), some (.int (nI d1)), some (.int (nI x)), some (.ref (39 + x)), some (.int (nI (min (σ.1 70 x) (100 - d1)))), some (.int (nI (k + 1)))]) dX7_write_78 rfl rfl ?_
              refine w_goto dX7_write_81 ?_
              exact ih53 (k + 1) (wI ρ1 (43 + x) k (cvt (σ.1 69 x) (nI (Tn σ (d1 + k))))) (by omega) (by rw [← wrS_s]; exact hC1.item (by omega) (by omega)) (EqM.only hE1 only_wI (by omega)) (by omega)
        exact L53 _ 0 ρ (by omega) (by rw [wrS_0]; exact hC) (EqM.rf) (Nat.lt_succ_self _)
      · --f
        refine w_al dX7_write_31 rfl ?_
        refine w_k dX7_write_32 ?_
        refine w_cVf dX7_write_33 (vl_X7_123 _ rfl) sh0 (by decide) (c_X7_found ρ 1) rfl rfl (Nat.le_of_ble_eq_true rfl) ?_
        refine w_iret dX7_write_36 rfl ?_
        rw [← hQ]
        exact ⟨_, rfl, by rw [r_write, if_pos ⟨h4, h11⟩, nv_nI (by omega), if_pos (by omega)], by rw [n_write, if_pos ⟨h4, h11⟩, nv_nI (by omega), nv_nI (by omega), if_pos (by omega)]; exact hC.find (by omega), (EqM.only EqM.rf only_wI (by decide))⟩
    · --f
      refine w_k dX7_write_14 ?_
      refine w_iret dX7_write_16 rfl ?_
      rw [← hQ]
      exact ⟨_, rfl, by rw [r_write, if_neg (fun z => h11 z.2)], by rw [n_write, if_neg (fun z => h11 z.2)]; exact ⟨hC.1, hC.2.1, hC.2.2⟩, EqM.rf⟩

set_option maxHeartbeats 4000000 in
theorem c_X8_write (ρ : Rho) (σ : Sg) (d : Int32) (p : Int32) (hM : MInv σ ρ) : CallOK 5 mX8_write [.ref 47, .int d, .int p] ρ (fun r ρ2 => ∃ v, r = some v ∧ (v = .int (r_write σ d p) ∧ MInv (n_write σ d p) ρ2 ∧ EqC ρ ρ2)) := by
  refine callOK_of 1 (by decide +kernel) rfl (fun _ => Nat.le_of_ble_eq_true rfl) (ls := [some (.ref 47), some (.int d), some (.int p), none]) rfl ?_
  generalize hQ : (fun r ρ2 => ∃ v, r = some v ∧ (v = .int (r_write σ d p) ∧ MInv (n_write σ d p) ρ2 ∧ EqC ρ ρ2) : Option Value → Rho → Prop) = Q
  refine w_il dX8_write_0 rfl ?_
  refine w_cSf dX8_write_1 (sl_X8_148 _ rfl) (by decide) (c_X8_isDay ρ d) rfl rfl (Nat.le_of_ble_eq_true rfl) ?_
  refine w_ifeqB dX8_write_4 (fun h4 => ?_) (fun h4 => ?_)
  · --t
    refine w_k dX8_write_14 ?_
    refine w_iret dX8_write_16 rfl ?_
    rw [← hQ]
    exact ⟨_, rfl, by rw [r_write, if_neg (fun z => h4 z.1)], by rw [n_write, if_neg (fun z => h4 z.1)]; exact hM, EqC.rf⟩
  · --f
    obtain ⟨d1, hd1, rfl⟩ := inR_nI h4 (by decide)
    refine w_il dX8_write_7 rfl ?_
    refine w_cSf dX8_write_8 (sl_X8_136 _ rfl) (by decide) (c_X8_isSheet ρ p) rfl rfl (Nat.le_of_ble_eq_true rfl) ?_
    refine w_ifneB dX8_write_11 (fun h11 => ?_) (fun h11 => ?_)
    · --t
      obtain ⟨x, hx, rfl⟩ := inR_nI h11 (by decide)
      have w1 := hM.1.form x
      have w3 := hM.1.size x
      have w5 := hM.1.there x
      refine w_al dX8_write_17 rfl ?_
      refine w_gr dX8_write_18 fl_X8_71 sh47 rfl ?_
      refine w_il dX8_write_21 rfl ?_
      refine w_zaldV (v := (nI (σ.1 68 x))) dX8_write_22 sh68 (by omega) (hM.2.1 68 (by decide) _) ?_
      refine w_ifneN dX8_write_23 (by omega) (fun h23 => ?_) (fun h23 => ?_)
      · --t
        refine w_al dX8_write_32 rfl ?_
        refine w_cVu dX8_write_33 (vl_X8_145 _ rfl) sh47 (by decide) (c_X8_lays ρ σ hM) rfl rfl (Nat.le_of_ble_eq_true rfl) (fun ρl1 hl1 => ?_)
        obtain ⟨hMl1, hEl1, hDl1⟩ := hl1
        refine w_k dX8_write_36 ?_
        refine w_is (ls2 := [some (.ref 47), some (.int (nI d1)), some (.int (nI x)), some (.int (nI 0))]) dX8_write_37 rfl ?_
        have L38 : ∀ (n38 : Nat) (k : Nat) (ρ1 : Rho), (k ≤ min (σ.1 70 x) (100 - d1)) → (MInv (wrS σ x d1 k) ρ1) → (EqC ρ ρ1) → (∀ q, q < 100 → ρ1.1 58 q = nI (Tn σ q)) → (100 - k) < n38 → MW mX8_write 5 38 [some (.ref 47), some (.int (nI d1)), some (.int (nI x)), some (.int (nI k))] [] ρ1 Q := by
          intro n38
          induction n38 with
          | zero =>
            intro k ρ1 hk hM1 hE1 hT1 hm38
            exact absurd hm38 (Nat.not_lt_zero _)
          | succ n38 ih38 =>
            intro k ρ1 hk hM1 hE1 hT1 hm38
            refine w_il dX8_write_38 rfl ?_
            refine w_al dX8_write_39 rfl ?_
            refine w_gr dX8_write_40 fl_X8_78 sh47 rfl ?_
            refine w_il dX8_write_43 rfl ?_
            refine w_ialdV (v := (nI (σ.1 70 x))) dX8_write_44 sh70 (by omega) (hM1.2.1 70 (by decide) x) ?_
            refine w_icgeN dX8_write_45 (by omega) (by omega) (fun h45 => ?_) (fun h45 => ?_)
            · --t
              refine w_il dX8_write_76 rfl ?_
              refine w_iret dX8_write_77 rfl ?_
              rw [← hQ]
              exact ⟨_, rfl, by rw [r_write, if_pos ⟨h4, h11⟩, nv_nI (by omega), nv_nI (by omega), if_neg h23, mWr, show min (σ.1 70 x) (100 - d1) = k by omega], by rw [n_write, if_pos ⟨h4, h11⟩, nv_nI (by omega), nv_nI (by omega), if_neg h23, mWr, show min (σ.1 70 x) (100 - d1) = k by omega]; exact hM1, hE1⟩
            · --f
              refine w_il dX8_write_48 rfl ?_
              refine w_il dX8_write_49 rfl ?_
              refine w_iaddN dX8_write_50 ?_
              refine w_k dX8_write_51 ?_
              refine w_icgeN dX8_write_53 (by omega) (by omega) (fun h53 => ?_) (fun h53 => ?_)
              · --t
                refine w_il dX8_write_76 rfl ?_
                refine w_iret dX8_write_77 rfl ?_
                rw [← hQ]
                exact ⟨_, rfl, by rw [r_write, if_pos ⟨h4, h11⟩, nv_nI (by omega), nv_nI (by omega), if_neg h23, mWr, show min (σ.1 70 x) (100 - d1) = k by omega], by rw [n_write, if_pos ⟨h4, h11⟩, nv_nI (by omega), nv_nI (by omega), if_neg h23, mWr, show min (σ.1 70 x) (100 - d1) = k by omega]; exact hM1, hE1⟩
              · --f
                refine w_al dX8_write_56 rfl ?_
                refine w_il dX8_write_57 rfl ?_
                refine w_il dX8_write_58 rfl ?_
                refine w_al dX8_write_59 rfl ?_
                refine w_gr dX8_write_60 fl_X8_40 sh47 rfl ?_
                refine w_il dX8_write_63 rfl ?_
                refine w_il dX8_write_64 rfl ?_
                refine w_iaddN dX8_write_65 ?_
                refine w_ialdV (v := (nI (Tn σ (d1 + k)))) dX8_write_66 sh58 (by omega) (hT1 _ (by omega)) ?_
                refine w_cVv dX8_write_67 (vl_X8_240 _ rfl) sh47 (by decide) (c_X8_keep ρ1 x (σ.1 69 x) k (nI (Tn σ (d1 + k))) (hM1.2.1 69 (by decide) x) (by omega) (by omega) (by omega)) rfl rfl (Nat.le_of_ble_eq_true rfl) ?_
                refine w_iincN (ls2 := [some (.ref 47), some (.int (nI d1)), some (.int (nI x)), some (.int (nI (k + 1)))]) dX8_write_70 rfl rfl ?_
                refine w_goto dX8_write_73 ?_
                exact ih38 (k + 1) (wI ρ1 71 (60 * x + k) (cvt (σ.1 69 x) (nI (Tn σ (d1 + k))))) (by omega) (by rw [← wrS_s]; exact hM1.it _ _) (EqC.only hE1 only_wI (by decide)) (keepA (f := fun q => nI (Tn σ q)) (by decide) hT1) (by omega)
        exact L38 _ 0 ρl1 (by omega) (by rw [wrS_0]; exact hMl1) ((EqC.tr EqC.rf hEl1)) (hDl1.2) (Nat.lt_succ_self _)
      · --f
        refine w_al dX8_write_26 rfl ?_
        refine w_k dX8_write_27 ?_
        refine w_cVf dX8_write_28 (vl_X8_139 _ rfl) sh47 (by decide) (c_X8_meets ρ 1) rfl rfl (Nat.le_of_ble_eq_true rfl) ?_
        refine w_iret dX8_write_31 rfl ?_
        rw [← hQ]
        exact ⟨_, rfl, by rw [r_write, if_pos ⟨h4, h11⟩, nv_nI (by omega), if_pos h23], by rw [n_write, if_pos ⟨h4, h11⟩, nv_nI (by omega), nv_nI (by omega), if_pos h23]; exact hM.find (by omega), (EqC.w EqC.rf (by decide))⟩
    · --f
      refine w_k dX8_write_14 ?_
      refine w_iret dX8_write_16 rfl ?_
      rw [← hQ]
      exact ⟨_, rfl, by rw [r_write, if_neg (fun z => h11 z.2)], by rw [n_write, if_neg (fun z => h11 z.2)]; exact hM, EqC.rf⟩

set_option maxHeartbeats 4000000 in
theorem c_X7_read (ρ : Rho) (σ : Sg) (p : Int32) (t : Int32) (hC : CInv σ ρ) : CallOK 3 mX7_read [.ref 0, .int p, .int t] ρ (fun r ρ2 => ∃ v, r = some v ∧ (v = .int (r_read σ p t) ∧ CInv (n_read σ p t) ρ2 ∧ EqM ρ ρ2)) := by
  refine callOK_of 3 (by decide +kernel) rfl (fun _ => Nat.le_of_ble_eq_true rfl) (ls := [some (.ref 0), some (.int p), some (.int t), none, none, none]) rfl ?_
  generalize hQ : (fun r ρ2 => ∃ v, r = some v ∧ (v = .int (r_read σ p t) ∧ CInv (n_read σ p t) ρ2 ∧ EqM ρ ρ2) : Option Value → Rho → Prop) = Q
  have w1 := hC.1.1.typed
  have w2 := hC.1.1.gales
  have w3 := hC.1.1.last
  refine w_il dX7_read_0 rfl ?_
  refine w_cSf dX7_read_1 (sl_X7_116 _ rfl) (by decide) (c_X7_isSheet ρ p) rfl rfl (Nat.le_of_ble_eq_true rfl) ?_
  refine w_ifeqB dX7_read_4 (fun h4 => ?_) (fun h4 => ?_)
  · --t
    refine w_k dX7_read_18 ?_
    refine w_iret dX7_read_20 rfl ?_
    rw [← hQ]
    exact ⟨_, rfl, by rw [r_read, if_neg (fun z => h4 z.1)], by rw [n_read, if_neg (fun z => h4 z.1)]; exact ⟨hC.1, hC.2.1, hC.2.2⟩, EqM.rf⟩
  · --f
    obtain ⟨x, hx, rfl⟩ := inR_nI h4 (by decide)
    refine w_al dX7_read_7 rfl ?_
    refine w_gr dX7_read_8 fl_X7_19 sh0 rfl ?_
    refine w_il dX7_read_11 rfl ?_
    refine w_cVf dX7_read_12 (vl_X7_104 _ rfl) sh10 (by decide) (c_X1_mayBeTold ρ σ t hC.1) rfl rfl (Nat.le_of_ble_eq_true rfl) ?_
    refine w_ifneB dX7_read_15 (fun h15 => ?_) (fun h15 => ?_)
    · --t
      obtain ⟨c, hc0, hc, rfl⟩ := inR_nI2 h15 (by omega) (by omega)
      have w5 := hC.1.1.size x
      refine w_al dX7_read_21 rfl ?_
      refine w_gr dX7_read_22 fl_X7_56 sh0 rfl ?_
      refine w_il dX7_read_25 rfl ?_
      refine w_aaldN (b := 39) dX7_read_26 sh38 (by omega) ?_
      refine w_as (ls2 := [some (.ref 0), some (.int (nI x)), some (.int (nI c)), some (.ref (39 + x)), none, none]) dX7_read_27 rfl ?_
      refine w_al dX7_read_28 rfl ?_
      refine w_giV (v := (nI (1 - σ.1 68 x))) dX7_read_29 fl_X7_119 (sh_sheet (by omega)) rfl ((hC.1.2.2.2.2.1 x (by omega)).1) ?_
      refine w_ifeqN dX7_read_32 (by omega) (fun h32 => ?_) (fun h32 => ?_)
      · --t
        refine w_k dX7_read_41 ?_
        refine w_is (ls2 := [some (.ref 0), some (.int (nI x)), some (.int (nI c)), some (.ref (39 + x)), some (.int (nI 0)), none]) dX7_read_42 rfl ?_
        refine w_k dX7_read_44 ?_
        refine w_is (ls2 := [some (.ref 0), some (.int (nI x)), some (.int (nI c)), some (.ref (39 + x)), some (.int (nI 0)), some (.int (nI 0))]) dX7_read_45 rfl ?_
        have L47 : ∀ (n47 : Nat) (k : Nat) (τ : Sg) (ρ1 : Rho), (k ≤ σ.1 70 x) → (CInv τ ρ1) → (EqM ρ ρ1) → (τ.1 70 x = σ.1 70 x) → (τ.1 47 12 ≤ c) → (rdS x c (σ.1 70 x - k) k τ = rdS x c (σ.1 70 x) 0 σ) → (σ.1 70 x - k) < n47 → MW mX7_read 3 47 [some (.ref 0), some (.int (nI x)), some (.int (nI c)), some (.ref (39 + x)), some (.int (nI k)), some (.int (nI k))] [] ρ1 Q := by
          intro n47
          induction n47 with
          | zero =>
            intro k τ ρ1 hk hC1 hE1 hs1 hc1 hr1 hm47
            exact absurd hm47 (Nat.not_lt_zero _)
          | succ n47 ih47 =>
            intro k τ ρ1 hk hC1 hE1 hs1 hc1 hr1 hm47
            refine w_il dX7_read_47 rfl ?_
            refine w_al dX7_read_49 rfl ?_
            refine w_giV (v := (nI (σ.1 70 x))) dX7_read_50 fl_X7_126 (sh_sheet (by omega)) rfl (by rw [← hs1]; exact (hC1.1.2.2.2.2.1 x (by omega)).2.2.1) ?_
            refine w_icgeN dX7_read_53 (by omega) (by omega) (fun h53 => ?_) (fun h53 => ?_)
            · --t
              refine w_il dX7_read_91 rfl ?_
              have er : rdS x c (σ.1 70 x) 0 σ = (τ, k) := by rw [← hr1, show σ.1 70 x - k = 0 by omega]; rfl
              refine w_iret dX7_read_93 rfl ?_
              rw [← hQ]
              exact ⟨_, rfl, by rw [r_read, if_pos ⟨h4, h15⟩, nv_nI (by omega), nv_nI (by omega), if_neg (by omega), er], by rw [n_read, if_pos ⟨h4, h15⟩, nv_nI (by omega), nv_nI (by omega), if_neg (by omega), er]; exact hC1, hE1⟩
            · --f
              refine w_il dX7_read_56 rfl ?_
              refine w_k dX7_read_58 ?_
              refine w_icgeN dX7_read_60 (by omega) (by omega) (fun h60 => ?_) (fun h60 => ?_)
              · --t
                exfalso; omega
              · --f
                refine w_al dX7_read_63 rfl ?_
                refine w_al dX7_read_64 rfl ?_
                refine w_gr dX7_read_65 fl_X7_129 (sh_sheet (by omega)) rfl ?_
                refine w_il dX7_read_68 rfl ?_
                refine w_ialdV (v := (τ.2 71 (60 * x + k))) dX7_read_70 (sh_items (by omega)) (by omega) ((hC1.1.2.2.2.2.1 x (by omega)).2.2.2 _ (by omega)) ?_
                refine w_k dX7_read_71 ?_
                refine w_il dX7_read_72 rfl ?_
                refine w_cVr dX7_read_73 (vl_X7_132 _ rfl) sh0 (by decide) (c_X7_gale ρ1 τ (τ.2 71 (60 * x + k)) (nI 0) (nI c) hC1) rfl rfl (Nat.le_of_ble_eq_true rfl) (fun vg ρg hg9 => ?_)
                obtain ⟨rfl, hCg1, hEg1⟩ := hg9
                refine w_ifge dX7_read_76 (fun h76 => ?_) (fun h76 => ?_)
                · --t
                  have gy := rd_y hC1.1.1 hc1 hc (Int32.not_lt.mpr h76)
                  refine w_iincN (ls2 := [some (.ref 0), some (.int (nI x)), some (.int (nI c)), some (.ref (39 + x)), some (.int (nI (k + 1))), some (.int (nI k))]) dX7_read_82 rfl rfl ?_
                  refine w_iincN (ls2 := [some (.ref 0), some (.int (nI x)), some (.int (nI c)), some (.ref (39 + x)), some (.int (nI (k + 1))), some (.int (nI (k + 1)))]) dX7_read_85 rfl rfl ?_
                  refine w_goto dX7_read_88 ?_
                  exact ih47 (k + 1) (n_gale τ (τ.2 71 (60 * x + k)) (nI 0) (nI c)) ρg (by omega) (hCg1) (EqM.tr hE1 hEg1) (by rw [gy.2, (addG_sh _ _ _ _).2.2.1]; exact hs1) (by rw [gy.2, addG_last]; exact Nat.le_refl c) (by rw [← hr1, show σ.1 70 x - k = (σ.1 70 x - (k + 1)) + 1 by omega, rdS, if_pos gy.1, gy.2]) (by omega)
                · --f
                  refine w_goto dX7_read_79 ?_
                  refine w_il dX7_read_91 rfl ?_
                  have gn := rd_n hC1.1.1 hc1 hc (Int32.not_le.mp h76)
                  have er : rdS x c (σ.1 70 x) 0 σ = (τ, k) := by rw [← hr1, show σ.1 70 x - k = (σ.1 70 x - (k + 1)) + 1 by omega, rdS, if_neg gn.1]
                  refine w_iret dX7_read_93 rfl ?_
                  rw [← hQ]
                  exact ⟨_, rfl, by rw [r_read, if_pos ⟨h4, h15⟩, nv_nI (by omega), nv_nI (by omega), if_neg (by omega), er], by rw [n_read, if_pos ⟨h4, h15⟩, nv_nI (by omega), nv_nI (by omega), if_neg (by omega), er]; rw [gn.2] at hCg1; exact hCg1, (EqM.tr hE1 hEg1)⟩
        exact L47 _ 0 σ ρ (by omega) (hC) (EqM.rf) (rfl) (hc0) (rfl) (Nat.lt_succ_self _)
      · --f
        refine w_al dX7_read_35 rfl ?_
        refine w_k dX7_read_36 ?_
        refine w_cVf dX7_read_37 (vl_X7_123 _ rfl) sh0 (by decide) (c_X7_found ρ 1) rfl rfl (Nat.le_of_ble_eq_true rfl) ?_
        refine w_iret dX7_read_40 rfl ?_
        rw [← hQ]
        exact ⟨_, rfl, by rw [r_read, if_pos ⟨h4, h15⟩, nv_nI (by omega), if_pos (by omega)], by rw [n_read, if_pos ⟨h4, h15⟩, nv_nI (by omega), if_pos (by omega)]; exact hC.find (by omega), (EqM.only EqM.rf only_wI (by decide))⟩
    · --f
      refine w_k dX7_read_18 ?_
      refine w_iret dX7_read_20 rfl ?_
      rw [← hQ]
      exact ⟨_, rfl, by rw [r_read, if_neg (fun z => h15 z.2)], by rw [n_read, if_neg (fun z => h15 z.2)]; exact ⟨hC.1, hC.2.1, hC.2.2⟩, EqM.rf⟩

set_option maxHeartbeats 4000000 in
theorem c_X8_read (ρ : Rho) (σ : Sg) (p : Int32) (t : Int32) (hM : MInv σ ρ) : CallOK 2 mX8_read [.ref 47, .int p, .int t] ρ (fun r ρ2 => ∃ v, r = some v ∧ (v = .int (r_read σ p t) ∧ MInv (n_read σ p t) ρ2 ∧ EqC ρ ρ2)) := by
  refine callOK_of 1 (by decide +kernel) rfl (fun _ => Nat.le_of_ble_eq_true rfl) (ls := [some (.ref 47), some (.int p), some (.int t), none]) rfl ?_
  generalize hQ : (fun r ρ2 => ∃ v, r = some v ∧ (v = .int (r_read σ p t) ∧ MInv (n_read σ p t) ρ2 ∧ EqC ρ ρ2) : Option Value → Rho → Prop) = Q
  have w1 := hM.1.typed
  have w2 := hM.1.gales
  have w3 := hM.1.last
  refine w_il dX8_read_0 rfl ?_
  refine w_cSf dX8_read_1 (sl_X8_136 _ rfl) (by decide) (c_X8_isSheet ρ p) rfl rfl (Nat.le_of_ble_eq_true rfl) ?_
  refine w_ifeqB dX8_read_4 (fun h4 => ?_) (fun h4 => ?_)
  · --t
    refine w_k dX8_read_21 ?_
    refine w_iret dX8_read_23 rfl ?_
    rw [← hQ]
    exact ⟨_, rfl, by rw [r_read, if_neg (fun z => h4 z.1)], by rw [n_read, if_neg (fun z => h4 z.1)]; exact hM, EqC.rf⟩
  · --f
    obtain ⟨x, hx, rfl⟩ := inR_nI h4 (by decide)
    refine w_il dX8_read_7 rfl ?_
    refine w_al dX8_read_8 rfl ?_
    refine w_giV (v := (nI (σ.1 47 12))) dX8_read_9 fl_X8_126 sh47 rfl (hM.2.2.2 12 (by decide)) ?_
    refine w_k dX8_read_12 ?_
    refine w_cSf dX8_read_15 (sl_X8_89 _ rfl) (by decide) (c_X8_in ρ t (nI (σ.1 47 12)) (nI 999)) rfl rfl (Nat.le_of_ble_eq_true rfl) ?_
    refine w_ifneB dX8_read_18 (fun h18 => ?_) (fun h18 => ?_)
    · --t
      obtain ⟨c, hc0, hc, rfl⟩ := inR_nI2 h18 (by omega) (by omega)
      have w5 := hM.1.size x
      have w6 := hM.1.there x
      refine w_al dX8_read_24 rfl ?_
      refine w_gr dX8_read_25 fl_X8_71 sh47 rfl ?_
      refine w_il dX8_read_28 rfl ?_
      refine w_zaldV (v := (nI (σ.1 68 x))) dX8_read_29 sh68 (by omega) (hM.2.1 68 (by decide) _) ?_
      refine w_ifneN dX8_read_30 (by omega) (fun h30 => ?_) (fun h30 => ?_)
      · --t
        refine w_k dX8_read_39 ?_
        refine w_is (ls2 := [some (.ref 47), some (.int (nI x)), some (.int (nI c)), some (.int (nI 0))]) dX8_read_40 rfl ?_
        have L41 : ∀ (n41 : Nat) (k : Nat) (τ : Sg) (ρ1 : Rho), (k ≤ σ.1 70 x) → (MInv τ ρ1) → (EqC ρ ρ1) → (τ.1 70 x = σ.1 70 x) → (τ.1 47 12 ≤ c) → (rdS x c (σ.1 70 x - k) k τ = rdS x c (σ.1 70 x) 0 σ) → (σ.1 70 x - k) < n41 → MW mX8_read 2 41 [some (.ref 47), some (.int (nI x)), some (.int (nI c)), some (.int (nI k))] [] ρ1 Q := by
          intro n41
          induction n41 with
          | zero =>
            intro k τ ρ1 hk hM1 hE1 hs1 hc1 hr1 hm41
            exact absurd hm41 (Nat.not_lt_zero _)
          | succ n41 ih41 =>
            intro k τ ρ1 hk hM1 hE1 hs1 hc1 hr1 hm41
            refine w_il dX8_read_41 rfl ?_
            refine w_al dX8_read_42 rfl ?_
            refine w_gr dX8_read_43 fl_X8_78 sh47 rfl ?_
            refine w_il dX8_read_46 rfl ?_
            refine w_ialdV (v := (nI (σ.1 70 x))) dX8_read_47 sh70 (by omega) (by rw [← hs1]; exact hM1.2.1 70 (by decide) x) ?_
            refine w_icgeN dX8_read_48 (by omega) (by omega) (fun h48 => ?_) (fun h48 => ?_)
            · --t
              refine w_il dX8_read_77 rfl ?_
              have er : rdS x c (σ.1 70 x) 0 σ = (τ, k) := by rw [← hr1, show σ.1 70 x - k = 0 by omega]; rfl
              refine w_iret dX8_read_78 rfl ?_
              rw [← hQ]
              exact ⟨_, rfl, by rw [r_read, if_pos ⟨h4, h18⟩, nv_nI (by omega), nv_nI (by omega), if_neg h30, er], by rw [n_read, if_pos ⟨h4, h18⟩, nv_nI (by omega), nv_nI (by omega), if_neg h30, er]; exact hM1, hE1⟩
            · --f
              refine w_al dX8_read_51 rfl ?_
              refine w_al dX8_read_52 rfl ?_
              refine w_gr dX8_read_53 fl_X8_81 sh47 rfl ?_
              refine w_k dX8_read_56 ?_
              refine w_il dX8_read_58 rfl ?_
              refine w_imulN dX8_read_59 ?_
              refine w_il dX8_read_60 rfl ?_
              refine w_iaddN dX8_read_61 ?_
              refine w_ialdV (v := (τ.2 71 (60 * x + k))) dX8_read_62 sh71 (by omega) (hM1.2.2.1 71 (by decide) _) ?_
              refine w_k dX8_read_63 ?_
              refine w_il dX8_read_64 rfl ?_
              refine w_cVr dX8_read_65 (vl_X8_132 _ rfl) sh47 (by decide) (c_X8_galeMore ρ1 τ (τ.2 71 (60 * x + k)) (nI 0) (nI c) hM1) rfl rfl (Nat.le_of_ble_eq_true rfl) (fun vg ρg hg9 => ?_)
              obtain ⟨rfl, hMg1, hEg1⟩ := hg9
              refine w_iflt dX8_read_68 (fun h68 => ?_) (fun h68 => ?_)
              · --t
                refine w_il dX8_read_77 rfl ?_
                have gn := rd_n hM1.1 hc1 hc h68
                have er : rdS x c (σ.1 70 x) 0 σ = (τ, k) := by rw [← hr1, show σ.1 70 x - k = (σ.1 70 x - (k + 1)) + 1 by omega, rdS, if_neg gn.1]
                refine w_iret dX8_read_78 rfl ?_
                rw [← hQ]
                exact ⟨_, rfl, by rw [r_read, if_pos ⟨h4, h18⟩, nv_nI (by omega), nv_nI (by omega), if_neg h30, er], by rw [n_read, if_pos ⟨h4, h18⟩, nv_nI (by omega), nv_nI (by omega), if_neg h30, er]; rw [gn.2] at hMg1; exact hMg1, (EqC.tr hE1 hEg1)⟩
              · --f
                have gy := rd_y hM1.1 hc1 hc h68
                refine w_iincN (ls2 := [some (.ref 47), some (.int (nI x)), some (.int (nI c)), some (.int (nI (k + 1)))]) dX8_read_71 rfl rfl ?_
                refine w_goto dX8_read_74 ?_
                exact ih41 (k + 1) (n_gale τ (τ.2 71 (60 * x + k)) (nI 0) (nI c)) ρg (by omega) (hMg1) (EqC.tr hE1 hEg1) (by rw [gy.2, (addG_sh _ _ _ _).2.2.1]; exact hs1) (by rw [gy.2, addG_last]; exact Nat.le_refl c) (by rw [← hr1, show σ.1 70 x - k = (σ.1 70 x - (k + 1)) + 1 by omega, rdS, if_pos gy.1, gy.2]) (by omega)
        exact L41 _ 0 σ ρ (by omega) (hM) (EqC.rf) (rfl) (hc0) (rfl) (Nat.lt_succ_self _)
      · --f
        refine w_al dX8_read_33 rfl ?_
        refine w_k dX8_read_34 ?_
        refine w_cVf dX8_read_35 (vl_X8_139 _ rfl) sh47 (by decide) (c_X8_meets ρ 1) rfl rfl (Nat.le_of_ble_eq_true rfl) ?_
        refine w_iret dX8_read_38 rfl ?_
        rw [← hQ]
        exact ⟨_, rfl, by rw [r_read, if_pos ⟨h4, h18⟩, nv_nI (by omega), if_pos h30], by rw [n_read, if_pos ⟨h4, h18⟩, nv_nI (by omega), if_pos h30]; exact hM.find (by omega), (EqC.w EqC.rf (by decide))⟩
    · --f
      refine w_k dX8_read_21 ?_
      refine w_iret dX8_read_23 rfl ?_
      rw [← hQ]
      exact ⟨_, rfl, by rw [r_read, if_neg (fun z => h18 z.2)], by rw [n_read, if_neg (fun z => h18 z.2)]; exact hM, EqC.rf⟩
