section
variable {σ : Sg} {n a nb : Nat} {cl br : Nat → Nat}
theorem PP_end (h : ¬ a < σ.1 47 0) : PP σ n a cl nb br = (-1, cl, nb, br) := by
  cases n with
  | zero => rfl
  | succ n => unfold PP; rw [if_neg h]
theorem PP_semi (h : a < σ.1 47 0) (h1 : σ.1 48 a ≠ 59) : PP σ (n + 1) a cl nb br = (nI a, cl, nb, br) := by
  unfold PP; rw [if_pos h, if_neg h1]
theorem PP_x (h : a < σ.1 47 0) (h1 : σ.1 48 a = 59) (h2 : bA σ (a + 1) = nI 120) (h3 : dg σ (a + 2) ≤ 7) : PP σ (n + 1) a cl nb br = PP σ n (a + 3) (va_up cl (dg σ (a + 2)) 1) nb br := by
  rw [PP, if_pos h, if_pos h1, if_pos h2, if_pos h3]
theorem PP_xf (h : a < σ.1 47 0) (h1 : σ.1 48 a = 59) (h2 : bA σ (a + 1) = nI 120) (h3 : ¬ dg σ (a + 2) ≤ 7) : PP σ (n + 1) a cl nb br = (nI (a + 2), cl, nb, br) := by
  rw [PP, if_pos h, if_pos h1, if_pos h2, if_neg h3]
theorem PP_k (h : a < σ.1 47 0) (h1 : σ.1 48 a = 59) (h2 : bA σ (a + 1) ≠ nI 120) (h3 : ¬ (bA σ (a + 1) = nI 98 ∧ nb < 4)) : PP σ (n + 1) a cl nb br = (nI (a + 1), cl, nb, br) := by
  rw [PP, if_pos h, if_pos h1, if_neg h2, if_neg h3]
theorem PP_b0 (h : a < σ.1 47 0) (h1 : σ.1 48 a = 59) (h2 : bA σ (a + 1) ≠ nI 120) (h3 : bA σ (a + 1) = nI 98 ∧ nb < 4) (g0 : ¬ dg σ (a + 2) ≤ 7) : PP σ (n + 1) a cl nb br = (nI (a + 2), cl, nb, br) := by
  rw [PP, if_pos h, if_pos h1, if_neg h2, if_pos h3, if_neg g0]
theorem PP_b1 (h : a < σ.1 47 0) (h1 : σ.1 48 a = 59) (h2 : bA σ (a + 1) ≠ nI 120) (h3 : bA σ (a + 1) = nI 98 ∧ nb < 4) (g0 : dg σ (a + 2) ≤ 7) (g1 : ¬ (dg σ (a + 3) ≤ 7 ∧ dg σ (a + 3) ≠ dg σ (a + 2))) : PP σ (n + 1) a cl nb br = (nI (a + 3), cl, nb, br) := by
  rw [PP, if_pos h, if_pos h1, if_neg h2, if_pos h3, if_pos g0, if_neg g1]
theorem PP_b2 (h : a < σ.1 47 0) (h1 : σ.1 48 a = 59) (h2 : bA σ (a + 1) ≠ nI 120) (h3 : bA σ (a + 1) = nI 98 ∧ nb < 4) (g0 : dg σ (a + 2) ≤ 7) (g1 : dg σ (a + 3) ≤ 7 ∧ dg σ (a + 3) ≠ dg σ (a + 2)) (g2 : ¬ (1 ≤ dg σ (a + 4) ∧ dg σ (a + 4) ≤ 8)) : PP σ (n + 1) a cl nb br = (nI (a + 4), cl, nb, br) := by
  rw [PP, if_pos h, if_pos h1, if_neg h2, if_pos h3, if_pos g0, if_pos g1, if_neg g2]
theorem PP_b3 (h : a < σ.1 47 0) (h1 : σ.1 48 a = 59) (h2 : bA σ (a + 1) ≠ nI 120) (h3 : bA σ (a + 1) = nI 98 ∧ nb < 4) (g0 : dg σ (a + 2) ≤ 7) (g1 : dg σ (a + 3) ≤ 7 ∧ dg σ (a + 3) ≠ dg σ (a + 2)) (g2 : 1 ≤ dg σ (a + 4) ∧ dg σ (a + 4) ≤ 8) (g3 : ¬ dg σ (a + 5) < dg σ (a + 4)) : PP σ (n + 1) a cl nb br = (nI (a + 5), cl, nb, br) := by
  rw [PP, if_pos h, if_pos h1, if_neg h2, if_pos h3, if_pos g0, if_pos g1, if_pos g2, if_neg g3]
theorem PP_b (h : a < σ.1 47 0) (h1 : σ.1 48 a = 59) (h2 : bA σ (a + 1) ≠ nI 120) (h3 : bA σ (a + 1) = nI 98 ∧ nb < 4) (g0 : dg σ (a + 2) ≤ 7) (g1 : dg σ (a + 3) ≤ 7 ∧ dg σ (a + 3) ≠ dg σ (a + 2)) (g2 : 1 ≤ dg σ (a + 4) ∧ dg σ (a + 4) ≤ 8) (g3 : dg σ (a + 5) < dg σ (a + 4)) : PP σ (n + 1) a cl nb br = PP σ n (a + 6) cl (nb + 1) (br4 br nb (dg σ (a + 2)) (dg σ (a + 3)) (dg σ (a + 4)) (dg σ (a + 5))) := by
  rw [PP, if_pos h, if_pos h1, if_neg h2, if_pos h3, if_pos g0, if_pos g1, if_pos g2, if_pos g3]
theorem fsg_s {p : Nat} (h : p < 8) (hF : fsg σ (8 - p) p = fsg σ 8 0) (ht : tOf (bA σ p) ≠ -1) : fsg σ (8 - (p + 1)) (p + 1) = fsg σ 8 0 := by
  rw [← hF, show 8 - p = (8 - (p + 1)) + 1 by omega, fsg, if_neg ht]
theorem fsg_t {p : Nat} (h : p < 8) (hF : fsg σ (8 - p) p = fsg σ 8 0) (ht : tOf (bA σ p) = -1) : LPr σ = (nI p, (fun _ => 0), 0, (fun _ => 0)) := by
  have : fsg σ 8 0 = some p := by rw [← hF, show 8 - p = (8 - (p + 1)) + 1 by omega, fsg, if_pos ht]
  unfold LPr
  rw [this]
theorem fsg_e {p : Nat} (h : 8 ≤ p) (h2 : p ≤ 8) (hF : fsg σ (8 - p) p = fsg σ 8 0) : PP σ 60 8 (fun _ => 0) 0 (fun _ => 0) = LPr σ := by
  have : fsg σ 8 0 = none := by rw [← hF, show 8 - p = 0 by omega, fsg]
  unfold LPr
  rw [this]
end
theorem MInv.wk {σ : Sg} {ρ : Rho} (h : MInv σ ρ) {k i : Nat} {v : Int32} (hk : k ∉ mNs ∧ k ∉ mZs ∧ k ≠ 47) : MInv σ (wI ρ k i v) := h.w ⟨hk.1, hk.2.1, fun e => absurd e hk.2.2⟩
theorem bA_ne {σ : Sg} {k : Nat} (h : ¬ k < σ.1 47 0) : bA σ k = -1 := if_neg h
theorem bA_eq {σ : Sg} {k : Nat} (h : k < σ.1 47 0) : bA σ k = nI (σ.1 48 k) := if_pos h
theorem rI_c {ρ : Rho} {k i a b : Nat} {v x : Int32} (h : a ≠ k) (e : ρ.1 a b = x) : (wI ρ k i v).1 a b = x := (rI_ne (fun q => h q.1)).trans e
theorem keepA {ρ : Rho} {k i a n : Nat} {v : Int32} {f : Nat → Int32} (h : a ≠ k) (e : ∀ q, q < n → ρ.1 a q = f q) : ∀ q, q < n → (wI ρ k i v).1 a q = f q := fun q hq => rI_c h (e q hq)
theorem ext1 {ρ : Rho} {k p : Nat} {v : Int32} {f : Nat → Int32} (h : ∀ q, q < p → ρ.1 k q = f q) (hv : v = f p) : ∀ q, q < p + 1 → (wI ρ k p v).1 k q = f q := fun q hq => by
  by_cases e : q = p
  · subst e; rw [rI_eq]; exact hv
  · rw [rI_ne (fun z => e z.2)]; exact h q (by omega)
theorem upd1 {ρ : Rho} {k p n : Nat} {v : Int32} {f g : Nat → Int32} (h : ∀ q, q < n → ρ.1 k q = f q) (hv : v = g p) (hg : ∀ q, q ≠ p → g q = f q) : ∀ q, q < n → (wI ρ k p v).1 k q = g q := fun q hq => by
  by_cases e : q = p
  · subst e; rw [rI_eq]; exact hv
  · rw [rI_ne (fun z => e z.2), hg q e]; exact h q hq
theorem va_up_eq {α : Type} {f : Nat → α} {k : Nat} {v : α} : va_up f k v k = v := if_pos rfl
theorem br4_ext {ρ : Rho} {nb a b c d : Nat} {br : Nat → Nat} (h : ∀ i, i < 4 * nb → ρ.1 51 i = nI (br i)) : ∀ i, i < 4 * (nb + 1) → (wI (wI (wI (wI ρ 51 (4 * nb) (nI a)) 51 (4 * nb + 1) (nI b)) 51 (4 * nb + 2) (nI c)) 51 (4 * nb + 3) (nI d)).1 51 i = nI (br4 br nb a b c d i) := fun i hi => by
  rcases (show i < 4 * nb ∨ i = 4 * nb ∨ i = 4 * nb + 1 ∨ i = 4 * nb + 2 ∨ i = 4 * nb + 3 by omega) with e | rfl | rfl | rfl | rfl
  · rw [br4_lo e, rI_ne (by omega), rI_ne (by omega), rI_ne (by omega), rI_ne (by omega)]; exact h i e
  · rw [br4_0, rI_ne (by omega), rI_ne (by omega), rI_ne (by omega), rI_eq]
  · rw [br4_1, rI_ne (by omega), rI_ne (by omega), rI_eq]
  · rw [br4_2, rI_ne (by omega), rI_eq]
  · rw [br4_3, rI_eq]
theorem vup_ne {α : Type} {f : Nat → α} {k q : Nat} {v : α} (h : q ≠ k) : va_up f k v q = f q := if_neg h
theorem LL_ok {σ : Sg} {ρ : Rho} (h : (LPr σ).1 = -1) (hL : (∀ p, p < 8 → ρ.1 49 p = tOf (bA σ p)) ∧ (∀ p, p < 8 → ρ.1 50 p = nI ((LPr σ).2.1 p)) ∧ ρ.1 47 4 = nI (LPr σ).2.2.1 ∧ ∀ i, i < 4 * (LPr σ).2.2.1 → ρ.1 51 i = nI ((LPr σ).2.2.2 i)) : LL σ ρ := by
  have hs : ∀ p, p < 8 → tOf (bA σ p) ≠ -1 := by
    have key : ∀ (n a : Nat), fsg σ n a = none → ∀ p, a ≤ p → p < a + n → tOf (bA σ p) ≠ -1 := by
      intro n
      induction n with
      | zero => intro a _ p h1 h2; omega
      | succ n ih =>
        intro a hf p h1 h2
        unfold fsg at hf
        split at hf
        · cases hf
        · rename_i hne
          by_cases e : p = a
          · subst e; exact hne
          · exact ih (a + 1) hf p (by omega) (by omega)
    intro p hp
    refine key 8 0 ?_ p (Nat.zero_le _) (by omega)
    cases hf : fsg σ 8 0 with
    | none => rfl
    | some q =>
      exfalso
      have : LPr σ = (nI q, (fun _ => 0), 0, (fun _ => 0)) := by unfold LPr; rw [hf]
      rw [this] at h
      have hq : q < 8 := by
        have key2 : ∀ (n a q : Nat), fsg σ n a = some q → q < a + n := by
          intro n
          induction n with
          | zero => intro a q hf; cases hf
          | succ n ih =>
            intro a q hf
            unfold fsg at hf
            split at hf
            · cases hf; omega
            · have := ih (a + 1) q hf; omega
        have := key2 8 0 q hf
        omega
      exact nIneg (by omega) h
  have hF : Flt σ = -1 := h
  refine ⟨fun p hp => ?_, fun p hp => ?_, ?_, ?_⟩
  · rw [hL.1 p hp]
    unfold Th
    rw [if_pos hF]
    rcases tOf_in (bA σ p) with e | ⟨t, ht, e⟩
    · exact absurd e (hs p hp)
    · rw [e, nI_clamp (by omega)]
  · rw [hL.2.1 p hp]; unfold Cl; rw [if_pos hF]
  · rw [hL.2.2.1]; unfold NB; rw [if_pos hF]
  · intro i hi
    unfold NB at hi
    rw [if_pos hF] at hi
    exact hL.2.2.2 i hi
theorem LL_bad {σ : Sg} {ρ : Rho} (h : ¬ (LPr σ).1 = -1) (h1 : ∀ p, p < 8 → ρ.1 49 p = nI 0) (h2 : ∀ p, p < 8 → ρ.1 50 p = nI 0) (h3 : ρ.1 47 4 = nI 0) : LL σ ρ := by
  have hF : ¬ Flt σ = -1 := h
  refine ⟨fun p hp => ?_, fun p hp => ?_, ?_, ?_⟩
  · rw [h1 p hp]; unfold Th; rw [if_neg hF]
  · rw [h2 p hp]; unfold Cl; rw [if_neg hF]
  · rw [h3]; unfold NB; rw [if_neg hF]
  · intro i hi
    unfold NB at hi
    rw [if_neg hF] at hi
    omega
theorem LL.w {σ : Sg} {ρ : Rho} (h : LL σ ρ) {k i : Nat} {v : Int32} (hk : k ≠ 47 ∧ k ≠ 49 ∧ k ≠ 50 ∧ k ≠ 51) : LL σ (wI ρ k i v) :=
  ⟨fun p hp => rI_c hk.2.1.symm (h.1 p hp), fun p hp => rI_c hk.2.2.1.symm (h.2.1 p hp), rI_c hk.1.symm h.2.2.1, fun i hi => rI_c hk.2.2.2.symm (h.2.2.2 i hi)⟩
theorem LL.wl {σ : Sg} {ρ : Rho} (h : LL σ ρ) {k i : Nat} {v : Int64} : LL σ (wL ρ k i v) := h
theorem Laid.w {σ : Sg} {ρ : Rho} (h : Laid σ ρ) {k i : Nat} {v : Int32} (hk : k ≠ 47 ∧ k ≠ 49 ∧ k ≠ 50 ∧ k ≠ 51 ∧ k ≠ 58) : Laid σ (wI ρ k i v) :=
  ⟨h.1.w ⟨hk.1, hk.2.1, hk.2.2.1, hk.2.2.2.1⟩, fun d hd => rI_c hk.2.2.2.2.symm (h.2 d hd)⟩
theorem Laid.wl {σ : Sg} {ρ : Rho} (h : Laid σ ρ) {k i : Nat} {v : Int64} : Laid σ (wL ρ k i v) := h
theorem sumT_s (σ : Sg) (d k : Nat) : sumT σ d (k + 1) = sumT σ d k + (if cntG σ k ∧ σ.1 53 k ≤ d then incG σ k else 0) := rfl
theorem sumT_n {σ : Sg} {d k : Nat} (h : ¬ (cntG σ k ∧ σ.1 53 k ≤ d)) : sumT σ d (k + 1) = sumT σ d k := by rw [sumT_s, if_neg h]; rfl
theorem sumT_y {σ : Sg} {d k : Nat} (h : cntG σ k ∧ σ.1 53 k ≤ d) : sumT σ d (k + 1) = sumT σ d k + incG σ k := by rw [sumT_s, if_pos h]
