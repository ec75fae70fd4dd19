/-! THE CLASS'S CELLS -/
def fillI (ρ : Rho) (q n : Nat) (v : Int32) : Rho := (fun a b => if a = q ∧ b < n then v else ρ.1 a b, ρ.2)
def fillL (ρ : Rho) (q n : Nat) (v : Int64) : Rho := (ρ.1, fun a b => if a = q ∧ b < n then v else ρ.2 a b)
theorem fillI_0 (ρ : Rho) (q : Nat) (v : Int32) : fillI ρ q 0 v = ρ := by
  unfold fillI
  refine Prod.ext ?_ rfl
  funext a b
  simp
theorem fillL_0 (ρ : Rho) (q : Nat) (v : Int64) : fillL ρ q 0 v = ρ := by
  unfold fillL
  refine Prod.ext rfl ?_
  funext a b
  simp
theorem fillI_s (ρ : Rho) (q i : Nat) (v : Int32) : wI (fillI ρ q i v) q i v = fillI ρ q (i + 1) v := by
  unfold fillI wI
  refine Prod.ext ?_ rfl
  funext a b
  dsimp only
  by_cases h1 : a = q
  · subst h1
    by_cases h2 : b = i
    · subst h2; simp
    · by_cases h3 : b < i
      · simp [h2, h3, show b < i + 1 by omega]
      · simp [h2, h3, show ¬ b < i + 1 by omega]
  · simp [h1]
theorem fillL_s (ρ : Rho) (q i : Nat) (v : Int64) : wL (fillL ρ q i v) q i v = fillL ρ q (i + 1) v := by
  unfold fillL wL
  refine Prod.ext rfl ?_
  funext a b
  dsimp only
  by_cases h1 : a = q
  · subst h1
    by_cases h2 : b = i
    · subst h2; simp
    · by_cases h3 : b < i
      · simp [h2, h3, show b < i + 1 by omega]
      · simp [h2, h3, show ¬ b < i + 1 by omega]
  · simp [h1]
theorem fill_at {ρ : Rho} {q n i : Nat} {v : Int32} (h : i < n) : (fillI ρ q n v).1 q i = v := by simp [fillI, h]
theorem fillL_at {ρ : Rho} {q n i : Nat} {v : Int64} (h : i < n) : (fillL ρ q n v).2 q i = v := by simp [fillL, h]
/-- nothing but the cell k has changed -/
def Only (k : Nat) (ρ ρ2 : Rho) : Prop := ∀ a, a ≠ k → ρ2.1 a = ρ.1 a ∧ ρ2.2 a = ρ.2 a
theorem only_wI {ρ : Rho} {k i : Nat} {v : Int32} : Only k ρ (wI ρ k i v) := fun _ h => ⟨wI_ne h, rfl⟩
theorem only_wL {ρ : Rho} {k i : Nat} {v : Int64} : Only k ρ (wL ρ k i v) := fun _ h => ⟨rfl, wL_ne h⟩
theorem only_fillI {ρ : Rho} {k n : Nat} {v : Int32} : Only k ρ (fillI ρ k n v) := fun a h => ⟨by funext b; simp [fillI, h], rfl⟩
theorem only_fillL {ρ : Rho} {k n : Nat} {v : Int64} : Only k ρ (fillL ρ k n v) := fun a h => ⟨rfl, by funext b; simp [fillL, h]⟩
/-- only cells of a list have changed -/
def Fr (S : List Nat) (ρ ρ2 : Rho) : Prop := ∀ a, a ∉ S → ρ2.1 a = ρ.1 a ∧ ρ2.2 a = ρ.2 a
theorem Fr.rf {S : List Nat} {ρ : Rho} : Fr S ρ ρ := fun _ _ => ⟨rfl, rfl⟩
theorem Fr.tr {S : List Nat} {a b c : Rho} (h : Fr S a b) (g : Fr S b c) : Fr S a c := fun k hk => ⟨(g k hk).1.trans (h k hk).1, (g k hk).2.trans (h k hk).2⟩
theorem Fr.only {S : List Nat} {a b c : Rho} {k : Nat} (h : Fr S a b) (o : Only k b c) (hk : k ∈ S) : Fr S a c := fun q hq => ⟨((o q (fun e => hq (e ▸ hk))).1).trans (h q hq).1, ((o q (fun e => hq (e ▸ hk))).2).trans (h q hq).2⟩
theorem Fr.sub {S S2 : List Nat} {a b : Rho} (h : Fr S a b) (hs : ∀ k ∈ S, k ∈ S2) : Fr S2 a b := fun q hq => h q (fun e => hq (hs q e))
theorem Fr.eqM {S : List Nat} {a b : Rho} (h : Fr S a b) (hs : ∀ k ∈ S, k < 47) : EqM a b := fun q hq => h q (fun e => absurd (hs q e) (by omega))
theorem Fr.eqC {S : List Nat} {a b : Rho} (h : Fr S a b) (hs : ∀ k ∈ S, 47 ≤ k) : EqC a b := fun q hq => h q (fun e => absurd (hs q e) (by omega))
/-- class cell, state cell -/
def cNs : List (Nat × Nat) := [(2, 48), (5, 52), (11, 53), (12, 54), (13, 55), (27, 63), (28, 62)]
def cZs : List (Nat × Nat) := [(14, 56), (33, 66)]
def cSs : List (Nat × Nat × Nat × Nat) := [(1, 1, 47, 0), (10, 0, 47, 7), (10, 5, 47, 12), (10, 6, 57, 0), (10, 7, 57, 1), (10, 8, 57, 2), (0, 8, 47, 29)]
def CSh (σ : Sg) (ρ : Rho) : Prop := ∀ t, t < 4 → ρ.1 (39 + t) 0 = nI (1 - σ.1 68 t) ∧ ρ.1 (39 + t) 1 = nI (σ.1 69 t) ∧ ρ.1 (39 + t) 2 = nI (σ.1 70 t) ∧ ∀ i, i < 60 → ρ.1 (43 + t) i = σ.2 71 (60 * t + i)
/-- the history of no DAYS -/
def HV (ρ : Rho) : Prop := ρ.1 35 0 = nI 0 ∧ ρ.2 37 0 = lN 0
/-- the class's cells hold the state -/
def CP (σ : Sg) (ρ : Rho) : Prop := Wf σ ∧ (∀ q ∈ cNs, ∀ i, ρ.1 q.1 i = nI (σ.1 q.2 i)) ∧ (∀ q ∈ cZs, ∀ i, ρ.1 q.1 i = σ.2 q.2 i) ∧ (∀ q ∈ cSs, ρ.1 q.1 q.2.1 = nI (σ.1 q.2.2.1 q.2.2.2)) ∧ CSh σ ρ ∧ HV ρ
/-- the land as the class has read it -/
def CLd (σ : Sg) (ρ : Rho) : Prop := (∀ p, p < 8 → ρ.1 3 p = nI (Th σ p)) ∧ (∀ p, p < 8 → ρ.1 4 p = nI (Cl σ p)) ∧ ρ.1 1 6 = nI (NB σ) ∧ (∀ k, k < NB σ → ρ.1 6 k = nI (Br σ (4 * k)) ∧ ρ.1 7 k = nI (Br σ (4 * k + 1)) ∧ ρ.1 8 k = nI (Br σ (4 * k + 2)) ∧ ρ.1 9 k = nI (Br σ (4 * k + 3))) ∧ ρ.1 1 2 = Flt σ
def CTn (σ : Sg) (ρ : Rho) : Prop := ∀ d, d < 100 → ρ.1 15 d = nI (Tn σ d)
def CInv (σ : Sg) (ρ : Rho) : Prop := CP σ ρ ∧ CLd σ ρ ∧ CTn σ ρ
theorem CP.only {σ : Sg} {ρ ρ2 : Rho} {k : Nat} (h : CP σ ρ) (o : Only k ρ ρ2) (hk : k ∉ [0, 1, 2, 5, 10, 11, 12, 13, 14, 27, 28, 33, 35, 37, 39, 40, 41, 42, 43, 44, 45, 46]) : CP σ ρ2 := by
  have ne : ∀ a, a ∈ [0, 1, 2, 5, 10, 11, 12, 13, 14, 27, 28, 33, 35, 37, 39, 40, 41, 42, 43, 44, 45, 46] → ρ2.1 a = ρ.1 a := fun a ha => (o a (fun e => hk (e ▸ ha))).1
  refine ⟨h.1, fun q hq i => ?_, fun q hq i => ?_, fun q hq => ?_, fun t ht => ?_, ?_⟩
  · rw [ne q.1 (by simp only [cNs, List.mem_cons, List.not_mem_nil, or_false] at hq; rcases hq with rfl | rfl | rfl | rfl | rfl | rfl | rfl <;> decide)]; exact h.2.1 q hq i
  · rw [ne q.1 (by simp only [cZs, List.mem_cons, List.not_mem_nil, or_false] at hq; rcases hq with rfl | rfl <;> decide)]; exact h.2.2.1 q hq i
  · rw [ne q.1 (by simp only [cSs, List.mem_cons, List.not_mem_nil, or_false] at hq; rcases hq with rfl | rfl | rfl | rfl | rfl | rfl | rfl <;> decide)]; exact h.2.2.2.1 q hq
  · obtain ⟨h1, h2, h3, h4⟩ := h.2.2.2.2.1 t ht
    have e1 : ρ2.1 (39 + t) = ρ.1 (39 + t) := ne _ (by match t, ht with | 0, _ => decide | 1, _ => decide | 2, _ => decide | 3, _ => decide)
    have e2 : ρ2.1 (43 + t) = ρ.1 (43 + t) := ne _ (by match t, ht with | 0, _ => decide | 1, _ => decide | 2, _ => decide | 3, _ => decide)
    rw [e1, e2]
    exact ⟨h1, h2, h3, h4⟩
  · refine ⟨?_, ?_⟩
    · rw [ne 35 (by decide)]; exact h.2.2.2.2.2.1
    · rw [(o 37 (fun e => hk (e ▸ (by decide)))).2]; exact h.2.2.2.2.2.2
/-- a slot of the land's, the gales' object that is no part of the state -/
theorem CP.slot {σ : Sg} {ρ : Rho} {k s : Nat} {v : Int32} (h : CP σ ρ) (hk : (k, s) = (1, 2) ∨ (k, s) = (1, 6)) : CP σ (wI ρ k s v) := by
  have hk1 : k = 1 := by rcases hk with e | e <;> cases e <;> rfl
  subst hk1
  have hs : s ≠ 1 := by rcases hk with e | e <;> cases e <;> decide
  refine ⟨h.1, fun q hq i => ?_, fun q hq i => ?_, fun q hq => ?_, fun t ht => ?_, ?_⟩
  · rw [wI_ne (by simp only [cNs, List.mem_cons, List.not_mem_nil, or_false] at hq; rcases hq with rfl | rfl | rfl | rfl | rfl | rfl | rfl <;> decide)]; exact h.2.1 q hq i
  · rw [wI_ne (by simp only [cZs, List.mem_cons, List.not_mem_nil, or_false] at hq; rcases hq with rfl | rfl <;> decide)]; exact h.2.2.1 q hq i
  · rw [rI_ne (by simp only [cSs, List.mem_cons, List.not_mem_nil, or_false] at hq; rcases hq with rfl | rfl | rfl | rfl | rfl | rfl | rfl <;> simp <;> omega)]; exact h.2.2.2.1 q hq
  · rw [wI_ne (by omega), wI_ne (by omega)]; exact h.2.2.2.2.1 t ht
  · exact ⟨by rw [wI_ne (by decide)]; exact h.2.2.2.2.2.1, h.2.2.2.2.2.2⟩
theorem rI_s {ρ : Rho} {k i b : Nat} {v x : Int32} (h : b ≠ i) (e : ρ.1 k b = x) : (wI ρ k i v).1 k b = x := (rI_ne (fun q => h q.2)).trans e
theorem rF_c {ρ : Rho} {k n a b : Nat} {v x : Int32} (h : a ≠ k) (e : ρ.1 a b = x) : (fillI ρ k n v).1 a b = x := by rw [(only_fillI a h).1]; exact e
theorem keepF {ρ : Rho} {k n a m : Nat} {v : Int32} {f : Nat → Int32} (h : a ≠ k) (e : ∀ q, q < m → ρ.1 a q = f q) : ∀ q, q < m → (fillI ρ k n v).1 a q = f q := fun q hq => rF_c h (e q hq)
/-- a figure as the class reads it -/
def fgA (σ : Sg) (k : Nat) : Int32 := if dg σ k ≤ 9 then nI (dg σ k) else -1
theorem fgA_in {σ : Sg} (k hi : Nat) (hh : hi ≤ 9) : inR (fgA σ k) (nI 0) (nI hi) ↔ dg σ k ≤ hi := by
  unfold fgA
  split
  · exact ⟨fun h => (nI_leI (by omega) (by omega)).mp h.2, fun h => nI_inR h (by omega)⟩
  · exact ⟨fun h => absurd h.1 (by decide), fun h => by omega⟩
theorem fgA_val {σ : Sg} {k : Nat} (h : dg σ k ≤ 9) : fgA σ k = nI (dg σ k) := if_pos h
theorem Int32.le_or_lt' (a b : Int32) : a ≤ b ∨ b < a := by
  rw [Int32.le_iff_toInt_le, Int32.lt_iff_toInt_lt]
  omega
theorem fgA_t {σ : Sg} (hw : Wf σ) {k : Nat} (h1 : ¬ bA σ k < nI 48) (h2 : ¬ nI 57 < bA σ k) : fgA σ k = bA σ k - nI 48 := by
  have ht := hw.text k
  unfold bA at *
  unfold fgA dg
  by_cases hk : k < σ.1 47 0
  · rw [if_pos hk] at h1 h2 ⊢
    have h1 : 48 ≤ σ.1 48 k := by
      rcases Nat.lt_or_ge (σ.1 48 k) 48 with q | q
      · exact absurd ((nI_ltI (by omega) (by decide)).mpr q) h1
      · exact q
    have h2 : σ.1 48 k ≤ 57 := by
      rcases Nat.lt_or_ge 57 (σ.1 48 k) with q | q
      · exact absurd ((nI_ltI (by decide) (by omega)).mpr q) h2
      · exact q
    have e : (if k < σ.1 47 0 ∧ 48 ≤ σ.1 48 k then σ.1 48 k - 48 else 99) = σ.1 48 k - 48 := if_pos ⟨hk, h1⟩
    rw [e, if_pos (by omega), pk_sub h1]
  · rw [if_neg hk] at h1
    exact absurd (by decide) h1
theorem fgA_f {σ : Sg} (hw : Wf σ) {k : Nat} (h : ¬ (¬ bA σ k < nI 48 ∧ ¬ nI 57 < bA σ k)) : fgA σ k = -1 := by
  have ht := hw.text k
  unfold fgA
  refine if_neg (fun hd => h ?_)
  unfold dg at hd
  split at hd
  · rename_i g
    unfold bA
    rw [if_pos g.1]
    exact ⟨nI_nlt (by omega) (by omega), nI_nlt (by omega) (by omega)⟩
  · omega
/-- what takePath, takeBridge answer -/
def tpt (σ : Sg) (k : Nat) : Int32 := if dg σ k ≤ 7 then -1 else nI k
def tbr (σ : Sg) (k nb : Nat) : Int32 := if 4 ≤ nb then nI k else if ¬ dg σ (k + 1) ≤ 7 then nI (k + 1) else if ¬ (dg σ (k + 2) ≤ 7 ∧ dg σ (k + 2) ≠ dg σ (k + 1)) then nI (k + 2) else if ¬ (1 ≤ dg σ (k + 3) ∧ dg σ (k + 3) ≤ 8) then nI (k + 3) else if ¬ dg σ (k + 4) < dg σ (k + 3) then nI (k + 4) else -1
theorem fgA_18 {σ : Sg} {k : Nat} (h1 : ¬ fgA σ k < nI 1) (h2 : fgA σ k ≤ nI 8) : 1 ≤ dg σ k ∧ dg σ k ≤ 8 := by
  unfold fgA at h1 h2
  split at h1
  · rename_i g
    rw [if_pos g] at h2
    have a1 := (nI_leI (by omega) (by decide)).mp h2
    refine ⟨?_, a1⟩
    rcases Nat.lt_or_ge (dg σ k) 1 with q | q
    · exact absurd ((nI_ltI (by omega) (by decide)).mpr q) h1
    · exact q
  · exact absurd (by decide) h1
theorem fgA_n18 {σ : Sg} {k : Nat} (q : 1 ≤ dg σ k ∧ dg σ k ≤ 8) (h : fgA σ k < nI 1 ∨ ¬ fgA σ k ≤ nI 8) : False := by
  rw [fgA_val (by omega)] at h
  rcases h with h | h
  · have := (nI_ltI (by omega) (by decide)).mp h; omega
  · exact h ((nI_leI (by omega) (by decide)).mpr q.2)
section
variable {σ : Sg} {n a nb : Nat} {cl br : Nat → Nat}
theorem PP_pt (h : a < σ.1 47 0) (h1 : σ.1 48 a = 59) (h2 : bA σ (a + 1) = nI 120) (h3 : tpt σ (a + 2) ≠ -1) : PP σ (n + 1) a cl nb br = (tpt σ (a + 2), cl, nb, br) := by
  unfold tpt at h3 ⊢
  split at h3
  · exact absurd rfl h3
  · rename_i g
    rw [if_neg g, PP_xf h h1 h2 g]
theorem tpt_y (h3 : tpt σ (a + 2) = -1) (ha : a < 1000) : dg σ (a + 2) ≤ 7 := by
  unfold tpt at h3
  split at h3
  · assumption
  · exact absurd h3 (nIneg (by omega))
theorem PP_tb (h : a < σ.1 47 0) (h1 : σ.1 48 a = 59) (h2 : bA σ (a + 1) = nI 98) (h3 : tbr σ (a + 1) nb ≠ -1) : PP σ (n + 1) a cl nb br = (tbr σ (a + 1) nb, cl, nb, br) := by
  have hx : bA σ (a + 1) ≠ nI 120 := by rw [h2]; decide
  unfold tbr at h3 ⊢
  by_cases g : 4 ≤ nb
  · rw [if_pos g]; exact PP_k h h1 hx (fun q => absurd q.2 (by omega))
  rw [if_neg g] at h3 ⊢
  have hb : bA σ (a + 1) = nI 98 ∧ nb < 4 := ⟨h2, by omega⟩
  by_cases g0 : dg σ (a + 1 + 1) ≤ 7
  · rw [if_neg (fun q => q g0)] at h3 ⊢
    by_cases g1 : dg σ (a + 1 + 2) ≤ 7 ∧ dg σ (a + 1 + 2) ≠ dg σ (a + 1 + 1)
    · rw [if_neg (fun q => q g1)] at h3 ⊢
      by_cases g2 : 1 ≤ dg σ (a + 1 + 3) ∧ dg σ (a + 1 + 3) ≤ 8
      · rw [if_neg (fun q => q g2)] at h3 ⊢
        by_cases g3 : dg σ (a + 1 + 4) < dg σ (a + 1 + 3)
        · rw [if_neg (fun q => q g3)] at h3
          exact absurd rfl h3
        · rw [if_pos g3]; exact PP_b3 h h1 hx hb g0 g1 g2 g3
      · rw [if_pos g2]; exact PP_b2 h h1 hx hb g0 g1 g2
    · rw [if_pos g1]; exact PP_b1 h h1 hx hb g0 g1
  · rw [if_pos g0]; exact PP_b0 h h1 hx hb g0
theorem tbr_y (h3 : tbr σ (a + 1) nb = -1) (ha : a < 1000) : nb < 4 ∧ dg σ (a + 2) ≤ 7 ∧ (dg σ (a + 3) ≤ 7 ∧ dg σ (a + 3) ≠ dg σ (a + 2)) ∧ (1 ≤ dg σ (a + 4) ∧ dg σ (a + 4) ≤ 8) ∧ dg σ (a + 5) < dg σ (a + 4) := by
  unfold tbr at h3
  by_cases g : 4 ≤ nb
  · rw [if_pos g] at h3; exact absurd h3 (nIneg (by omega))
  rw [if_neg g] at h3
  by_cases g0 : dg σ (a + 1 + 1) ≤ 7
  · rw [if_neg (fun q => q g0)] at h3
    by_cases g1 : dg σ (a + 1 + 2) ≤ 7 ∧ dg σ (a + 1 + 2) ≠ dg σ (a + 1 + 1)
    · rw [if_neg (fun q => q g1)] at h3
      by_cases g2 : 1 ≤ dg σ (a + 1 + 3) ∧ dg σ (a + 1 + 3) ≤ 8
      · rw [if_neg (fun q => q g2)] at h3
        by_cases g3 : dg σ (a + 1 + 4) < dg σ (a + 1 + 3)
        · exact ⟨by omega, g0, g1, g2, g3⟩
        · rw [if_pos g3] at h3; exact absurd h3 (nIneg (by omega))
      · rw [if_pos g2] at h3; exact absurd h3 (nIneg (by omega))
    · rw [if_pos g1] at h3; exact absurd h3 (nIneg (by omega))
  · rw [if_pos g0] at h3; exact absurd h3 (nIneg (by omega))
end
theorem w_cSNf {M : Mth} {j pc nx i : Nat} {ls : List (Option Value)} {ρ ρ1 : Rho} {Q : Option Value → Rho → Prop} {as rest stk : List Value} {v : Value} (hO : mO M = "TurningVillage$Land") (hd : D0 M pc (.invokestatic 81) 3 nx) (hi : i < j) (hC : CallOK i mX7_within as ρ (fun r ρ2 => r = some v ∧ ρ2 = ρ1)) (hn : as.length = 2) (hs : stk = as.reverse ++ rest) (hw : (rest.map fun v => v.category).sum ≤ 8) (k : MW M j nx ls (v :: rest) ρ1 Q) : MW M j pc ls stk ρ Q :=
  w_cSN (M2 := mX7_within) (n := 2) hO rfl hd nl_within.1 nl_within.2.1 nl_within.2.2 (by decide +kernel) (by decide) ⟨by decide +kernel, by decide +kernel⟩ hi hC hn hs hw (fun r ρ2 h => by obtain ⟨rfl, rfl⟩ := h; exact k)
