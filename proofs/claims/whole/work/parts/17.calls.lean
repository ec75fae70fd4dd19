def nv (x : Int32) : Nat := x.toNatClampNeg
theorem nv_nI {a : Nat} (h : a < 2 ^ 31) : nv (nI a) = a := nI_clamp h
theorem inR_nI2 {v : Int32} {lo hi : Nat} (h : inR v (nI lo) (nI hi)) (hl : lo < 2 ^ 31) (hh : hi < 2 ^ 31) : ∃ a, lo ≤ a ∧ a ≤ hi ∧ v = nI a := by
  obtain ⟨a, ha, rfl⟩ := inR_nI (v := v) (m := hi) ⟨by
    have h1 := h.1
    rw [Int32.le_iff_toInt_le, nI_toInt hl] at h1
    rw [Int32.le_iff_toInt_le, nI_toInt (by decide)]
    omega, h.2⟩ hh
  exact ⟨a, (nI_leI hl (by omega)).mp h.1, ha, rfl⟩
theorem nI_ne {a b : Nat} (ha : a < 2 ^ 31) (hb : b < 2 ^ 31) (h : a ≠ b) : nI a ≠ nI b := fun e => h ((nI_eq ha hb).mp e)
/-! what depends on what -/
theorem bA_congr {σ τ : Sg} (h1 : τ.1 47 0 = σ.1 47 0) (h2 : τ.1 48 = σ.1 48) (k : Nat) : bA τ k = bA σ k := by unfold bA; rw [h1, h2]
theorem dg_congr {σ τ : Sg} (h1 : τ.1 47 0 = σ.1 47 0) (h2 : τ.1 48 = σ.1 48) (k : Nat) : dg τ k = dg σ k := by unfold dg; rw [h1, h2]
theorem PP_congr {σ τ : Sg} (h1 : τ.1 47 0 = σ.1 47 0) (h2 : τ.1 48 = σ.1 48) : ∀ (n a : Nat) (cl : Nat → Nat) (nb : Nat) (br : Nat → Nat), PP τ n a cl nb br = PP σ n a cl nb br
  | 0, _, _, _, _ => rfl
  | n + 1, a, cl, nb, br => by
    unfold PP
    simp only [bA_congr h1 h2, dg_congr h1 h2, PP_congr h1 h2 n, h1, h2]
theorem fsg_congr {σ τ : Sg} (h1 : τ.1 47 0 = σ.1 47 0) (h2 : τ.1 48 = σ.1 48) : ∀ (n a : Nat), fsg τ n a = fsg σ n a
  | 0, _ => rfl
  | n + 1, a => by
    unfold fsg
    simp only [bA_congr h1 h2, fsg_congr h1 h2 n]
theorem LPr_congr {σ τ : Sg} (h1 : τ.1 47 0 = σ.1 47 0) (h2 : τ.1 48 = σ.1 48) : LPr τ = LPr σ := by
  unfold LPr
  rw [fsg_congr h1 h2, PP_congr h1 h2]
theorem Flt_congr {σ τ : Sg} (h1 : τ.1 47 0 = σ.1 47 0) (h2 : τ.1 48 = σ.1 48) : Flt τ = Flt σ := by unfold Flt; rw [LPr_congr h1 h2]
theorem Th_congr {σ τ : Sg} (h1 : τ.1 47 0 = σ.1 47 0) (h2 : τ.1 48 = σ.1 48) (p : Nat) : Th τ p = Th σ p := by unfold Th; rw [Flt_congr h1 h2, bA_congr h1 h2]
theorem Cl_congr {σ τ : Sg} (h1 : τ.1 47 0 = σ.1 47 0) (h2 : τ.1 48 = σ.1 48) (p : Nat) : Cl τ p = Cl σ p := by unfold Cl; rw [Flt_congr h1 h2, LPr_congr h1 h2]
theorem NB_congr {σ τ : Sg} (h1 : τ.1 47 0 = σ.1 47 0) (h2 : τ.1 48 = σ.1 48) : NB τ = NB σ := by unfold NB; rw [Flt_congr h1 h2, LPr_congr h1 h2]
theorem Br_congr {σ τ : Sg} (h1 : τ.1 47 0 = σ.1 47 0) (h2 : τ.1 48 = σ.1 48) : Br τ = Br σ := by funext i; unfold Br; rw [LPr_congr h1 h2]
theorem Tn_congr {σ τ : Sg} (h7 : τ.1 47 7 = σ.1 47 7) (h53 : τ.1 53 = σ.1 53) (h54 : τ.1 54 = σ.1 54) (h55 : τ.1 55 = σ.1 55) (h57 : τ.1 57 = σ.1 57) (h56 : τ.2 56 = σ.2 56) (d : Nat) : Tn τ d = Tn σ d := by
  unfold Tn sumT
  have : (fun k => if cntG τ k ∧ τ.1 53 k ≤ d then incG τ k else 0) = (fun k => if cntG σ k ∧ σ.1 53 k ≤ d then incG σ k else 0) := by
    funext k
    unfold incG
    simp only [cntG, h53, h54, h55, h57, h56]
  rw [this, h7, h57]
/-- the land's cells, the turns' cell are as they were -/
theorem CLd.same {σ τ : Sg} {ρ ρ2 : Rho} (h : CLd σ ρ) (h1 : τ.1 47 0 = σ.1 47 0) (h2 : τ.1 48 = σ.1 48) (hρ : ∀ k ∈ [3, 4, 6, 7, 8, 9], ρ2.1 k = ρ.1 k) (h6 : ρ2.1 1 6 = ρ.1 1 6) (hf : ρ2.1 1 2 = ρ.1 1 2) : CLd τ ρ2 := by
  unfold CLd
  rw [hρ 3 (by decide), hρ 4 (by decide), hρ 6 (by decide), hρ 7 (by decide), hρ 8 (by decide), hρ 9 (by decide), h6, hf, NB_congr h1 h2, Br_congr h1 h2, Flt_congr h1 h2]
  simp only [Th_congr h1 h2, Cl_congr h1 h2]
  exact h
theorem CLd.fr {σ : Sg} {S : List Nat} {ρ ρ2 : Rho} (h : CLd σ ρ) (f : Fr S ρ ρ2) (hS : ∀ k ∈ [1, 3, 4, 6, 7, 8, 9], k ∉ S) : CLd σ ρ2 :=
  h.same rfl rfl (fun k hk => (f k (hS k (by revert hk; simp only [List.mem_cons, List.not_mem_nil, or_false]; omega))).1) (by rw [(f 1 (hS 1 (by decide))).1]) (by rw [(f 1 (hS 1 (by decide))).1])
theorem CTn.fr {σ : Sg} {S : List Nat} {ρ ρ2 : Rho} (h : CTn σ ρ) (f : Fr S ρ ρ2) (hS : 15 ∉ S) : CTn σ ρ2 := fun d hd => by rw [(f 15 hS).1]; exact h d hd
theorem CP.fr {σ : Sg} {S : List Nat} {ρ ρ2 : Rho} (h : CP σ ρ) (f : Fr S ρ ρ2) (hS : ∀ k ∈ [0, 1, 2, 5, 10, 11, 12, 13, 14, 27, 28, 33, 35, 37, 39, 40, 41, 42, 43, 44, 45, 46], k ∉ S) : CP σ ρ2 := by
  have ne : ∀ a, a ∈ [0, 1, 2, 5, 10, 11, 12, 13, 14, 27, 28, 33, 35, 37, 39, 40, 41, 42, 43, 44, 45, 46] → ρ2.1 a = ρ.1 a := fun a ha => (f a (hS a ha)).1
  refine ⟨h.1, fun q hq i => ?_, fun q hq i => ?_, fun q hq => ?_, fun t ht => ?_, ?_⟩
  · rw [ne q.1 (by rcases mN_in hq with e | e | e | e | e | e | e <;> cases e <;> decide)]; exact h.2.1 q hq i
  · rw [ne q.1 (by rcases mZ_in hq with e | e <;> cases e <;> decide)]; exact h.2.2.1 q hq i
  · rw [ne q.1 (by rcases mS_in hq with e | e | e | e | e | e | e <;> cases e <;> decide)]; exact h.2.2.2.1 q hq
  · obtain ⟨h1, h2, h3, h4⟩ := h.2.2.2.2.1 t ht
    have e1 : ρ2.1 (39 + t) = ρ.1 (39 + t) := ne _ (by match t, ht with | 0, _ => decide | 1, _ => decide | 2, _ => decide | 3, _ => decide)
    have e2 : ρ2.1 (43 + t) = ρ.1 (43 + t) := ne _ (by match t, ht with | 0, _ => decide | 1, _ => decide | 2, _ => decide | 3, _ => decide)
    rw [e1, e2]
    exact ⟨h1, h2, h3, h4⟩
  · exact ⟨by rw [ne 35 (by decide)]; exact h.2.2.2.2.2.1, by rw [(f 37 (hS 37 (by decide))).2]; exact h.2.2.2.2.2.2⟩
/-- scratch rows alone have changed -/
theorem CInv.fr {σ : Sg} {S : List Nat} {ρ ρ2 : Rho} (h : CInv σ ρ) (f : Fr S ρ ρ2) (hS : ∀ k ∈ [0, 1, 2, 3, 4, 5, 6, 7, 8, 9, 10, 11, 12, 13, 14, 15, 27, 28, 33, 35, 37, 39, 40, 41, 42, 43, 44, 45, 46], k ∉ S) : CInv σ ρ2 :=
  ⟨h.1.fr f (fun k hk => hS k (by revert hk; simp only [List.mem_cons, List.not_mem_nil, or_false]; omega)), h.2.1.fr f (fun k hk => hS k (by revert hk; simp only [List.mem_cons, List.not_mem_nil, or_false]; omega)), h.2.2.fr f (hS 15 (by decide))⟩
theorem MInv.fr {σ : Sg} {S : List Nat} {ρ ρ2 : Rho} (h : MInv σ ρ) (f : Fr S ρ ρ2) (hS : ∀ k ∈ [47, 48, 52, 53, 54, 55, 56, 57, 62, 63, 66, 68, 69, 70, 71], k ∉ S) : MInv σ ρ2 := by
  refine ⟨h.1, fun a ha b => ?_, fun a ha b => ?_, fun b hb => ?_⟩
  · rw [(f a (hS a (by revert ha; simp only [mNs, List.mem_cons, List.not_mem_nil, or_false]; omega))).1]; exact h.2.1 a ha b
  · rw [(f a (hS a (by revert ha; simp only [mZs, List.mem_cons, List.not_mem_nil, or_false]; omega))).1]; exact h.2.2.1 a ha b
  · rw [(f 47 (hS 47 (by decide))).1]; exact h.2.2.2 b hb
/-! THE CALLS: what they answer, what the state is behind them -/
def r_type (σ : Sg) (b : Int32) : Int32 := if inR b (nI 0) (nI 255) then (if σ.1 47 0 = 60 then -4 else nI (σ.1 47 0 + 1)) else -2
def n_type (σ : Sg) (b : Int32) : Sg := if inR b (nI 0) (nI 255) then (if σ.1 47 0 = 60 then σ else sN (sN σ 48 (σ.1 47 0) (nv b)) 47 0 (σ.1 47 0 + 1)) else σ
def n_wipe (σ : Sg) : Sg := sN σ 47 0 0
abbrev g_place (p w : Int32) : Prop := inR p (nI 0) (nI 7) ∧ inR w (nI 0) (nI 2)
def v_place (σ : Sg) (p w : Nat) : Nat := if w = 0 then Th σ p else if w = 1 then 1 - Cl σ p else σ.1 52 p
def r_place (σ : Sg) (p w : Int32) : Int32 := if g_place p w then nI (v_place σ (nv p) (nv w)) else -2
abbrev ovK (σ : Sg) (a b t k : Nat) : Prop := ((Br σ (4 * k) = a ∧ Br σ (4 * k + 1) = b) ∨ (Br σ (4 * k) = b ∧ Br σ (4 * k + 1) = a)) ∧ t % Br σ (4 * k + 2) = Br σ (4 * k + 3)
def ovN (σ : Sg) (a b t : Nat) : Nat → Bool
  | 0 => false
  | n + 1 => ovN σ a b t n || decide (ovK σ a b t n)
abbrev Ovr (σ : Sg) (a b t : Nat) : Prop := ovN σ a b t (NB σ) = true
theorem ovN_t {σ : Sg} {a b t k : Nat} (h : ovK σ a b t k) : ∀ n, k < n → ovN σ a b t n = true
  | 0, h => absurd h (Nat.not_lt_zero _)
  | n + 1, hn => by
    unfold ovN
    by_cases e : k = n
    · subst e; simp [h]
    · rw [ovN_t h n (by omega)]; rfl
theorem ovN_f {σ : Sg} {a b t : Nat} : ∀ n, (∀ k, k < n → ¬ ovK σ a b t k) → ovN σ a b t n = false
  | 0, _ => rfl
  | n + 1, h => by
    unfold ovN
    rw [ovN_f n (fun k hk => h k (by omega)), decide_eq_false (h n (by omega))]; rfl
abbrev g_bridge (a b d : Int32) : Prop := inR a (nI 0) (nI 7) ∧ inR b (nI 0) (nI 7) ∧ a ≠ b ∧ inR d (nI 0) (nI 99)
def r_bridge (σ : Sg) (a b d : Int32) : Int32 := if g_bridge a b d then b2i (Ovr σ (nv a) (nv b) (Tn σ (nv d))) else -2
abbrev g_gale (σ : Sg) (d f t : Int32) : Prop := inR d (nI 0) (nI 99) ∧ inR f (nI 0) (nI 1) ∧ inR t (nI (σ.1 47 12)) (nI 999)
def r_gale (σ : Sg) (d f t : Int32) : Int32 := if g_gale σ d f t then (if σ.1 47 7 = 60 then -4 else nI (σ.1 47 7)) else -2
def addG (σ : Sg) (d f t : Nat) : Sg := sN (sN (sZ (sN (sN (sN σ 53 (σ.1 47 7) d) 54 (σ.1 47 7) f) 55 (σ.1 47 7) t) 56 (σ.1 47 7) (-1)) 47 12 t) 47 7 (σ.1 47 7 + 1)
def n_gale (σ : Sg) (d f t : Int32) : Sg := if g_gale σ d f t then (if σ.1 47 7 = 60 then σ else addG σ (nv d) (nv f) (nv t)) else σ
abbrev g_back (σ : Sg) (g t : Int32) : Prop := inR g (nI 0) (nI (σ.1 47 7) - nI 1) ∧ inR t (nI (σ.1 47 12)) (nI 999)
def r_back (σ : Sg) (g t : Int32) : Int32 := if g_back σ g t then (if σ.2 56 (nv g) = -1 then nI 1 else -3) else -2
def n_back (σ : Sg) (g t : Int32) : Sg := if g_back σ g t then (if σ.2 56 (nv g) = -1 then sN (sZ σ 56 (nv g) t) 47 12 (nv t) else σ) else σ
abbrev g_set (w v : Int32) : Prop := inR w (nI 0) (nI 2) ∧ inR v (nI 0) (if w = nI 0 then nI 999 else nI 7)
def r_set (σ : Sg) (w v : Int32) : Int32 := if g_set w v then nI (σ.1 57 (nv w)) else -5
def n_set (σ : Sg) (w v : Int32) : Sg := if g_set w v then sN σ 57 (nv w) (nv v) else σ
abbrev g_sun (p v : Int32) : Prop := inR p (nI 0) (nI 7) ∧ inR v (nI 0) (nI 9)
def r_sun (σ : Sg) (p v : Int32) : Int32 := if g_sun p v then nI (σ.1 52 (nv p)) else -2
def n_sun (σ : Sg) (p v : Int32) : Sg := if g_sun p v then sN σ 52 (nv p) (nv v) else σ
def r_turn (σ : Sg) (d : Int32) : Int32 := if inR d (nI 0) (nI 99) then nI (Tn σ (nv d)) else -2
abbrev g_door (r d w : Int32) : Prop := inR r (nI 0) (nI 7) ∧ inR d (nI 0) (nI 99) ∧ inR w (nI 0) (nI 2)
/-- the PLACE at the DOOR of a ROW at a TURN -/
def dr (σ : Sg) (r d : Nat) : Nat := (r + Tn σ d) % 8
theorem dr_lt (σ : Sg) (r d : Nat) : dr σ r d < 8 := Nat.mod_lt _ (by decide)
def v_door (σ : Sg) (r d w : Nat) : Nat := if w = 0 then dr σ r d else if w = 1 then Th σ (dr σ r d) else σ.1 52 (dr σ r d)
def r_door (σ : Sg) (r d w : Int32) : Int32 := if g_door r d w then nI (v_door σ (nv r) (nv d) (nv w)) else -2
theorem Only.fr {k : Nat} {a b : Rho} (o : Only k a b) : Fr [k] a b := fun q hq => o q (fun e => hq (e ▸ List.mem_cons_self))
theorem EqM.only {k : Nat} {a b c : Rho} (h : EqM a b) (o : Only k b c) (hk : k < 47) : EqM a c := fun q hq => ⟨(o q (by omega)).1.trans (h q hq).1, (o q (by omega)).2.trans (h q hq).2⟩
theorem EqC.only {k : Nat} {a b c : Rho} (h : EqC a b) (o : Only k b c) (hk : 47 ≤ k) : EqC a c := fun q hq => ⟨(o q (by omega)).1.trans (h q hq).1, (o q (by omega)).2.trans (h q hq).2⟩
theorem CLd.only {σ : Sg} {k : Nat} {a b : Rho} (h : CLd σ a) (o : Only k a b) (hk : k ∉ [1, 3, 4, 6, 7, 8, 9]) : CLd σ b := h.fr o.fr (fun q hq e => hk (List.mem_singleton.mp e ▸ hq))
theorem CTn.only {σ : Sg} {k : Nat} {a b : Rho} (h : CTn σ a) (o : Only k a b) (hk : k ≠ 15) : CTn σ b := h.fr o.fr (fun e => hk (List.mem_singleton.mp e).symm)
theorem b2i_eq {c d : Prop} [Decidable c] [Decidable d] (h : c ↔ d) : b2i c = b2i d := by
  unfold b2i
  by_cases g : c
  · rw [if_pos g, if_pos (h.mp g)]
  · rw [if_neg g, if_neg (fun e => g (h.mpr e))]
/-- the text stays, the gales stay -/
theorem CLd.sN {σ : Sg} {ρ : Rho} {k i v : Nat} (h : CLd σ ρ) (hk : k ≠ 48 ∧ (k ≠ 47 ∨ i ≠ 0)) : CLd (sN σ k i v) ρ := h.same (sN_ne (fun e => by omega)) (by funext b; exact sN_ne (fun e => hk.1 e.1.symm)) (fun _ _ => rfl) rfl rfl
theorem CTn.sN {σ : Sg} {ρ : Rho} {k i v : Nat} (h : CTn σ ρ) (hk : k ≠ 53 ∧ k ≠ 54 ∧ k ≠ 55 ∧ k ≠ 57 ∧ (k ≠ 47 ∨ i ≠ 7)) : CTn (sN σ k i v) ρ := fun d hd => by
  rw [Tn_congr (τ := Jvm.Pilot.@@N@@.sN σ k i v) (σ := σ) (sN_ne (fun e => by omega)) (by funext b; exact sN_ne (fun e => by omega)) (by funext b; exact sN_ne (fun e => by omega)) (by funext b; exact sN_ne (fun e => by omega)) (by funext b; exact sN_ne (fun e => by omega)) rfl]
  exact h d hd
theorem CLd.sZ {σ : Sg} {ρ : Rho} {k i : Nat} {v : Int32} (h : CLd σ ρ) : CLd (sZ σ k i v) ρ := h.same rfl rfl (fun _ _ => rfl) rfl rfl
theorem CTn.sZ {σ : Sg} {ρ : Rho} {k i : Nat} {v : Int32} (h : CTn σ ρ) (hk : k ≠ 56) : CTn (sZ σ k i v) ρ := fun d hd => by
  rw [Tn_congr (τ := Jvm.Pilot.@@N@@.sZ σ k i v) (σ := σ) rfl rfl rfl rfl rfl (by funext b; exact sZ_ne (fun e => hk e.1.symm))]
  exact h d hd
