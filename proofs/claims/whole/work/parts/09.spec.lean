/-! THE SPECIFICATION: the state that both sides hold, and what is read off it -/
abbrev Sg : Type := (Nat → Nat → Nat) × (Nat → Nat → Int32)
def sN (σ : Sg) (k i v : Nat) : Sg := (fun a b => if a = k ∧ b = i then v else σ.1 a b, σ.2)
def sZ (σ : Sg) (k i : Nat) (v : Int32) : Sg := (σ.1, fun a b => if a = k ∧ b = i then v else σ.2 a b)
def Wf (σ : Sg) : Prop := σ.1 47 0 ≤ 60 ∧ σ.1 47 7 ≤ 60 ∧ σ.1 47 12 ≤ 999 ∧ σ.1 47 29 ≤ 5 ∧ (∀ i, σ.1 48 i < 256) ∧ (∀ i, σ.1 52 i ≤ 9) ∧ (∀ i, σ.1 53 i < 100) ∧ (∀ i, σ.1 54 i ≤ 1) ∧ (∀ i, σ.1 55 i ≤ 999) ∧ σ.1 57 0 ≤ 999 ∧ σ.1 57 1 ≤ 7 ∧ σ.1 57 2 ≤ 7 ∧ (∀ i, σ.1 62 i ≤ 9) ∧ (∀ i, σ.1 63 i ≤ 7) ∧ (∀ i, σ.1 68 i ≤ 1) ∧ (∀ i, σ.1 69 i ≤ 2) ∧ (∀ i, σ.1 70 i ≤ 60) ∧ (∀ i, σ.2 66 i = -1 ∨ ∃ a, a ≤ 12 ∧ σ.2 66 i = nI a) ∧ (∀ i, σ.2 56 i = -1 ∨ ∃ a, a ≤ 999 ∧ σ.2 56 i = nI a)
theorem Wf.typed {σ : Sg} (h : Wf σ) : σ.1 47 0 ≤ 60 := h.1
theorem Wf.gales {σ : Sg} (h : Wf σ) : σ.1 47 7 ≤ 60 := h.2.1
theorem Wf.last {σ : Sg} (h : Wf σ) : σ.1 47 12 ≤ 999 := h.2.2.1
theorem Wf.find {σ : Sg} (h : Wf σ) : σ.1 47 29 ≤ 5 := h.2.2.2.1
theorem Wf.text {σ : Sg} (h : Wf σ) (i : Nat) : σ.1 48 i < 256 := h.2.2.2.2.1 i
theorem Wf.suns {σ : Sg} (h : Wf σ) (i : Nat) : σ.1 52 i ≤ 9 := h.2.2.2.2.2.1 i
theorem Wf.day {σ : Sg} (h : Wf σ) (i : Nat) : σ.1 53 i < 100 := h.2.2.2.2.2.2.1 i
theorem Wf.frm {σ : Sg} (h : Wf σ) (i : Nat) : σ.1 54 i ≤ 1 := h.2.2.2.2.2.2.2.1 i
theorem Wf.told {σ : Sg} (h : Wf σ) (i : Nat) : σ.1 55 i ≤ 999 := h.2.2.2.2.2.2.2.2.1 i
theorem Wf.asof {σ : Sg} (h : Wf σ) : σ.1 57 0 ≤ 999 := h.2.2.2.2.2.2.2.2.2.1
theorem Wf.wing {σ : Sg} (h : Wf σ) : σ.1 57 1 ≤ 7 := h.2.2.2.2.2.2.2.2.2.2.1
theorem Wf.begin {σ : Sg} (h : Wf σ) : σ.1 57 2 ≤ 7 := h.2.2.2.2.2.2.2.2.2.2.2.1
theorem Wf.wish {σ : Sg} (h : Wf σ) (i : Nat) : σ.1 62 i ≤ 9 := h.2.2.2.2.2.2.2.2.2.2.2.2.1 i
theorem Wf.lives {σ : Sg} (h : Wf σ) (i : Nat) : σ.1 63 i ≤ 7 := h.2.2.2.2.2.2.2.2.2.2.2.2.2.1 i
theorem Wf.there {σ : Sg} (h : Wf σ) (i : Nat) : σ.1 68 i ≤ 1 := h.2.2.2.2.2.2.2.2.2.2.2.2.2.2.1 i
theorem Wf.form {σ : Sg} (h : Wf σ) (i : Nat) : σ.1 69 i ≤ 2 := h.2.2.2.2.2.2.2.2.2.2.2.2.2.2.2.1 i
theorem Wf.size {σ : Sg} (h : Wf σ) (i : Nat) : σ.1 70 i ≤ 60 := h.2.2.2.2.2.2.2.2.2.2.2.2.2.2.2.2.1 i
theorem Wf.reap {σ : Sg} (h : Wf σ) (i : Nat) : σ.2 66 i = -1 ∨ ∃ a, a ≤ 12 ∧ σ.2 66 i = nI a := h.2.2.2.2.2.2.2.2.2.2.2.2.2.2.2.2.2.1 i
theorem Wf.back {σ : Sg} (h : Wf σ) (i : Nat) : σ.2 56 i = -1 ∨ ∃ a, a ≤ 999 ∧ σ.2 56 i = nI a := h.2.2.2.2.2.2.2.2.2.2.2.2.2.2.2.2.2.2 i
def mNs : List Nat := [48, 52, 53, 54, 55, 57, 62, 63, 68, 69, 70]
def mZs : List Nat := [56, 66, 71]
def mSs : List Nat := [0, 7, 12, 29]
/-- the reference's own cells hold the state -/
def MInv (σ : Sg) (ρ : Rho) : Prop := Wf σ ∧ (∀ k ∈ mNs, ∀ i, ρ.1 k i = nI (σ.1 k i)) ∧ (∀ k ∈ mZs, ∀ i, ρ.1 k i = σ.2 k i) ∧ ∀ i ∈ mSs, ρ.1 47 i = nI (σ.1 47 i)
def EqC (ρ ρ2 : Rho) : Prop := ∀ k, k < 47 → ρ2.1 k = ρ.1 k ∧ ρ2.2 k = ρ.2 k
def EqM (ρ ρ2 : Rho) : Prop := ∀ k, 47 ≤ k → ρ2.1 k = ρ.1 k ∧ ρ2.2 k = ρ.2 k
theorem EqC.rf {ρ : Rho} : EqC ρ ρ := fun _ _ => ⟨rfl, rfl⟩
theorem EqM.rf {ρ : Rho} : EqM ρ ρ := fun _ _ => ⟨rfl, rfl⟩
theorem EqC.tr {a b c : Rho} (h : EqC a b) (g : EqC b c) : EqC a c := fun k hk => ⟨(g k hk).1.trans (h k hk).1, (g k hk).2.trans (h k hk).2⟩
theorem EqM.tr {a b c : Rho} (h : EqM a b) (g : EqM b c) : EqM a c := fun k hk => ⟨(g k hk).1.trans (h k hk).1, (g k hk).2.trans (h k hk).2⟩
theorem EqC.w {a b : Rho} (h : EqC a b) {k i : Nat} {v : Int32} (hk : 47 ≤ k) : EqC a (wI b k i v) := fun q hq => ⟨(wI_ne (by omega)).trans (h q hq).1, (h q hq).2⟩
theorem EqM.w {a b : Rho} (h : EqM a b) {k i : Nat} {v : Int32} (hk : k < 47) : EqM a (wI b k i v) := fun q hq => ⟨(wI_ne (by omega)).trans (h q hq).1, (h q hq).2⟩
theorem EqC.wl {a b : Rho} (h : EqC a b) {k i : Nat} {v : Int64} (hk : 47 ≤ k) : EqC a (wL b k i v) := fun q hq => ⟨(h q hq).1, (wL_ne (by omega)).trans (h q hq).2⟩
theorem EqM.wl {a b : Rho} (h : EqM a b) {k i : Nat} {v : Int64} (hk : k < 47) : EqM a (wL b k i v) := fun q hq => ⟨(h q hq).1, (wL_ne (by omega)).trans (h q hq).2⟩
/-- a cell that the reference's state is not in is written -/
theorem MInv.w {σ : Sg} {ρ : Rho} (h : MInv σ ρ) {k i : Nat} {v : Int32} (hk : k ∉ mNs ∧ k ∉ mZs ∧ (k = 47 → i ∉ mSs)) : MInv σ (wI ρ k i v) := by
  refine ⟨h.1, fun a ha b => ?_, fun a ha b => ?_, fun b hb => ?_⟩
  · rw [wI_ne (a := a) (k := k) (fun e => hk.1 (e ▸ ha))]; exact h.2.1 a ha b
  · rw [wI_ne (a := a) (k := k) (fun e => hk.2.1 (e ▸ ha))]; exact h.2.2.1 a ha b
  · rw [rI_ne (a := 47) (b := b) (k := k) (i := i) (fun e => hk.2.2 e.1.symm (e.2 ▸ hb))]; exact h.2.2.2 b hb
theorem MInv.wl {σ : Sg} {ρ : Rho} (h : MInv σ ρ) {k i : Nat} {v : Int64} : MInv σ (wL ρ k i v) := h
/-! gales and turns -/
def sumN (f : Nat → Nat) : Nat → Nat
  | 0 => 0
  | n + 1 => sumN f n + f n
theorem sumN_congr {f g : Nat → Nat} : ∀ (n : Nat), (∀ i, i < n → f i = g i) → sumN f n = sumN g n
  | 0, _ => rfl
  | n + 1, h => by rw [sumN, sumN, sumN_congr n (fun i hi => h i (by omega)), h n (by omega)]
theorem sumN_add {f g : Nat → Nat} : ∀ (n : Nat), sumN (fun i => f i + g i) n = sumN f n + sumN g n
  | 0 => rfl
  | n + 1 => by simp only [sumN]; rw [sumN_add n]; omega
theorem sumN_0 : ∀ (n : Nat), sumN (fun _ => 0) n = 0
  | 0 => rfl
  | n + 1 => by simp only [sumN]; rw [sumN_0 n]
theorem sumN_le {f : Nat → Nat} {c : Nat} : ∀ (n : Nat), (∀ i, i < n → f i ≤ c) → sumN f n ≤ n * c
  | 0, _ => by simp [sumN]
  | n + 1, h => by
    have h1 := sumN_le n (fun i hi => h i (by omega))
    have h2 := h n (by omega)
    simp only [sumN, Nat.succ_mul]
    omega
def incG (σ : Sg) (k : Nat) : Nat := if σ.1 54 k = 0 then 1 else σ.1 57 1
abbrev cntG (σ : Sg) (k : Nat) : Prop := σ.1 55 k ≤ σ.1 57 0 ∧ (σ.2 56 k = -1 ∨ nI (σ.1 57 0) < σ.2 56 k)
def sumT (σ : Sg) (d n : Nat) : Nat := sumN (fun k => if cntG σ k ∧ σ.1 53 k ≤ d then incG σ k else 0) n
/-- the TURN of a DAY -/
def Tn (σ : Sg) (d : Nat) : Nat := (σ.1 57 2 + sumT σ d (σ.1 47 7)) % 8
theorem Tn_lt (σ : Sg) (d : Nat) : Tn σ d < 8 := Nat.mod_lt _ (by decide)
/-! the land -/
def bA (σ : Sg) (k : Nat) : Int32 := if k < σ.1 47 0 then nI (σ.1 48 k) else -1
def tOf (b : Int32) : Int32 := if b = nI 46 then nI 0 else if b = nI 109 then nI 1 else if b = nI 119 then nI 2 else if b = nI 115 then nI 3 else if b = nI 102 then nI 4 else -1
def dg (σ : Sg) (k : Nat) : Nat := if k < σ.1 47 0 ∧ 48 ≤ σ.1 48 k then σ.1 48 k - 48 else 99
def br4 (br : Nat → Nat) (nb a b c d : Nat) : Nat → Nat := va_up (va_up (va_up (va_up br (4 * nb) a) (4 * nb + 1) b) (4 * nb + 2) c) (4 * nb + 3) d
def PP (σ : Sg) : Nat → Nat → (Nat → Nat) → Nat → (Nat → Nat) → Int32 × (Nat → Nat) × Nat × (Nat → Nat)
  | 0, _, cl, nb, br => (-1, cl, nb, br)
  | n + 1, a, cl, nb, br =>
    if a < σ.1 47 0 then
      if σ.1 48 a = 59 then
        if bA σ (a + 1) = nI 120 then
          if dg σ (a + 2) ≤ 7 then PP σ n (a + 3) (va_up cl (dg σ (a + 2)) 1) nb br else (nI (a + 2), cl, nb, br)
        else if bA σ (a + 1) = nI 98 ∧ nb < 4 then
          if dg σ (a + 2) ≤ 7 then
            if dg σ (a + 3) ≤ 7 ∧ dg σ (a + 3) ≠ dg σ (a + 2) then
              if 1 ≤ dg σ (a + 4) ∧ dg σ (a + 4) ≤ 8 then
                if dg σ (a + 5) < dg σ (a + 4) then PP σ n (a + 6) cl (nb + 1) (br4 br nb (dg σ (a + 2)) (dg σ (a + 3)) (dg σ (a + 4)) (dg σ (a + 5)))
                else (nI (a + 5), cl, nb, br)
              else (nI (a + 4), cl, nb, br)
            else (nI (a + 3), cl, nb, br)
          else (nI (a + 2), cl, nb, br)
        else (nI (a + 1), cl, nb, br)
      else (nI a, cl, nb, br)
    else (-1, cl, nb, br)
def fsg (σ : Sg) : Nat → Nat → Option Nat
  | 0, _ => none
  | n + 1, a => if tOf (bA σ a) = -1 then some a else fsg σ n (a + 1)
def LPr (σ : Sg) : Int32 × (Nat → Nat) × Nat × (Nat → Nat) := match fsg σ 8 0 with
  | some p => (nI p, (fun _ => 0), 0, (fun _ => 0))
  | none => PP σ 60 8 (fun _ => 0) 0 (fun _ => 0)
/-- the FAULT, and what the land says -/
def Flt (σ : Sg) : Int32 := (LPr σ).1
def Th (σ : Sg) (p : Nat) : Nat := if Flt σ = -1 then (tOf (bA σ p)).toNatClampNeg else 0
def Cl (σ : Sg) (p : Nat) : Nat := if Flt σ = -1 then (LPr σ).2.1 p else 0
def NB (σ : Sg) : Nat := if Flt σ = -1 then (LPr σ).2.2.1 else 0
def Br (σ : Sg) (i : Nat) : Nat := (LPr σ).2.2.2 i
theorem tOf_in (b : Int32) : tOf b = -1 ∨ ∃ t, t ≤ 4 ∧ tOf b = nI t := by
  unfold tOf
  repeat' split
  · exact Or.inr ⟨0, by decide, rfl⟩
  · exact Or.inr ⟨1, by decide, rfl⟩
  · exact Or.inr ⟨2, by decide, rfl⟩
  · exact Or.inr ⟨3, by decide, rfl⟩
  · exact Or.inr ⟨4, by decide, rfl⟩
  · exact Or.inl rfl
theorem Th_le (σ : Sg) (p : Nat) : Th σ p ≤ 4 := by
  unfold Th
  split
  · rcases tOf_in (bA σ p) with h | ⟨t, ht, h⟩
    · rw [h]; decide
    · rw [h, nI_clamp (by omega)]; exact ht
  · omega
def brOK (nb : Nat) (br : Nat → Nat) : Prop := nb ≤ 4 ∧ ∀ k, k < nb → br (4 * k) ≤ 7 ∧ br (4 * k + 1) ≤ 7 ∧ br (4 * k + 1) ≠ br (4 * k) ∧ 1 ≤ br (4 * k + 2) ∧ br (4 * k + 2) ≤ 8 ∧ br (4 * k + 3) < br (4 * k + 2)
theorem br4_lo {br : Nat → Nat} {nb a b c d i : Nat} (h : i < 4 * nb) : br4 br nb a b c d i = br i := by
  unfold br4 va_up
  rw [if_neg (by omega), if_neg (by omega), if_neg (by omega), if_neg (by omega)]
theorem br4_0 {br : Nat → Nat} {nb a b c d : Nat} : br4 br nb a b c d (4 * nb) = a := by
  unfold br4 va_up
  rw [if_neg (by omega), if_neg (by omega), if_neg (by omega), if_pos rfl]
theorem br4_1 {br : Nat → Nat} {nb a b c d : Nat} : br4 br nb a b c d (4 * nb + 1) = b := by
  unfold br4 va_up
  rw [if_neg (by omega), if_neg (by omega), if_pos rfl]
theorem br4_2 {br : Nat → Nat} {nb a b c d : Nat} : br4 br nb a b c d (4 * nb + 2) = c := by
  unfold br4 va_up
  rw [if_neg (by omega), if_pos rfl]
theorem br4_3 {br : Nat → Nat} {nb a b c d : Nat} : br4 br nb a b c d (4 * nb + 3) = d := by
  unfold br4 va_up
  rw [if_pos rfl]
theorem brOK_4 {br : Nat → Nat} {nb a b c d : Nat} (h : brOK nb br) (hn : nb < 4) (ha : a ≤ 7) (hb : b ≤ 7) (hab : b ≠ a) (hc : 1 ≤ c) (hc8 : c ≤ 8) (hd : d < c) : brOK (nb + 1) (br4 br nb a b c d) := by
  refine ⟨by omega, fun k hk => ?_⟩
  by_cases e : k = nb
  · subst e
    rw [br4_0, br4_1, br4_2, br4_3]
    exact ⟨ha, hb, hab, hc, hc8, hd⟩
  · have := h.2 k (by omega)
    rw [br4_lo (by omega), br4_lo (by omega), br4_lo (by omega), br4_lo (by omega)]
    exact this
theorem PP_ok (σ : Sg) : ∀ (n a : Nat) (cl : Nat → Nat) (nb : Nat) (br : Nat → Nat), (∀ p, cl p ≤ 1) → brOK nb br → (∀ p, (PP σ n a cl nb br).2.1 p ≤ 1) ∧ brOK (PP σ n a cl nb br).2.2.1 (PP σ n a cl nb br).2.2.2
  | 0, _, _, _, _, h1, h2 => ⟨h1, h2⟩
  | n + 1, a, cl, nb, br, h1, h2 => by
    unfold PP
    split
    · split
      · split
        · split
          · refine PP_ok σ n _ _ _ _ (fun p => ?_) h2
            unfold va_up
            split
            · exact Nat.le_refl _
            · exact h1 p
          · exact ⟨h1, h2⟩
        · split
          · rename_i h
            split
            · split
              · split
                · split
                  · rename_i g1 g2 g3 g4
                    exact PP_ok σ n _ _ _ _ h1 (brOK_4 h2 h.2 g1 g2.1 g2.2 g3.1 g3.2 g4)
                  · exact ⟨h1, h2⟩
                · exact ⟨h1, h2⟩
              · exact ⟨h1, h2⟩
            · exact ⟨h1, h2⟩
          · exact ⟨h1, h2⟩
      · exact ⟨h1, h2⟩
    · exact ⟨h1, h2⟩
theorem LP_ok (σ : Sg) : (∀ p, (LPr σ).2.1 p ≤ 1) ∧ brOK (LPr σ).2.2.1 (LPr σ).2.2.2 := by
  unfold LPr
  split
  · exact ⟨fun _ => Nat.zero_le _, Nat.zero_le _, fun k hk => absurd hk (Nat.not_lt_zero _)⟩
  · exact PP_ok σ 60 8 _ 0 _ (fun _ => Nat.zero_le _) ⟨Nat.zero_le _, fun k hk => absurd hk (Nat.not_lt_zero _)⟩
theorem Cl_le (σ : Sg) (p : Nat) : Cl σ p ≤ 1 := by
  unfold Cl
  split
  · exact (LP_ok σ).1 p
  · omega
theorem NB_ok (σ : Sg) : brOK (NB σ) (Br σ) := by
  unfold NB Br
  split
  · exact (LP_ok σ).2
  · exact ⟨Nat.zero_le _, fun k hk => absurd hk (Nat.not_lt_zero _)⟩
/-- the reference's land cells -/
def LL (σ : Sg) (ρ : Rho) : Prop := (∀ p, p < 8 → ρ.1 49 p = nI (Th σ p)) ∧ (∀ p, p < 8 → ρ.1 50 p = nI (Cl σ p)) ∧ ρ.1 47 4 = nI (NB σ) ∧ ∀ i, i < 4 * NB σ → ρ.1 51 i = nI (Br σ i)
/-- and its turns -/
def Laid (σ : Sg) (ρ : Rho) : Prop := LL σ ρ ∧ ∀ d, d < 100 → ρ.1 58 d = nI (Tn σ d)
theorem nIneg {n : Nat} (h : n < 2 ^ 31) : nI n ≠ -1 := by
  intro e
  have h1 := congrArg Int32.toInt e
  rw [nI_toInt h] at h1
  have h2 : (-1 : Int32).toInt = -1 := by decide
  rw [h2] at h1
  omega
/-- a figure as the reference reads it -/
theorem dg_in {σ : Sg} (hw : Wf σ) (k lo hi : Nat) (hl : lo ≤ 9) (hh : hi ≤ 9) : inR (bA σ k - nI 48) (nI lo) (nI hi) ↔ lo ≤ dg σ k ∧ dg σ k ≤ hi := by
  have ht := hw.text k
  have neg : ∀ x : Int32, x < 0 → ¬ inR x (nI lo) (nI hi) := fun x hx h => by
    have h1 : (0 : Int32) ≤ nI lo := nI_pos' (by omega)
    have h2 := h.1
    rw [Int32.le_iff_toInt_le] at h1 h2
    rw [Int32.lt_iff_toInt_lt] at hx
    omega
  unfold bA dg
  by_cases h1 : k < σ.1 47 0
  · by_cases h2 : 48 ≤ σ.1 48 k
    · rw [if_pos h1, if_pos ⟨h1, h2⟩, pk_sub h2]
      exact ⟨fun h => ⟨(nI_leI (by omega) (by omega)).mp h.1, (nI_leI (by omega) (by omega)).mp h.2⟩, fun h => ⟨(nI_leI (by omega) (by omega)).mpr h.1, (nI_leI (by omega) (by omega)).mpr h.2⟩⟩
    · rw [if_pos h1, if_neg (fun h => h2 h.2)]
      exact ⟨fun h => absurd h (neg _ (pk_sneg (by omega) (by omega))), fun h => by omega⟩
  · rw [if_neg h1, if_neg (fun h => h1 h.1)]
    exact ⟨fun h => absurd h (neg _ (by decide)), fun h => by omega⟩
theorem dg_val {σ : Sg} (hw : Wf σ) {k : Nat} (h : dg σ k ≤ 9) : bA σ k - nI 48 = nI (dg σ k) := by
  unfold dg at h ⊢
  unfold bA
  split at h
  · rename_i h1
    rw [if_pos h1.1, if_pos h1, pk_sub h1.2]
  · omega
