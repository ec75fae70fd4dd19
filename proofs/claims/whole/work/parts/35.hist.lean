theorem wb_tb (n : Nat) : (lN n).toBitVec = BitVec.ofNat 64 n := rfl
theorem wb_inj {a b : Int64} (h : a.toBitVec = b.toBitVec) : a = b := Int64.toBitVec_inj.mp h
theorem wb_c : ∀ k, k < 64 → ((nI k).toInt64 &&& 63) = lN k := by decide +kernel
theorem wb_sm : ∀ k, k < 64 → (BitVec.ofNat 64 k).smod 64 = BitVec.ofNat 64 k := by decide +kernel
theorem wb_shl (n : Nat) {k : Nat} (hk : k < 64) : lN n <<< ((nI k).toInt64 &&& 63) = lN (n * 2 ^ k) := by
  rw [wb_c k hk]
  apply wb_inj
  rw [Int64.toBitVec_shiftLeft, wb_tb, wb_tb, wb_tb, wb_sm k hk]
  apply BitVec.eq_of_toNat_eq
  rw [BitVec.shiftLeft_eq', BitVec.toNat_shiftLeft, BitVec.toNat_ofNat, BitVec.toNat_ofNat, BitVec.toNat_ofNat, Nat.mod_eq_of_lt (show k < 2 ^ 64 by omega), Nat.shiftLeft_eq, Nat.mul_mod, Nat.mod_mod, ← Nat.mul_mod]
theorem u_tn {n : Nat} (h : n < 2 ^ 64) : (UInt64.ofNat n).toNat = n := Nat.mod_eq_of_lt h
theorem g_or {k p a b : Nat} (hp : 2 ^ k = p) (ha : a < p) (h : b * p + a < 2 ^ 64) : lN (b * p) ||| lN a = lN (b * p + a) := by
  subst hp
  have h1 : b * 2 ^ k ||| a = b * 2 ^ k + a := by rw [← Nat.shiftLeft_eq, Nat.shiftLeft_add_eq_or_of_lt ha]
  have h3 : UInt64.ofNat (b * 2 ^ k) ||| UInt64.ofNat a = UInt64.ofNat (b * 2 ^ k + a) := UInt64.toNat_inj.mp (by rw [UInt64.toNat_or, u_tn (by omega), u_tn (by omega), u_tn h, h1])
  have h2 := congrArg UInt64.toInt64 h3
  exact h2
theorem g_or' {k p a b : Nat} (hp : 2 ^ k = p) (ha : a < p) (h : a + b * p < 2 ^ 64) : lN a ||| lN (b * p) = lN (a + b * p) := by
  rw [Int64.or_comm, g_or hp ha (by omega), Nat.add_comm]
/-! HISTORIES -/
def bt (h i : Nat) : Nat := h / 2 ^ i % 2
def bc (n c i : Nat) : Nat := c / 2 ^ (n - 1 - i) % 2
theorem bt_le (h i : Nat) : bt h i ≤ 1 := Nat.le_of_lt_succ (Nat.mod_lt _ (by decide))
theorem bc_le (n c i : Nat) : bc n c i ≤ 1 := Nat.le_of_lt_succ (Nat.mod_lt _ (by decide))
def t0 (σ : Sg) (a : Nat) : Nat := if a = 0 then σ.1 57 2 else Tn σ (a - 1)
theorem t0_lt {σ : Sg} (h : Wf σ) (a : Nat) : t0 σ a < 8 := by
  unfold t0
  have h1 := h.begin
  have h2 := Tn_lt σ (a - 1)
  split <;> omega
def hT (T : Nat) (β : Nat → Nat) : Nat → Nat
  | 0 => T
  | k + 1 => hT T β k + β k
theorem hT_le {T : Nat} {β : Nat → Nat} (hT7 : T < 8) (hβ : ∀ i, β i ≤ 1) : ∀ k, hT T β k ≤ 7 + k
  | 0 => by unfold hT; omega
  | k + 1 => by
    have h1 := hT_le hT7 hβ k
    have h2 := hβ k
    unfold hT
    omega
def isF (σ : Sg) (r t : Nat) : Nat := if Th σ ((r + t) % 8) = 4 then 1 else 0
theorem isF_y {σ : Sg} {r t : Nat} (h : Th σ ((r + t) % 8) = 4) : isF σ r t = 1 := if_pos h
theorem isF_n {σ : Sg} {r t : Nat} (h : ¬ Th σ ((r + t) % 8) = 4) : isF σ r t = 0 := if_neg h
theorem isF_le (σ : Sg) (r t : Nat) : isF σ r t ≤ 1 := by unfold isF; split <;> omega
theorem isF_mod (σ : Sg) (r t : Nat) : isF σ r (t % 8) = isF σ r t := by
  unfold isF
  rw [show (r + t % 8) % 8 = (r + t) % 8 by omega]
def hF (σ : Sg) (T : Nat) (β : Nat → Nat) (r : Nat) : Nat → Nat
  | 0 => 0
  | k + 1 => hF σ T β r k + isF σ r (hT T β (k + 1))
theorem hF_le (σ : Sg) (T : Nat) (β : Nat → Nat) (r : Nat) : ∀ k, hF σ T β r k ≤ k
  | 0 => Nat.le_refl _
  | k + 1 => by
    have h1 := hF_le σ T β r k
    have h2 := isF_le σ r (hT T β (k + 1))
    unfold hF
    omega
abbrev okR (σ : Sg) (T : Nat) (β : Nat → Nat) (n r : Nat) : Prop := σ.2 66 r = -1 ∨ σ.2 66 r = nI (hF σ T β r n)
def hP (σ : Sg) (T : Nat) (β : Nat → Nat) (n : Nat) : Nat → Bool
  | 0 => true
  | k + 1 => hP σ T β n k && decide (okR σ T β n k)
theorem hP_y {σ : Sg} {T : Nat} {β : Nat → Nat} {n k : Nat} (h : hP σ T β n k = true) (g : okR σ T β n k) : hP σ T β n (k + 1) = true := by
  rw [hP, h, decide_eq_true g]; rfl
theorem hP_n {σ : Sg} {T : Nat} {β : Nat → Nat} {n k : Nat} (h : ¬ hP σ T β n k = true) : ¬ hP σ T β n (k + 1) = true := by
  rw [hP, Bool.eq_false_iff.mpr h]; exact Bool.false_ne_true
theorem hP_r {σ : Sg} {T : Nat} {β : Nat → Nat} {n k : Nat} (h : ¬ okR σ T β n k) : ¬ hP σ T β n (k + 1) = true := by
  rw [hP, decide_eq_false h, Bool.and_false]; exact Bool.false_ne_true
theorem hP_all {σ : Sg} {T : Nat} {β : Nat → Nat} {n : Nat} : ∀ k, hP σ T β n k = true ↔ ∀ r, r < k → okR σ T β n r
  | 0 => ⟨fun _ r hr => absurd hr (Nat.not_lt_zero _), fun _ => rfl⟩
  | k + 1 => by
    rw [hP, Bool.and_eq_true, hP_all k, decide_eq_true_iff]
    refine ⟨fun h r hr => ?_, fun h => ⟨fun r hr => h r (by omega), h k (by omega)⟩⟩
    by_cases e : r = k
    · subst e; exact h.2
    · exact h.1 r (by omega)
theorem hT_congr {T : Nat} {β γ : Nat → Nat} : ∀ k, (∀ i, i < k → β i = γ i) → hT T β k = hT T γ k
  | 0, _ => rfl
  | k + 1, h => by rw [hT, hT, hT_congr k (fun i hi => h i (by omega)), h k (by omega)]
theorem hF_congr {σ : Sg} {T : Nat} {β γ : Nat → Nat} {r : Nat} : ∀ k, (∀ i, i < k → β i = γ i) → hF σ T β r k = hF σ T γ r k
  | 0, _ => rfl
  | k + 1, h => by rw [hF, hF, hF_congr k (fun i hi => h i (by omega)), hT_congr (k + 1) h]
theorem hP_congr {σ : Sg} {T : Nat} {β γ : Nat → Nat} {n : Nat} (h : ∀ i, i < n → β i = γ i) : ∀ k, hP σ T β n k = hP σ T γ n k
  | 0 => rfl
  | k + 1 => by
    unfold hP
    rw [hP_congr h k]
    unfold okR
    rw [hF_congr n h]
def ft (σ : Sg) (T n h : Nat) : Bool := hP σ T (bt h) n 8
/-! a history by its bits -/
def hB (β : Nat → Nat) : Nat → Nat
  | 0 => 0
  | k + 1 => hB β k + β k * 2 ^ k
theorem hB_lt {β : Nat → Nat} (h : ∀ i, β i ≤ 1) : ∀ k, hB β k < 2 ^ k
  | 0 => Nat.zero_lt_one
  | k + 1 => by
    have h1 := hB_lt h k
    have h2 := h k
    have h3 : β k * 2 ^ k ≤ 1 * 2 ^ k := Nat.mul_le_mul_right _ h2
    unfold hB
    rw [Nat.pow_succ]
    omega
theorem hB_congr {β γ : Nat → Nat} : ∀ k, (∀ i, i < k → β i = γ i) → hB β k = hB γ k
  | 0, _ => rfl
  | k + 1, h => by rw [hB, hB, hB_congr k (fun i hi => h i (by omega)), h k (by omega)]
theorem hB_or {β : Nat → Nat} (h : ∀ i, β i ≤ 1) (k : Nat) : hB β k ||| (β k * 2 ^ k) = hB β (k + 1) := by
  rw [Nat.or_comm, hB, Nat.add_comm, ← Nat.shiftLeft_eq, Nat.shiftLeft_add_eq_or_of_lt (hB_lt h k)]
theorem hB_sh {β : Nat → Nat} : ∀ k, hB β (k + 1) = β 0 + 2 * hB (fun i => β (i + 1)) k
  | 0 => by simp [hB]
  | k + 1 => by
    rw [hB, hB_sh k, hB, Nat.mul_add, Nat.pow_succ]
    have : β (k + 1) * (2 ^ k * 2) = 2 * (β (k + 1) * 2 ^ k) := by rw [← Nat.mul_assoc, Nat.mul_comm 2]
    omega
theorem bt_hB {β : Nat → Nat} (h : ∀ i, β i ≤ 1) : ∀ k i, i < k → bt (hB β k) i = β i
  | 0, _, hi => absurd hi (Nat.not_lt_zero _)
  | k + 1, 0, _ => by
    have := h 0
    rw [hB_sh, bt, Nat.pow_zero, Nat.div_one]
    omega
  | k + 1, i + 1, hi => by
    have e := bt_hB (β := fun i => β (i + 1)) (fun i => h (i + 1)) k i (by omega)
    have := h 0
    rw [hB_sh]
    unfold bt at e ⊢
    rw [Nat.pow_succ, Nat.mul_comm (2 ^ i) 2, ← Nat.div_div_eq_div_mul, show (β 0 + 2 * hB (fun i => β (i + 1)) k) / 2 = hB (fun i => β (i + 1)) k by omega]
    exact e
def rh (n c : Nat) : Nat := hB (bc n c) n
theorem rh_lt (n c : Nat) : rh n c < 2 ^ n := hB_lt (bc_le n c) n
theorem ft_rh (σ : Sg) (T n c : Nat) : ft σ T n (rh n c) = hP σ T (bc n c) n 8 := hP_congr (fun i hi => bt_hB (bc_le n c) n i hi) 8
theorem rh_s (n c : Nat) : rh (n + 1) c = c / 2 ^ n % 2 + 2 * rh n c := by
  unfold rh
  rw [hB_sh, hB_congr (γ := bc n c) n (fun i hi => by unfold bc; rw [show n + 1 - 1 - (i + 1) = n - 1 - i by omega])]
  unfold bc
  rw [show n + 1 - 1 - 0 = n by omega]
theorem rh_up (n c : Nat) : rh n (2 ^ n + c) = rh n c := by
  unfold rh
  refine hB_congr n (fun i hi => ?_)
  unfold bc
  obtain ⟨q, hq⟩ : ∃ q, n = (n - 1 - i) + (q + 1) := ⟨i, by omega⟩
  have e : 2 ^ n = 2 ^ (n - 1 - i) * (2 ^ q * 2) := by rw [← Nat.pow_succ, ← Nat.pow_add, ← hq]
  rw [e, Nat.add_comm, Nat.add_mul_div_left _ _ (Nat.two_pow_pos _)]
  omega
/-! folds -/
def fo {α : Type} (op : α → α → α) (e : α) (f : Nat → α) : Nat → α
  | 0 => e
  | k + 1 => op (fo op e f k) (f k)
section
variable {α : Type} {op : α → α → α} {e : α}
theorem fo_congr {f g : Nat → α} : ∀ k, (∀ i, i < k → f i = g i) → fo op e f k = fo op e g k
  | 0, _ => rfl
  | k + 1, h => by rw [fo, fo, fo_congr k (fun i hi => h i (by omega)), h k (by omega)]
theorem fo_add (as : ∀ x y z, op (op x y) z = op x (op y z)) (ne : ∀ x, op x e = x) (f : Nat → α) (a : Nat) : ∀ b, fo op e f (a + b) = op (fo op e f a) (fo op e (fun i => f (a + i)) b)
  | 0 => (ne _).symm
  | b + 1 => by
    rw [show a + (b + 1) = (a + b) + 1 by omega, fo, fo_add as ne f a b, as]; rfl
theorem fo_two (as : ∀ x y z, op (op x y) z = op x (op y z)) (co : ∀ x y, op x y = op y x) (ne : ∀ x, op x e = x) (f : Nat → α) : ∀ k, fo op e f (2 * k) = op (fo op e (fun i => f (2 * i)) k) (fo op e (fun i => f (2 * i + 1)) k)
  | 0 => (ne _).symm
  | k + 1 => by
    rw [show 2 * (k + 1) = 2 * k + 1 + 1 by omega, fo, fo, fo_two as co ne f k]
    show op (op (op _ _) _) _ = op (op _ (f (2 * k))) (op _ (f (2 * k + 1)))
    generalize fo op e (fun i => f (2 * i)) k = A
    generalize fo op e (fun i => f (2 * i + 1)) k = B
    generalize f (2 * k) = x
    generalize f (2 * k + 1) = y
    rw [as A B x, co B x, ← as A x B, as]
theorem fo_rh (as : ∀ x y z, op (op x y) z = op x (op y z)) (co : ∀ x y, op x y = op y x) (ne : ∀ x, op x e = x) : ∀ (n : Nat) (f : Nat → α), fo op e (fun c => f (rh n c)) (2 ^ n) = fo op e f (2 ^ n)
  | 0, f => rfl
  | n + 1, f => by
    rw [show 2 ^ (n + 1) = 2 * 2 ^ n by rw [Nat.pow_succ, Nat.mul_comm], fo_two as co ne f]
    rw [show 2 * 2 ^ n = 2 ^ n + 2 ^ n by omega, fo_add as ne]
    rw [← fo_rh as co ne n (fun h => f (2 * h)), ← fo_rh as co ne n (fun h => f (2 * h + 1))]
    rw [fo_congr (g := fun c => f (2 * rh n c)) (2 ^ n) (fun i hi => by
      show f (rh (n + 1) i) = _
      rw [rh_s, Nat.div_eq_of_lt hi, show 0 % 2 + 2 * rh n i = 2 * rh n i by omega]),
      fo_congr (f := fun i => f (rh (n + 1) (2 ^ n + i))) (g := fun c => f (2 * rh n c + 1)) (2 ^ n) (fun i hi => by
      show f (rh (n + 1) (2 ^ n + i)) = _
      rw [rh_s, rh_up, Nat.add_div_left _ (Nat.two_pow_pos n), Nat.div_eq_of_lt hi, show (Nat.succ 0) % 2 + 2 * rh n i = 2 * rh n i + 1 by omega])]
end
/-! the four answers -/
def mn (x y : Nat) : Nat := if x = 0 then y else if y = 0 then x else min x y
theorem mn_as (x y z : Nat) : mn (mn x y) z = mn x (mn y z) := by
  unfold mn
  repeat' split
  all_goals omega
theorem mn_co (x y : Nat) : mn x y = mn y x := by
  unfold mn
  repeat' split
  all_goals omega
theorem mn_ne (x : Nat) : mn x 0 = x := by
  unfold mn
  repeat' split
  all_goals omega
def fst (x : Nat) : Int32 := if x = 0 then -1 else nI (x - 1)
def gN (σ : Sg) (T n h : Nat) : Nat := if ft σ T n h = true then 1 else 0
def gX (σ : Sg) (T n h : Nat) : Nat := if ft σ T n h = true then h + 1 else 0
def gW (σ : Sg) (T n h : Nat) : Int32 := if ft σ T n h = true then nI h else -1
def gO (σ : Sg) (T n h : Nat) : Int32 := if ft σ T n h = true then nI (2 ^ n - 1) ^^^ nI h else -1
def aN (σ : Sg) (T n : Nat) (u : Nat → Nat) : Nat → Nat := fo (· + ·) 0 (fun c => gN σ T n (u c))
def aX (σ : Sg) (T n : Nat) (u : Nat → Nat) : Nat → Nat := fo mn 0 (fun c => gX σ T n (u c))
def aW (σ : Sg) (T n : Nat) (u : Nat → Nat) (k : Nat) : Int32 := nI (2 ^ n - 1) &&& fo (· &&& ·) (-1) (fun c => gW σ T n (u c)) k
def aO (σ : Sg) (T n : Nat) (u : Nat → Nat) (k : Nat) : Int32 := nI (2 ^ n - 1) &&& fo (· &&& ·) (-1) (fun c => gO σ T n (u c)) k
theorem aN_rh (σ : Sg) (T n : Nat) : aN σ T n (rh n) (2 ^ n) = aN σ T n (fun c => c) (2 ^ n) := fo_rh Nat.add_assoc Nat.add_comm Nat.add_zero n (gN σ T n)
theorem aX_rh (σ : Sg) (T n : Nat) : aX σ T n (rh n) (2 ^ n) = aX σ T n (fun c => c) (2 ^ n) := fo_rh mn_as mn_co mn_ne n (gX σ T n)
theorem aW_rh (σ : Sg) (T n : Nat) : aW σ T n (rh n) (2 ^ n) = aW σ T n (fun c => c) (2 ^ n) := congrArg (fun z => nI (2 ^ n - 1) &&& z) (fo_rh Int32.and_assoc Int32.and_comm (fun _ => Int32.and_neg_one) n (gW σ T n))
theorem aO_rh (σ : Sg) (T n : Nat) : aO σ T n (rh n) (2 ^ n) = aO σ T n (fun c => c) (2 ^ n) := congrArg (fun z => nI (2 ^ n - 1) &&& z) (fo_rh Int32.and_assoc Int32.and_comm (fun _ => Int32.and_neg_one) n (gO σ T n))
section
variable {σ : Sg} {T n k : Nat} {u : Nat → Nat}
theorem aN_y (h : ft σ T n (u k) = true) : aN σ T n u (k + 1) = aN σ T n u k + 1 := by show _ + gN σ T n (u k) = _; rw [gN, if_pos h]; rfl
theorem aN_n (h : ¬ ft σ T n (u k) = true) : aN σ T n u (k + 1) = aN σ T n u k := by show _ + gN σ T n (u k) = _; rw [gN, if_neg h]; rfl
theorem aN_le : ∀ k, aN σ T n u k ≤ k
  | 0 => Nat.le_refl _
  | k + 1 => by
    have h1 := aN_le k
    by_cases h : ft σ T n (u k) = true
    · rw [aN_y h]; omega
    · rw [aN_n h]; omega
theorem aX_y (h : ft σ T n (u k) = true) : aX σ T n u (k + 1) = mn (aX σ T n u k) (u k + 1) := by show mn _ (gX σ T n (u k)) = _; rw [gX, if_pos h]; rfl
theorem aX_n (h : ¬ ft σ T n (u k) = true) : aX σ T n u (k + 1) = aX σ T n u k := by show mn _ (gX σ T n (u k)) = _; rw [gX, if_neg h, mn_ne]; rfl
theorem aX_le {B : Nat} (hu : ∀ c, u c < B) : ∀ k, aX σ T n u k ≤ B
  | 0 => Nat.zero_le _
  | k + 1 => by
    have h1 := aX_le hu k
    have h2 := hu k
    by_cases h : ft σ T n (u k) = true
    · rw [aX_y h]; unfold mn; repeat' split
      all_goals omega
    · rw [aX_n h]; exact h1
theorem aX_id : ∀ k, aX σ T n (fun c => c) k ≤ k
  | 0 => Nat.zero_le _
  | k + 1 => by
    have h1 := aX_id k
    by_cases h : ft σ T n k = true
    · rw [aX_y (u := fun c => c) h]; unfold mn; repeat' split
      all_goals omega
    · rw [aX_n (u := fun c => c) h]; omega
theorem aW_y (h : ft σ T n (u k) = true) : aW σ T n u (k + 1) = aW σ T n u k &&& nI (u k) := by show _ &&& (_ &&& gW σ T n (u k)) = _; rw [gW, if_pos h, ← Int32.and_assoc]; rfl
theorem aW_n (h : ¬ ft σ T n (u k) = true) : aW σ T n u (k + 1) = aW σ T n u k := by show _ &&& (_ &&& gW σ T n (u k)) = _; rw [gW, if_neg h, Int32.and_neg_one]; rfl
theorem aO_y (h : ft σ T n (u k) = true) : aO σ T n u (k + 1) = aO σ T n u k &&& (nI (2 ^ n - 1) ^^^ nI (u k)) := by show _ &&& (_ &&& gO σ T n (u k)) = _; rw [gO, if_pos h, ← Int32.and_assoc]; rfl
theorem aO_n (h : ¬ ft σ T n (u k) = true) : aO σ T n u (k + 1) = aO σ T n u k := by show _ &&& (_ &&& gO σ T n (u k)) = _; rw [gO, if_neg h, Int32.and_neg_one]; rfl
end
theorem and_xor_not (a f h : Int32) : (a &&& f) &&& (h ^^^ (-1)) = (a &&& f) &&& (a ^^^ h) := by
  apply Int32.toBitVec_inj.mp
  apply BitVec.eq_of_getLsbD_eq
  intro i hi
  have e : (-1 : Int32).toBitVec = BitVec.allOnes 32 := by decide
  simp only [Int32.toBitVec_and, Int32.toBitVec_xor, BitVec.getLsbD_and, BitVec.getLsbD_xor, e, BitVec.getLsbD_allOnes, hi, decide_true]
  cases a.toBitVec.getLsbD i <;> cases f.toBitVec.getLsbD i <;> cases h.toBitVec.getLsbD i <;> rfl
theorem aO_ny {σ : Sg} {T n k : Nat} (h : ft σ T n k = true) : aO σ T n (fun c => c) k &&& (nI k ^^^ (-1)) = aO σ T n (fun c => c) (k + 1) := by
  rw [aO_y (u := fun c => c) h]; exact and_xor_not _ _ _
theorem fst_0 {x : Nat} (hx : x < 2 ^ 31) : fst x = -1 ↔ x = 0 := by
  unfold fst
  split
  · rename_i h; exact ⟨fun _ => h, fun _ => rfl⟩
  · rename_i h; exact ⟨fun e => absurd e (nIneg (by omega)), fun e => absurd e h⟩
theorem fst_k {σ : Sg} {T n k : Nat} (hk : k < 2 ^ 31) (h : ft σ T n k = true) (hf : fst (aX σ T n (fun c => c) k) = -1) : nI k = fst (aX σ T n (fun c => c) (k + 1)) := by
  have h1 := aX_id (σ := σ) (T := T) (n := n) k
  rw [aX_y (u := fun c => c) h, (fst_0 (by omega)).mp hf]
  unfold mn fst
  rw [if_pos rfl, if_neg (by omega), Nat.add_sub_cancel]
theorem fst_s {σ : Sg} {T n k : Nat} (hk : k < 2 ^ 31) (h : ft σ T n k = true) (hf : fst (aX σ T n (fun c => c) k) ≠ -1) : fst (aX σ T n (fun c => c) k) = fst (aX σ T n (fun c => c) (k + 1)) := by
  have h1 := aX_id (σ := σ) (T := T) (n := n) k
  have h2 : aX σ T n (fun c => c) k ≠ 0 := fun e => hf ((fst_0 (by omega)).mpr e)
  rw [aX_y (u := fun c => c) h]
  unfold mn
  rw [if_neg h2, if_neg (by omega), Nat.min_eq_left (by omega)]
theorem fst_m {x h : Nat} (hx : x ≠ 0) : nI (min (x - 1) h) = fst (mn x (h + 1)) := by
  have e : mn x (h + 1) = min x (h + 1) := by unfold mn; rw [if_neg hx, if_neg (Nat.succ_ne_zero h)]
  rw [e]
  unfold fst
  rw [if_neg (by omega), show min (x - 1) h = min x (h + 1) - 1 by omega]
theorem fst_e {x h : Nat} (hx : x = 0) : nI h = fst (mn x (h + 1)) := by
  unfold mn fst
  rw [if_pos hx, if_neg (by omega), Nat.add_sub_cancel]
def v_hist (σ : Sg) (T n v : Nat) : Int32 := if v = 0 then nI (aN σ T n (fun c => c) (2 ^ n)) else if v = 1 then fst (aX σ T n (fun c => c) (2 ^ n)) else if aN σ T n (fun c => c) (2 ^ n) = 0 then -3 else if v = 2 then aW σ T n (fun c => c) (2 ^ n) else aO σ T n (fun c => c) (2 ^ n)
abbrev g_hist (d c w : Int32) : Prop := inR d (nI 0) (nI 99) ∧ inR c (nI 0) (nI 12) ∧ nv d + nv c ≤ 100 ∧ inR w (nI 0) (nI 3)
def r_history (σ : Sg) (d c w : Int32) : Int32 := if g_hist d c w then v_hist σ (t0 σ (nv d)) (nv c) (nv w) else -2
theorem p12 : ∀ n, n ≤ 12 → 1 ≤ 2 ^ n ∧ 2 ^ n ≤ 4096 := fun n h => ⟨Nat.two_pow_pos n, Nat.le_trans (Nat.pow_le_pow_right (by decide) h) (by decide)⟩
/-! the class's way: crops by nibbles -/
def wv (σ : Sg) (r : Nat) : Nat := if σ.2 66 r = -1 then 0 else (σ.2 66 r).toNatClampNeg
def ck (σ : Sg) (r t : Nat) : Nat := if σ.2 66 r = -1 then 0 else isF σ r t
def nb4 (f : Nat → Nat) (k : Nat) : Nat := sumN (fun r => f r * 2 ^ (4 * r)) k
theorem nb4_lt {f : Nat → Nat} (h : ∀ r, f r < 16) : ∀ k, nb4 f k < 2 ^ (4 * k)
  | 0 => by show 0 < 1; decide
  | k + 1 => by
    have h1 := nb4_lt h k
    have h2 : f k * 2 ^ (4 * k) ≤ 15 * 2 ^ (4 * k) := Nat.mul_le_mul_right _ (Nat.le_of_lt_succ (h k))
    show nb4 f k + f k * 2 ^ (4 * k) < _
    rw [show 4 * (k + 1) = 4 * k + 4 by omega, Nat.pow_add]
    omega
theorem nb4_eq {f g : Nat → Nat} (hf : ∀ r, f r < 16) (hg : ∀ r, g r < 16) : ∀ k, nb4 f k = nb4 g k ↔ ∀ r, r < k → f r = g r
  | 0 => ⟨fun _ r hr => absurd hr (Nat.not_lt_zero _), fun _ => rfl⟩
  | k + 1 => by
    have p := Nat.two_pow_pos (4 * k)
    have h1 := nb4_lt hf k
    have h2 := nb4_lt hg k
    show nb4 f k + f k * 2 ^ (4 * k) = nb4 g k + g k * 2 ^ (4 * k) ↔ _
    constructor
    · intro h
      have m1 : nb4 f k = nb4 g k := by
        have := congrArg (· % 2 ^ (4 * k)) h
        simp only [Nat.add_mul_mod_self_right] at this
        rwa [Nat.mod_eq_of_lt h1, Nat.mod_eq_of_lt h2] at this
      have m2 : f k = g k := by
        have := congrArg (· / 2 ^ (4 * k)) h
        simp only [Nat.add_mul_div_right _ _ p] at this
        rwa [Nat.div_eq_of_lt h1, Nat.div_eq_of_lt h2, Nat.zero_add, Nat.zero_add] at this
      intro r hr
      by_cases e : r = k
      · subst e; exact m2
      · exact (nb4_eq hf hg k).mp m1 r (by omega)
    · intro h
      rw [h k (by omega), (nb4_eq hf hg k).mpr (fun r hr => h r (by omega))]
theorem nb4_n {f : Nat → Nat} {k : Nat} (h : f k = 0) : nb4 f (k + 1) = nb4 f k := by
  show nb4 f k + f k * 2 ^ (4 * k) = _
  rw [h, Nat.zero_mul, Nat.add_zero]
theorem lor_nb {f : Nat → Nat} (hf : ∀ r, f r < 16) {k z : Nat} (hk : k < 8) (hz : f k = z) : lN (nb4 f k) ||| (lN z <<< ((nI (4 * k)).toInt64 &&& 63)) = lN (nb4 f (k + 1)) := by
  rw [wb_shl z (show 4 * k < 64 by omega), ← hz]
  refine g_or' rfl (nb4_lt hf k) ?_
  have h1 := nb4_lt hf (k + 1)
  have h2 : 2 ^ (4 * (k + 1)) ≤ 2 ^ 32 := Nat.pow_le_pow_right (by decide) (by omega)
  exact Nat.lt_of_lt_of_le h1 (Nat.le_trans h2 (by decide))
theorem wv_lt {σ : Sg} (h : Wf σ) (r : Nat) : wv σ r < 16 := by
  unfold wv
  rcases h.reap r with e | ⟨a, ha, e⟩
  · rw [if_pos e]; decide
  · rw [if_neg (by rw [e]; exact nIneg (by omega)), e, nI_clamp (by omega)]; omega
theorem wv_z {σ : Sg} {r z : Nat} (hz : z ≤ 12) (e : σ.2 66 r = nI z) : wv σ r = z := by
  unfold wv
  rw [if_neg (by rw [e]; exact nIneg (by omega)), e, nI_clamp (by omega)]
theorem wv_0 {σ : Sg} {r : Nat} (e : σ.2 66 r = -1) : wv σ r = 0 := if_pos e
theorem ck_0 {σ : Sg} {r t : Nat} (e : σ.2 66 r = -1) : ck σ r t = 0 := if_pos e
theorem ck_k {σ : Sg} {r t : Nat} (e : ¬ σ.2 66 r = -1) : ck σ r t = isF σ r t := if_neg e
theorem ck_lt (σ : Sg) (t r : Nat) : ck σ r t < 16 := by
  have := isF_le σ r t
  unfold ck
  split <;> omega
def wV (σ : Sg) (k : Nat) : Nat := nb4 (wv σ) k
def cT (σ : Sg) (t k : Nat) : Nat := nb4 (fun r => ck σ r t) k
def cF (σ : Sg) (T : Nat) (β : Nat → Nat) (d r : Nat) : Nat := if σ.2 66 r = -1 then 0 else hF σ T β r d
def cpV (σ : Sg) (T : Nat) (β : Nat → Nat) (d : Nat) : Nat := nb4 (cF σ T β d) 8
theorem cF_lt {σ : Sg} {T : Nat} {β : Nat → Nat} {d : Nat} (hd : d ≤ 12) (r : Nat) : cF σ T β d r < 16 := by
  have := hF_le σ T β r d
  unfold cF
  split <;> omega
theorem cpV_0 (σ : Sg) (T : Nat) (β : Nat → Nat) : cpV σ T β 0 = 0 := by
  unfold cpV nb4
  rw [sumN_congr 8 (g := fun _ => 0) (fun r _ => by show cF σ T β 0 r * _ = 0; unfold cF hF; split <;> exact Nat.zero_mul _), sumN_0]
theorem cpV_s (σ : Sg) (T : Nat) (β : Nat → Nat) (d : Nat) : cpV σ T β d + cT σ (hT T β (d + 1) % 8) 8 = cpV σ T β (d + 1) := by
  unfold cpV cT nb4
  rw [← sumN_add]
  refine sumN_congr 8 (fun r _ => ?_)
  show cF σ T β d r * _ + ck σ r _ * _ = cF σ T β (d + 1) r * _
  rw [← Nat.add_mul]
  congr 1
  unfold cF ck
  split
  · rfl
  · rw [isF_mod, hF]
theorem cpV_congr {σ : Sg} {T : Nat} {β γ : Nat → Nat} (d : Nat) (h : ∀ i, i < d → β i = γ i) : cpV σ T β d = cpV σ T γ d := by
  unfold cpV nb4
  refine sumN_congr 8 (fun r _ => ?_)
  show cF σ T β d r * _ = cF σ T γ d r * _
  unfold cF
  rw [hF_congr d h]
theorem cpV_b {σ : Sg} {T : Nat} {β : Nat → Nat} {d : Nat} (hd : d ≤ 12) : cpV σ T β d < 2 ^ 63 := Nat.lt_of_lt_of_le (nb4_lt (cF_lt hd) 8) (by decide)
theorem wV_b {σ : Sg} (h : Wf σ) : wV σ 8 < 2 ^ 63 := Nat.lt_of_lt_of_le (nb4_lt (wv_lt h) 8) (by decide)
theorem fit_iff {σ : Sg} (hw : Wf σ) {T n : Nat} {β : Nat → Nat} (hn : n ≤ 12) : cpV σ T β n = wV σ 8 ↔ hP σ T β n 8 = true := by
  unfold cpV wV
  rw [nb4_eq (cF_lt hn) (wv_lt hw) 8, hP_all 8]
  have key : ∀ r, cF σ T β n r = wv σ r ↔ okR σ T β n r := fun r => by
    have hl := hF_le σ T β r n
    unfold cF okR
    rcases hw.reap r with e | ⟨a, ha, e⟩
    · rw [if_pos e, wv_0 e]; exact ⟨fun _ => Or.inl e, fun _ => rfl⟩
    · have ne : ¬ σ.2 66 r = -1 := by rw [e]; exact nIneg (by omega)
      rw [if_neg ne, wv_z ha e]
      exact ⟨fun h => Or.inr (by rw [e, h]), fun h => by
        have h2 := h.resolve_left ne
        rw [e] at h2
        exact ((nI_eq (by omega) (by omega)).mp h2).symm⟩
  exact ⟨fun h r hr => (key r).mp (h r hr), fun h r hr => (key r).mpr (h r hr)⟩
/-! the rows of the history that is looked at -/
def Ar (σ : Sg) (T : Nat) (β : Nat → Nat) (ρ : Rho) (m : Nat) : Prop := ∀ d, d ≤ m → ρ.1 35 d = nI (hB β d) ∧ ρ.1 36 d = nI (hT T β d % 8) ∧ ρ.2 37 d = lN (cpV σ T β d)
theorem Ar.cg {σ : Sg} {T : Nat} {β γ : Nat → Nat} {ρ : Rho} {m m2 : Nat} (h : Ar σ T β ρ m) (hm : m2 ≤ m) (e : ∀ i, i < m2 → β i = γ i) : Ar σ T γ ρ m2 := fun d hd => by
  have e2 : ∀ i, i < d → β i = γ i := fun i hi => e i (by omega)
  rw [← hB_congr d e2, ← hT_congr d e2, ← cpV_congr d e2]
  exact h d (by omega)
theorem Ar.ext {σ : Sg} {T : Nat} {β : Nat → Nat} {ρ : Rho} {d g T1 : Nat} {b c : Nat} (h : Ar σ T β ρ d) (hβ : ∀ i, β i ≤ 1) (hg : g = β d) (hT1 : T1 = hT T β d % 8) (hb : b = hB β d) (hc : c = cpV σ T β d + cT σ ((T1 + g) % 8) 8) : Ar σ T β (wL (wI (wI ρ 35 (d + 1) (nI (b ||| (g * 2 ^ d)))) 36 (d + 1) (nI ((T1 + g) % 8))) 37 (d + 1) (lN c)) (d + 1) := fun e he => by
  by_cases q : e = d + 1
  · subst q
    have t1 : (T1 + g) % 8 = hT T β (d + 1) % 8 := by rw [hT1, hg]; show _ = (hT T β d + β d) % 8; omega
    refine ⟨?_, ?_, ?_⟩
    · show (wI (wI ρ 35 (d + 1) (nI (b ||| (g * 2 ^ d)))) 36 (d + 1) (nI ((T1 + g) % 8))).1 35 (d + 1) = _
      rw [wI_ne (by decide), rI_eq, hb, hg, hB_or hβ]
    · show (wI (wI ρ 35 (d + 1) (nI (b ||| (g * 2 ^ d)))) 36 (d + 1) (nI ((T1 + g) % 8))).1 36 (d + 1) = _
      rw [rI_eq, t1]
    · rw [rL_eq, hc, t1, cpV_s]
  · obtain ⟨h1, h2, h3⟩ := h e (by omega)
    refine ⟨?_, ?_, ?_⟩
    · show (wI (wI ρ 35 (d + 1) (nI (b ||| (g * 2 ^ d)))) 36 (d + 1) (nI ((T1 + g) % 8))).1 35 e = _
      rw [wI_ne (by decide), rI_ne (fun z => q z.2)]; exact h1
    · show (wI (wI ρ 35 (d + 1) (nI (b ||| (g * 2 ^ d)))) 36 (d + 1) (nI ((T1 + g) % 8))).1 36 e = _
      rw [rI_ne (fun z => q z.2), wI_ne (by decide)]; exact h2
    · rw [rL_ne (fun z => q z.2)]; exact h3
def tz (c : Nat) : Nat := fi (fun i => decide (c / 2 ^ i % 2 = 1)) 12 0
theorem tz_ok0 : ∀ a, a < 64 → ∀ b, b < 64 → 0 < 64 * a + b → tz (64 * a + b) < 12 ∧ (64 * a + b) % 2 ^ (tz (64 * a + b) + 1) = 2 ^ tz (64 * a + b) := by decide +kernel
theorem tz_ok (c : Nat) (h : c < 4096) (h0 : 0 < c) : tz c < 12 ∧ c % 2 ^ (tz c + 1) = 2 ^ tz c := by
  have e := Nat.div_add_mod c 64
  have := tz_ok0 (c / 64) (by omega) (c % 64) (by omega) (by omega)
  rwa [e] at this
theorem xd_v0 : ∀ a, a < 64 → ∀ b, b < 64 → 0 < 64 * a + b → (nI (64 * a + b) ^^^ (nI (64 * a + b) - nI 1)) = nI (2 ^ (tz (64 * a + b) + 1) - 1) := by decide +kernel
theorem xd_v (c : Nat) (h : c < 4096) (h0 : 0 < c) : (nI c ^^^ (nI c - nI 1)) = nI (2 ^ (tz c + 1) - 1) := by
  have e := Nat.div_add_mod c 64
  have := xd_v0 (c / 64) (by omega) (c % 64) (by omega) (by omega)
  rwa [e] at this
/-- how many bits the step to a counter has changed -/
def ub (c : Nat) : Nat := if c = 0 then 32 else tz c + 1
theorem ub_le {c : Nat} (h : c < 4096) : ub c ≤ 32 := by
  unfold ub
  split
  · exact Nat.le_refl _
  · have := (tz_ok c h (by omega)).1
    omega
theorem bc_pre {n c : Nat} (hn : n ≤ 12) (hc : c < 2 ^ n) (h0 : 0 < c) {i : Nat} (hi : i < n - (tz c + 1)) : bc n (c - 1) i = bc n c i := by
  have h1 := (tz_ok c (Nat.lt_of_lt_of_le hc (p12 n hn).2) h0).2
  unfold bc
  congr 1
  obtain ⟨q, hq⟩ : ∃ q, n - 1 - i = (tz c + 1) + q := ⟨n - 1 - i - (tz c + 1), by omega⟩
  rw [hq, Nat.pow_add, ← Nat.div_div_eq_div_mul, ← Nat.div_div_eq_div_mul]
  congr 1
  have p := Nat.two_pow_pos (tz c)
  have m := Nat.div_add_mod c (2 ^ (tz c + 1))
  have p2 : 2 ^ (tz c + 1) = 2 * 2 ^ tz c := by rw [Nat.pow_succ, Nat.mul_comm]
  rw [h1] at m
  generalize hD : c / 2 ^ (tz c + 1) = D at m ⊢
  rw [show c - 1 = (2 ^ tz c - 1) + 2 ^ (tz c + 1) * D by omega, Nat.add_mul_div_left _ _ (Nat.two_pow_pos _), Nat.div_eq_of_lt (by omega), Nat.zero_add]
theorem tz_n {n c : Nat} (hn : n ≤ 12) (hc : c < 2 ^ n) (h0 : 0 < c) : tz c + 1 ≤ n := by
  have h1 := (tz_ok c (Nat.lt_of_lt_of_le hc (p12 n hn).2) h0).2
  have h2 : 2 ^ tz c ≤ c := by rw [← h1]; exact Nat.mod_le _ _
  exact (Nat.pow_lt_pow_iff_right (by decide : 1 < 2)).mp (Nat.lt_of_le_of_lt h2 hc)
def un (n c : Nat) : Nat := if c = 0 then n else tz c + 1
theorem un_min {n c : Nat} (hn : n ≤ 12) (hc : c < 2 ^ n) : min n (ub c) = un n c := by
  unfold ub un
  split
  · exact Nat.min_eq_left (by omega)
  · exact Nat.min_eq_right (tz_n hn hc (by omega))
theorem un_le {n c : Nat} (hn : n ≤ 12) (hc : c < 2 ^ n) : un n c ≤ n := by
  unfold un
  split
  · exact Nat.le_refl _
  · exact tz_n hn hc (by omega)
theorem Ar.init {σ : Sg} {T n c : Nat} {ρ : Rho} (hn : n ≤ 12) (hc : c < 2 ^ n) (h : Ar σ T (bc n (c - 1)) ρ (if c = 0 then 0 else n)) : Ar σ T (bc n c) ρ (n - un n c) := by
  by_cases e : c = 0
  · rw [if_pos e] at h
    rw [un, if_pos e, Nat.sub_self]
    exact h.cg (Nat.le_refl _) (fun i hi => absurd hi (Nat.not_lt_zero _))
  · rw [if_neg e] at h
    rw [un, if_neg e]
    exact h.cg (Nat.sub_le _ _) (fun i hi => bc_pre hn hc (by omega) hi)
/-- the four answers so far -/
def Sc (σ : Sg) (T n : Nat) (ρ : Rho) (c : Nat) : Prop := ρ.1 32 5 = nI (aN σ T n (rh n) c) ∧ ρ.1 32 6 = fst (aX σ T n (rh n) c) ∧ ρ.1 32 7 = aW σ T n (rh n) c ∧ ρ.1 32 8 = aO σ T n (rh n) c
theorem Sc.fr {σ : Sg} {T n c : Nat} {ρ ρ2 : Rho} {S : List Nat} (h : Sc σ T n ρ c) (f : Fr S ρ ρ2) (hS : 32 ∉ S) : Sc σ T n ρ2 c := by
  unfold Sc
  rw [(f 32 hS).1]; exact h
theorem CP.hv {σ : Sg} {S : List Nat} {ρ ρ2 : Rho} (h : CP σ ρ) (f : Fr S ρ ρ2) (hS : ∀ k ∈ [0, 1, 2, 5, 10, 11, 12, 13, 14, 27, 28, 33, 39, 40, 41, 42, 43, 44, 45, 46], k ∉ S) (hv : HV ρ2) : CP σ ρ2 := by
  have ne : ∀ a, a ∈ [0, 1, 2, 5, 10, 11, 12, 13, 14, 27, 28, 33, 39, 40, 41, 42, 43, 44, 45, 46] → ρ2.1 a = ρ.1 a := fun a ha => (f a (hS a ha)).1
  refine ⟨h.1, fun q hq i => ?_, fun q hq i => ?_, fun q hq => ?_, fun t ht => ?_, hv⟩
  · rw [ne q.1 (by rcases mN_in hq with e | e | e | e | e | e | e <;> cases e <;> decide)]; exact h.2.1 q hq i
  · rw [ne q.1 (by rcases mZ_in hq with e | e <;> cases e <;> decide)]; exact h.2.2.1 q hq i
  · rw [ne q.1 (by rcases mS_in hq with e | e | e | e | e | e | e <;> cases e <;> decide)]; exact h.2.2.2.1 q hq
  · obtain ⟨h1, h2, h3, h4⟩ := h.2.2.2.2.1 t ht
    have e1 : ρ2.1 (39 + t) = ρ.1 (39 + t) := ne _ (by match t, ht with | 0, _ => decide | 1, _ => decide | 2, _ => decide | 3, _ => decide)
    have e2 : ρ2.1 (43 + t) = ρ.1 (43 + t) := ne _ (by match t, ht with | 0, _ => decide | 1, _ => decide | 2, _ => decide | 3, _ => decide)
    rw [e1, e2]
    exact ⟨h1, h2, h3, h4⟩
section
variable {M : Mth} {j pc nx : Nat} {ls : List (Option Value)} {st : List Value} {ρ : Rho} {Q : Option Value → Rho → Prop}
theorem w_ishlN {a k : Nat} (hd : D0 M pc .ishl 1 nx) (hk : k < 31) (h : a * 2 ^ k < 2 ^ 32) (c : MW M j nx ls (.int (nI (a * 2 ^ k)) :: st) ρ Q) : MW M j pc ls (.int (nI k) :: .int (nI a) :: st) ρ Q := w_ishl hd (by
  rw [pk_shlN (n := a) _ k (shk k (by omega)) h]; exact c)
end
