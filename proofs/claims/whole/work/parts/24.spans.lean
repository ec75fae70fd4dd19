abbrev spn (f t : Int32) : Prop := inR f (nI 0) (nI 99) ∧ inR t f (nI 99)
theorem spn_nI {f t : Int32} (h : spn f t) : ∃ a b, a ≤ b ∧ b < 100 ∧ f = nI a ∧ t = nI b := by
  obtain ⟨a, ha, rfl⟩ := inR_nI h.1 (by decide)
  obtain ⟨b, hb0, hb, rfl⟩ := inR_nI2 h.2 (by omega) (by decide)
  exact ⟨a, b, hb0, by omega, rfl, rfl⟩
theorem spn_to {f t : Int32} (h : spn f t) : inR t (nI 0) (nI 99) := ⟨Int32.le_trans h.1.1 h.2.1, h.2.2⟩
/-! sums by TURNS -/
theorem sumN_ind {g : Nat → Nat} {T : Nat} : ∀ m, T < m → sumN (fun t => if T = t then g t else 0) m = g T
  | 0, h => absurd h (Nat.not_lt_zero _)
  | m + 1, h => by
    simp only [sumN]
    by_cases e : T = m
    · subst e
      rw [if_pos rfl, sumN_congr T (g := fun _ => 0) (fun i hi => if_neg (by omega)), sumN_0]
      omega
    · rw [if_neg e, sumN_ind m (by omega)]
      rfl
theorem tal_sum (σ : Sg) (f : Nat → Nat) (a : Nat) : ∀ n, sumN (fun t => tal σ a n t * f t) 8 = sumN (fun i => f (Tn σ (a + i))) n
  | 0 => by
    rw [sumN_congr 8 (g := fun _ => 0) (fun i _ => by show 0 * _ = 0; omega), sumN_0]
    rfl
  | n + 1 => by
    have e : sumN (fun i => f (Tn σ (a + i))) (n + 1) = sumN (fun t => tal σ a n t * f t) 8 + sumN (fun t => if Tn σ (a + n) = t then f t else 0) 8 := by
      rw [tal_sum σ f a n, sumN_ind (g := f) 8 (Tn_lt σ (a + n))]; rfl
    rw [e, ← sumN_add]
    refine sumN_congr 8 (fun t _ => ?_)
    rw [tal_s]
    by_cases e : Tn σ (a + n) = t
    · rw [if_pos e, if_pos e, Nat.add_mul, Nat.one_mul]
    · rw [if_neg e, if_neg e, Nat.add_zero, Nat.add_zero]
/-- DAYS of a THING, SUN, JOY over n DAYS from a on -/
def dyN (σ : Sg) (r y a n : Nat) : Nat := sumN (fun i => if Th σ (dr σ r (a + i)) = y then 1 else 0) n
def shN (σ : Sg) (r a n : Nat) : Nat := sumN (fun i => σ.1 52 (dr σ r (a + i))) n
def jyN (σ : Sg) (t r a n : Nat) : Nat := sumN (fun i => σ.1 62 (5 * t + Th σ (dr σ r (a + i)))) n
theorem dyN_le (σ : Sg) (r y a n : Nat) : dyN σ r y a n ≤ n * 1 := sumN_le n (fun i _ => by split <;> omega)
theorem shN_le {σ : Sg} (h : Wf σ) (r a n : Nat) : shN σ r a n ≤ n * 9 := sumN_le n (fun i _ => h.suns _)
theorem jyN_le {σ : Sg} (h : Wf σ) (t r a n : Nat) : jyN σ t r a n ≤ n * 9 := sumN_le n (fun i _ => h.wish _)
theorem dyN_s (σ : Sg) (r y a n : Nat) : dyN σ r y a (n + 1) = dyN σ r y a n + if Th σ (dr σ r (a + n)) = y then 1 else 0 := rfl
/-- the class's sums -/
def dyC (σ : Sg) (r y a n k : Nat) : Nat := sumN (fun t => if Th σ ((r + t) % 8) = y then tal σ a n t else 0) k
def shC (σ : Sg) (r a n k : Nat) : Nat := sumN (fun t => tal σ a n t * σ.1 52 ((r + t) % 8)) k
def jyC (σ : Sg) (t0 r a n k : Nat) : Nat := sumN (fun t => tal σ a n t * σ.1 62 (t0 * 5 + Th σ ((r + t) % 8))) k
theorem dyC_8 (σ : Sg) (r y a n : Nat) : dyC σ r y a n 8 = dyN σ r y a n := by
  unfold dyC
  have e : dyN σ r y a n = _ := (tal_sum σ (fun t => if Th σ ((r + t) % 8) = y then 1 else 0) a n).symm
  rw [e]
  refine sumN_congr 8 (fun t _ => ?_)
  split <;> omega
theorem shC_8 (σ : Sg) (r a n : Nat) : shC σ r a n 8 = shN σ r a n := tal_sum σ (fun t => σ.1 52 ((r + t) % 8)) a n
theorem jyC_8 (σ : Sg) (t0 r a n : Nat) : jyC σ t0 r a n 8 = jyN σ t0 r a n := by
  unfold jyC jyN
  rw [tal_sum σ (fun t => σ.1 62 (t0 * 5 + Th σ ((r + t) % 8))) a n, Nat.mul_comm t0 5]
  rfl
theorem dyC_le (σ : Sg) (r y a n k : Nat) : dyC σ r y a n k ≤ k * (n * 1) := sumN_le k (fun i _ => by have := tal_le σ a n i; split <;> omega)
theorem shC_le {σ : Sg} (h : Wf σ) (r a n k : Nat) (hn : n ≤ 100) : shC σ r a n k ≤ k * 900 := sumN_le k (fun i _ => by
  have h1 := tal_le σ a n i
  have h2 := h.suns ((r + i) % 8)
  calc tal σ a n i * σ.1 52 ((r + i) % 8) ≤ 100 * 9 := Nat.mul_le_mul (by omega) h2
    _ = 900 := rfl)
theorem jyC_le {σ : Sg} (h : Wf σ) (t0 r a n k : Nat) (hn : n ≤ 100) : jyC σ t0 r a n k ≤ k * 900 := sumN_le k (fun i _ => by
  have h1 := tal_le σ a n i
  have h2 := h.wish (t0 * 5 + Th σ ((r + i) % 8))
  calc tal σ a n i * σ.1 62 (t0 * 5 + Th σ ((r + i) % 8)) ≤ 100 * 9 := Nat.mul_le_mul (by omega) h2
    _ = 900 := rfl)
/-! who is ahead -/
def bsR (σ : Sg) (y a n : Nat) : Nat → Nat
  | 0 => 0
  | k + 1 => if dyN σ (bsR σ y a n k) y a n < dyN σ k y a n then k else bsR σ y a n k
def fwR (σ : Sg) (y a n : Nat) : Nat → Nat
  | 0 => 100
  | k + 1 => min (fwR σ y a n k) (dyN σ k y a n)
theorem bsR_lt (σ : Sg) (y a n : Nat) : ∀ k, bsR σ y a n k ≤ k
  | 0 => Nat.le_refl _
  | k + 1 => by
    unfold bsR
    have := bsR_lt σ y a n k
    split <;> omega
theorem bsR_lt8 (σ : Sg) (y a n k : Nat) (h : k ≤ 8) : bsR σ y a n k < 8 := by
  cases k with
  | zero => show 0 < 8; decide
  | succ k =>
    unfold bsR
    have := bsR_lt σ y a n k
    split <;> omega
theorem fwR_le (σ : Sg) (y a n : Nat) : ∀ k, fwR σ y a n k ≤ 100
  | 0 => Nat.le_refl _
  | k + 1 => by
    unfold fwR
    have := fwR_le σ y a n k
    omega
/-! the first DAY of a TURN of a kind -/
def fnT (σ : Sg) (p : Nat → Bool) : Nat → Nat
  | 0 => 100
  | n + 1 => if p (Tn σ (100 - (n + 1))) then 100 - (n + 1) else fnT σ p n
def mnT (p : Nat → Bool) (f : Nat → Nat) : Nat → Nat
  | 0 => 100
  | k + 1 => if p k then min (mnT p f k) (f k) else mnT p f k
theorem ffn_ge (σ : Sg) (t : Nat) : ∀ n, n ≤ 100 → 100 - n ≤ ffn σ n t ∧ ffn σ n t ≤ 100
  | 0, _ => ⟨Nat.le_refl _, Nat.le_refl _⟩
  | n + 1, h => by
    unfold ffn
    have := ffn_ge σ t n (by omega)
    split <;> omega
theorem mnT_le (p : Nat → Bool) (f : Nat → Nat) : ∀ k, mnT p f k ≤ 100
  | 0 => Nat.le_refl _
  | k + 1 => by
    unfold mnT
    have := mnT_le p f k
    split <;> omega
theorem mnT_congr {p : Nat → Bool} {f g : Nat → Nat} : ∀ k, (∀ t, t < k → p t = true → f t = g t) → mnT p f k = mnT p g k
  | 0, _ => rfl
  | k + 1, h => by
    unfold mnT
    rw [mnT_congr k (fun t ht => h t (by omega))]
    by_cases c : p k = true
    · rw [if_pos c, if_pos c, h k (by omega) c]
    · rw [if_neg c, if_neg c]
theorem mnT_ge {p : Nat → Bool} {f : Nat → Nat} {D : Nat} (hD : D ≤ 100) : ∀ k, (∀ t, t < k → p t = true → D ≤ f t) → D ≤ mnT p f k
  | 0, _ => hD
  | k + 1, h => by
    unfold mnT
    have := mnT_ge hD k (fun t ht => h t (by omega))
    by_cases c : p k = true
    · rw [if_pos c]; have := h k (by omega) c; omega
    · rw [if_neg c]; exact this
theorem mnT_at {p : Nat → Bool} {f : Nat → Nat} {T : Nat} (c : p T = true) : ∀ k, T < k → mnT p f k ≤ f T
  | 0, h => absurd h (Nat.not_lt_zero _)
  | k + 1, h => by
    unfold mnT
    by_cases e : T = k
    · subst e; rw [if_pos c]; omega
    · have := mnT_at (f := f) c k (by omega)
      split <;> omega
theorem mn_fn (σ : Sg) (p : Nat → Bool) : ∀ n, n ≤ 100 → mnT p (ffn σ n) 8 = fnT σ p n
  | 0, _ => by
    show mnT p (fun _ => 100) 8 = 100
    have h1 := mnT_le p (fun _ => 100) 8
    have h2 := mnT_ge (p := p) (f := fun _ => 100) (D := 100) (Nat.le_refl _) 8 (fun _ _ _ => Nat.le_refl _)
    omega
  | n + 1, h => by
    unfold fnT
    have hT := Tn_lt σ (100 - (n + 1))
    by_cases c : p (Tn σ (100 - (n + 1))) = true
    · rw [if_pos c]
      have h1 := mnT_at (f := ffn σ (n + 1)) c 8 hT
      have h2 := mnT_ge (p := p) (f := ffn σ (n + 1)) (D := 100 - (n + 1)) (by omega) 8 (fun t _ _ => (ffn_ge σ t (n + 1) h).1)
      have h3 : ffn σ (n + 1) (Tn σ (100 - (n + 1))) = 100 - (n + 1) := if_pos rfl
      omega
    · rw [if_neg c, ← mn_fn σ p n (by omega)]
      refine mnT_congr 8 (fun t _ ht => ?_)
      show (if Tn σ (100 - (n + 1)) = t then _ else _) = _
      rw [if_neg (fun e => c (by rw [e]; exact ht))]
theorem fnT_s {σ : Sg} {p : Nat → Bool} {d : Nat} (hd : d < 100) : fnT σ p (100 - d) = if p (Tn σ d) then d else fnT σ p (100 - (d + 1)) := by
  rw [show 100 - d = (100 - (d + 1)) + 1 by omega, fnT, show 100 - (100 - (d + 1) + 1) = d by omega]
theorem fnT_b (σ : Sg) (p : Nat → Bool) : ∀ n, n ≤ 100 → 100 - n ≤ fnT σ p n ∧ fnT σ p n ≤ 100
  | 0, _ => ⟨Nat.le_refl _, Nat.le_refl _⟩
  | n + 1, h => by
    unfold fnT
    have := fnT_b σ p n (by omega)
    split <;> omega
abbrev wkP (σ : Sg) (r y z t : Nat) : Prop := Th σ ((r + t) % 8) = y ∧ Th σ ((r + 1 + t) % 8) = z
def wkB (σ : Sg) (r y z t : Nat) : Bool := decide (wkP σ r y z t)
def wlB (σ : Sg) (p r t : Nat) : Bool := decide ((r + t) % 8 = p ∨ Th σ ((r + t) % 8) = 2)
/-- how long a ROW waits: the DAY; the most of the first k ROWS -/
def wF (σ : Sg) (p a r : Nat) : Nat := fnT σ (wlB σ p r) (100 - a)
def wM (σ : Sg) (p a : Nat) : Nat → Nat
  | 0 => 0
  | k + 1 => max (wM σ p a k) (wF σ p a k - a)
abbrev wAll (σ : Sg) (p a n : Nat) : Prop := ∀ r, r < n → wF σ p a r < 100
def v_wait (σ : Sg) (p a : Nat) : Int32 := if wAll σ p a 8 then nI (wM σ p a 8) else -1
theorem wM_le (σ : Sg) (p a : Nat) (ha : a ≤ 100) : ∀ k, wM σ p a k ≤ 100
  | 0 => by show 0 ≤ 100; omega
  | k + 1 => by
    have h1 := wM_le σ p a ha k
    have h2 := (fnT_b σ (wlB σ p k) (100 - a) (by omega)).2
    show max (wM σ p a k) (fnT σ (wlB σ p k) (100 - a) - a) ≤ 100
    omega
def dgS (σ : Sg) (a m : Nat) : Nat → Int32 × Nat
  | 0 => (-1, m + 1)
  | k + 1 => if wAll σ k a 8 ∧ wM σ k a 8 < (dgS σ a m k).2 then (nI k, wM σ k a 8) else dgS σ a m k
theorem dgS_le (σ : Sg) (a m : Nat) : ∀ k, (dgS σ a m k).2 ≤ m + 1
  | 0 => Nat.le_refl _
  | k + 1 => by
    unfold dgS
    have := dgS_le σ a m k
    split
    · rename_i h; exact Nat.le_trans (Nat.le_of_lt h.2) this
    · exact this
/-! lowest terms -/
def lowT (a b w : Nat) : Int64 := if w = 0 then lN (a / Nat.gcd a b) else lN (b / Nat.gcd a b)
theorem lgc0 {a b : Nat} (ha : a < 2 ^ 63) (hb : b < 2 ^ 63) : lg_cmp (lN a) (lN b) = 0 ↔ a = b := by
  unfold lg_cmp
  constructor
  · intro h
    by_cases c : lN a > lN b
    · rw [if_pos c] at h; exact absurd h (by decide)
    · rw [if_neg c] at h
      by_cases e : lN a = lN b
      · exact (pk_lEQ ha hb).mp e
      · rw [if_neg e] at h; exact absurd h (by decide)
  · intro h
    subst h
    rw [if_neg (fun c => absurd ((pk_lLT ha ha).mp c) (by omega)), if_pos rfl]
theorem lgcp {a : Nat} (ha : a < 2 ^ 63) (h : 0 < a) : 0 < lg_cmp (lN a) (lN 0) := by
  unfold lg_cmp
  rw [if_pos ((pk_lLT (by decide) ha).mpr h)]
  decide
section
variable {M : Mth} {j pc nx : Nat} {ls : List (Option Value)} {st : List Value} {ρ : Rho} {Q : Option Value → Rho → Prop}
theorem w_lremL {a b : Nat} (hd : D0 M pc .lrem 1 nx) (ha : a < 2 ^ 63) (h0 : 0 < b) (hb : b < 2 ^ 63) (k : MW M j nx ls (.long (lN (a % b)) :: st) ρ Q) : MW M j pc ls (.long (lN b) :: .long (lN a) :: st) ρ Q := w_lrem hd (fun e => absurd ((pk_lEQ (b := 0) hb (by decide)).mp e) (by omega)) (by rw [pk_lRem ha h0 hb]; exact k)
theorem w_ldivL {a b : Nat} (hd : D0 M pc .ldiv 1 nx) (ha : a < 2 ^ 63) (h0 : 0 < b) (hb : b < 2 ^ 63) (k : MW M j nx ls (.long (lN (a / b)) :: st) ρ Q) : MW M j pc ls (.long (lN b) :: .long (lN a) :: st) ρ Q := w_ldiv hd (fun e => absurd ((pk_lEQ (b := 0) hb (by decide)).mp e) (by omega)) (by rw [pk_lDiv ha h0 hb]; exact k)
theorem w_i2lN {a : Nat} (hd : D0 M pc .i2l 1 nx) (ha : a < 2 ^ 31) (k : MW M j nx ls (.long (lN a) :: st) ρ Q) : MW M j pc ls (.int (nI a) :: st) ρ Q := w_i2l hd (by rw [nI_l ha]; exact k)
end
theorem euclid {d r s : Nat} (hr : 0 < r) (hrd : r ≤ d) (h : d * r * 2 ^ s < 2 ^ 98) : r * (d % r) * 2 ^ (s + 1) < 2 ^ 98 := by
  have h1 : d % r < r := Nat.mod_lt _ hr
  have h2 : 2 * (d % r) ≤ d := by
    have := Nat.div_add_mod d r
    have h3 : 1 ≤ d / r := (Nat.one_le_div_iff hr).mpr hrd
    have h4 : r * 1 ≤ r * (d / r) := Nat.mul_le_mul_left r h3
    omega
  have h5 : r * (d % r) * 2 ^ (s + 1) ≤ d * r * 2 ^ s := by
    calc r * (d % r) * 2 ^ (s + 1) = r * (2 * (d % r)) * 2 ^ s := by rw [Nat.pow_succ]; ac_rfl
      _ ≤ r * d * 2 ^ s := Nat.mul_le_mul_right _ (Nat.mul_le_mul_left _ h2)
      _ = d * r * 2 ^ s := by rw [Nat.mul_comm r d]
  omega
theorem euclid_s {d r s : Nat} (hr : 0 < r) (hd : 0 < d) (h : d * r * 2 ^ s < 2 ^ 98) : s < 98 := by
  rcases Nat.lt_or_ge s 98 with q | q
  · exact q
  · exfalso
    have h1 : 2 ^ 98 ≤ 2 ^ s := Nat.pow_le_pow_right (by decide) q
    have h2 : 1 ≤ d * r := Nat.mul_pos hd hr
    have h3 : 1 * 2 ^ s ≤ d * r * 2 ^ s := Nat.mul_le_mul_right _ h2
    omega
