/-! ways -/
abbrev stE (σ : Sg) (t v s : Nat) : Prop :=
  (v < 8 ∧ s < 8 ∧ ((v + 1) % 8 = s ∨ (s + 1) % 8 = v)) ∨ (v < 8 ∧ 8 ≤ s ∧ (v + t) % 8 = s - 8) ∨ (8 ≤ v ∧ s < 8 ∧ (s + t) % 8 = v - 8) ∨
  (8 ≤ v ∧ 8 ≤ s ∧ (((v - 8 + 1) % 8 = s - 8 ∧ Cl σ (v - 8) = 0) ∨ ((s - 8 + 1) % 8 = v - 8 ∧ Cl σ (s - 8) = 0) ∨ Ovr σ (v - 8) (s - 8) t))
/-- the fewest STEPS behind one more DAY, from the first k spots -/
def mnE (σ : Sg) (t : Nat) (f : Nat → Nat) (s : Nat) : Nat → Nat
  | 0 => f s
  | k + 1 => if stE σ t k s then min (mnE σ t f s k) (f k + 1) else mnE σ t f s k
theorem mnE_le (σ : Sg) (t : Nat) (f : Nat → Nat) (s : Nat) : ∀ k, mnE σ t f s k ≤ f s
  | 0 => Nat.le_refl _
  | k + 1 => by
    have := mnE_le σ t f s k
    unfold mnE
    split <;> omega
theorem mnE_y {σ : Sg} {t : Nat} {f : Nat → Nat} {s k : Nat} (h : stE σ t k s) (h2 : f k + 1 < mnE σ t f s k) : mnE σ t f s (k + 1) = f k + 1 := by
  rw [mnE, if_pos h]; omega
theorem mnE_n {σ : Sg} {t : Nat} {f : Nat → Nat} {s k : Nat} (h : ¬ stE σ t k s) : mnE σ t f s (k + 1) = mnE σ t f s k := by
  rw [mnE, if_neg h]
theorem mnE_g {σ : Sg} {t : Nat} {f : Nat → Nat} {s k : Nat} (h2 : mnE σ t f s k ≤ f k + 1) : mnE σ t f s (k + 1) = mnE σ t f s k := by
  rw [mnE]
  split
  · rw [Nat.min_eq_left h2]
  · rfl
theorem mnE_s {σ : Sg} {t : Nat} {f : Nat → Nat} {s k : Nat} (h2 : k = s) : mnE σ t f s (k + 1) = mnE σ t f s k := mnE_g (by subst h2; have := mnE_le σ t f k k; omega)
/-- least over an edge relation -/
def Lm (f : Nat → Nat) (E : Nat → Nat → Prop) (G : Nat → Nat) : Prop := ∀ s, s < 16 → G s ≤ f s ∧ (∀ v, v < 16 → E v s → G s ≤ f v + 1) ∧ (G s = f s ∨ ∃ v, v < 16 ∧ E v s ∧ G s = f v + 1)
theorem mnE_lo {σ : Sg} {t : Nat} {f : Nat → Nat} {s v : Nat} (h : stE σ t v s) : ∀ k, v < k → mnE σ t f s k ≤ f v + 1
  | 0, h => absurd h (Nat.not_lt_zero _)
  | k + 1, hk => by
    by_cases e : v = k
    · subst e; rw [mnE, if_pos h]; omega
    · have := mnE_lo h k (by omega) (f := f)
      unfold mnE
      split <;> omega
theorem mnE_at (σ : Sg) (t : Nat) (f : Nat → Nat) (s : Nat) : ∀ k, mnE σ t f s k = f s ∨ ∃ v, v < k ∧ stE σ t v s ∧ mnE σ t f s k = f v + 1
  | 0 => Or.inl rfl
  | k + 1 => by
    have ih := mnE_at σ t f s k
    by_cases c : stE σ t k s
    · by_cases g : f k + 1 < mnE σ t f s k
      · exact Or.inr ⟨k, by omega, c, mnE_y c g⟩
      · rw [mnE_g (by omega)]
        rcases ih with e | ⟨v, hv, hE, e⟩
        · exact Or.inl e
        · exact Or.inr ⟨v, by omega, hE, e⟩
    · rw [mnE_n c]
      rcases ih with e | ⟨v, hv, hE, e⟩
      · exact Or.inl e
      · exact Or.inr ⟨v, by omega, hE, e⟩
theorem Lm_mnE {σ : Sg} {t : Nat} {f G : Nat → Nat} {E : Nat → Nat → Prop} (h : Lm f E G) (he : ∀ v s, v < 16 → s < 16 → (E v s ↔ stE σ t v s)) : ∀ s, s < 16 → G s = mnE σ t f s 16 := fun s hs => by
  obtain ⟨h1, h2, h3⟩ := h s hs
  apply Nat.le_antisymm
  · rcases mnE_at σ t f s 16 with e | ⟨v, hv, hE, e⟩
    · rw [e]; exact h1
    · rw [e]; exact h2 v hv ((he v s hv hs).mpr hE)
  · rcases h3 with e | ⟨v, hv, hE, e⟩
    · rw [e]; exact mnE_le σ t f s 16
    · rw [e]; exact mnE_lo ((he v s hv hs).mp hE) 16 hv
def jnG (f G : Nat → Nat) (a b : Nat) : Nat → Nat := va_up (va_up G a (min (G a) (f b + 1))) b (min (G b) (f a + 1))
def jnE (E : Nat → Nat → Prop) (a b : Nat) : Nat → Nat → Prop := fun v s => E v s ∨ (v = a ∧ s = b) ∨ (v = b ∧ s = a)
theorem Lm_jn {f G : Nat → Nat} {E : Nat → Nat → Prop} {a b : Nat} (h : Lm f E G) (ha : a < 16) (hb : b < 16) (hab : a ≠ b) : Lm f (jnE E a b) (jnG f G a b) := fun s hs => by
  obtain ⟨h1, h2, h3⟩ := h s hs
  have ga : jnG f G a b a = min (G a) (f b + 1) := by unfold jnG; rw [vup_ne hab, va_up_eq]
  have gb : jnG f G a b b = min (G b) (f a + 1) := by unfold jnG; rw [va_up_eq]
  have gn : s ≠ a → s ≠ b → jnG f G a b s = G s := fun e1 e2 => by unfold jnG; rw [vup_ne e2, vup_ne e1]
  by_cases ea : s = a
  · subst ea
    rw [ga]
    refine ⟨by omega, fun v hv hE => ?_, ?_⟩
    · rcases hE with hE | ⟨e1, e2⟩ | ⟨e1, e2⟩
      · have := h2 v hv hE; omega
      · exact absurd e2 hab
      · subst e1; omega
    · by_cases c : G s ≤ f b + 1
      · rw [Nat.min_eq_left c]
        rcases h3 with e | ⟨v, hv, hE, e⟩
        · exact Or.inl e
        · exact Or.inr ⟨v, hv, Or.inl hE, e⟩
      · exact Or.inr ⟨b, hb, Or.inr (Or.inr ⟨rfl, rfl⟩), by omega⟩
  · by_cases eb : s = b
    · subst eb
      rw [gb]
      refine ⟨by omega, fun v hv hE => ?_, ?_⟩
      · rcases hE with hE | ⟨e1, e2⟩ | ⟨e1, e2⟩
        · have := h2 v hv hE; omega
        · subst e1; omega
        · exact absurd e2 ea
      · by_cases c : G s ≤ f a + 1
        · rw [Nat.min_eq_left c]
          rcases h3 with e | ⟨v, hv, hE, e⟩
          · exact Or.inl e
          · exact Or.inr ⟨v, hv, Or.inl hE, e⟩
        · exact Or.inr ⟨a, ha, Or.inr (Or.inl ⟨rfl, rfl⟩), by omega⟩
    · rw [gn ea eb]
      refine ⟨h1, fun v hv hE => ?_, ?_⟩
      · rcases hE with hE | ⟨e1, e2⟩ | ⟨e1, e2⟩
        · exact h2 v hv hE
        · exact absurd e2 eb
        · exact absurd e2 ea
      · rcases h3 with e | ⟨v, hv, hE, e⟩
        · exact Or.inl e
        · exact Or.inr ⟨v, hv, Or.inl hE, e⟩
theorem Lm_iff {f G : Nat → Nat} {E E2 : Nat → Nat → Prop} (h : Lm f E G) (he : ∀ v s, E v s ↔ E2 v s) : Lm f E2 G := fun s hs => by
  obtain ⟨h1, h2, h3⟩ := h s hs
  refine ⟨h1, fun v hv hE => h2 v hv ((he v s).mpr hE), ?_⟩
  rcases h3 with e | ⟨v, hv, hE, e⟩
  · exact Or.inl e
  · exact Or.inr ⟨v, hv, (he v s).mp hE, e⟩
theorem Lm_0 (f : Nat → Nat) : Lm f (fun _ _ => False) f := fun s _ => ⟨Nat.le_refl _, fun _ _ h => h.elim, Or.inl rfl⟩
/-- the class's edges -/
def eH (σ : Sg) (t h v s : Nat) : Prop := (v = h ∧ s = (h + 1) % 8) ∨ (v = (h + 1) % 8 ∧ s = h) ∨ (v = h ∧ s = 8 + (h + t) % 8) ∨ (v = 8 + (h + t) % 8 ∧ s = h) ∨ (Cl σ h = 0 ∧ ((v = 8 + h ∧ s = 8 + (h + 1) % 8) ∨ (v = 8 + (h + 1) % 8 ∧ s = 8 + h)))
def eK (σ : Sg) (t k v s : Nat) : Prop := t % Br σ (4 * k + 2) = Br σ (4 * k + 3) ∧ ((v = 8 + Br σ (4 * k) ∧ s = 8 + Br σ (4 * k + 1)) ∨ (v = 8 + Br σ (4 * k + 1) ∧ s = 8 + Br σ (4 * k)))
def eS (σ : Sg) (t m n : Nat) : Nat → Nat → Prop := fun v s => (∃ h, h < m ∧ eH σ t h v s) ∨ (∃ k, k < n ∧ eK σ t k v s)
theorem eS_0 (σ : Sg) (t v s : Nat) : False ↔ eS σ t 0 0 v s := ⟨fun h => h.elim, fun h => by rcases h with ⟨h, h1, _⟩ | ⟨h, h1, _⟩ <;> omega⟩
theorem eS_h1 {σ : Sg} {t m v s : Nat} (c : Cl σ m = 0) : jnE (jnE (jnE (eS σ t m 0) m ((m + 1) % 8)) m (8 + (m + t) % 8)) (8 + m) (8 + (m + 1) % 8) v s ↔ eS σ t (m + 1) 0 v s := by
  unfold jnE eS
  constructor
  · rintro ((((⟨h, hh, e⟩ | ⟨k, hk, _⟩) | e | e) | e | e) | e | e)
    · exact Or.inl ⟨h, by omega, e⟩
    · omega
    · exact Or.inl ⟨m, by omega, Or.inl e⟩
    · exact Or.inl ⟨m, by omega, Or.inr (Or.inl e)⟩
    · exact Or.inl ⟨m, by omega, Or.inr (Or.inr (Or.inl e))⟩
    · exact Or.inl ⟨m, by omega, Or.inr (Or.inr (Or.inr (Or.inl e)))⟩
    · exact Or.inl ⟨m, by omega, Or.inr (Or.inr (Or.inr (Or.inr ⟨c, Or.inl e⟩)))⟩
    · exact Or.inl ⟨m, by omega, Or.inr (Or.inr (Or.inr (Or.inr ⟨c, Or.inr e⟩)))⟩
  · rintro (⟨h, hh, e⟩ | ⟨k, hk, _⟩)
    · by_cases q : h = m
      · subst q
        rcases e with e | e | e | e | ⟨_, e | e⟩
        · exact Or.inl (Or.inl (Or.inr (Or.inl e)))
        · exact Or.inl (Or.inl (Or.inr (Or.inr e)))
        · exact Or.inl (Or.inr (Or.inl e))
        · exact Or.inl (Or.inr (Or.inr e))
        · exact Or.inr (Or.inl e)
        · exact Or.inr (Or.inr e)
      · exact Or.inl (Or.inl (Or.inl (Or.inl ⟨h, by omega, e⟩)))
    · omega
theorem eS_h0 {σ : Sg} {t m v s : Nat} (c : Cl σ m ≠ 0) : jnE (jnE (eS σ t m 0) m ((m + 1) % 8)) m (8 + (m + t) % 8) v s ↔ eS σ t (m + 1) 0 v s := by
  unfold jnE eS
  constructor
  · rintro (((⟨h, hh, e⟩ | ⟨k, hk, _⟩) | e | e) | e | e)
    · exact Or.inl ⟨h, by omega, e⟩
    · omega
    · exact Or.inl ⟨m, by omega, Or.inl e⟩
    · exact Or.inl ⟨m, by omega, Or.inr (Or.inl e)⟩
    · exact Or.inl ⟨m, by omega, Or.inr (Or.inr (Or.inl e))⟩
    · exact Or.inl ⟨m, by omega, Or.inr (Or.inr (Or.inr (Or.inl e)))⟩
  · rintro (⟨h, hh, e⟩ | ⟨k, hk, _⟩)
    · by_cases q : h = m
      · subst q
        rcases e with e | e | e | e | ⟨q, _⟩
        · exact Or.inl (Or.inr (Or.inl e))
        · exact Or.inl (Or.inr (Or.inr e))
        · exact Or.inr (Or.inl e)
        · exact Or.inr (Or.inr e)
        · exact absurd q c
      · exact Or.inl (Or.inl (Or.inl ⟨h, by omega, e⟩))
    · omega
theorem eS_k1 {σ : Sg} {t n v s : Nat} (c : t % Br σ (4 * n + 2) = Br σ (4 * n + 3)) : jnE (eS σ t 8 n) (8 + Br σ (4 * n)) (8 + Br σ (4 * n + 1)) v s ↔ eS σ t 8 (n + 1) v s := by
  unfold jnE eS
  constructor
  · rintro ((e | ⟨k, hk, e⟩) | e | e)
    · exact Or.inl e
    · exact Or.inr ⟨k, by omega, e⟩
    · exact Or.inr ⟨n, by omega, c, Or.inl e⟩
    · exact Or.inr ⟨n, by omega, c, Or.inr e⟩
  · rintro (e | ⟨k, hk, e⟩)
    · exact Or.inl (Or.inl e)
    · by_cases q : k = n
      · subst q
        rcases e.2 with e | e
        · exact Or.inr (Or.inl e)
        · exact Or.inr (Or.inr e)
      · exact Or.inl (Or.inr ⟨k, by omega, e⟩)
theorem eS_k0 {σ : Sg} {t n v s : Nat} (c : ¬ t % Br σ (4 * n + 2) = Br σ (4 * n + 3)) : eS σ t 8 n v s ↔ eS σ t 8 (n + 1) v s := by
  unfold eS
  constructor
  · rintro (e | ⟨k, hk, e⟩)
    · exact Or.inl e
    · exact Or.inr ⟨k, by omega, e⟩
  · rintro (e | ⟨k, hk, e⟩)
    · exact Or.inl e
    · by_cases q : k = n
      · subst q; exact absurd e.1 c
      · exact Or.inr ⟨k, by omega, e⟩
theorem ovN_ex {σ : Sg} {a b t : Nat} : ∀ n, ovN σ a b t n = true → ∃ k, k < n ∧ ovK σ a b t k
  | 0, h => by cases h
  | n + 1, h => by
    unfold ovN at h
    rcases (Bool.or_eq_true _ _).mp h with h | h
    · obtain ⟨k, hk, e⟩ := ovN_ex n h; exact ⟨k, by omega, e⟩
    · exact ⟨n, by omega, of_decide_eq_true h⟩
theorem eS_st (σ : Sg) (t v s : Nat) (hv : v < 16) (hs : s < 16) : eS σ t 8 (NB σ) v s ↔ stE σ t v s := by
  have hB := (NB_ok σ).2
  constructor
  · rintro (⟨h, hh, e⟩ | ⟨k, hk, hm, e⟩)
    · rcases e with ⟨rfl, rfl⟩ | ⟨rfl, rfl⟩ | ⟨rfl, rfl⟩ | ⟨rfl, rfl⟩ | ⟨c, ⟨rfl, rfl⟩ | ⟨rfl, rfl⟩⟩
      · exact Or.inl ⟨by omega, by omega, by omega⟩
      · exact Or.inl ⟨by omega, by omega, by omega⟩
      · exact Or.inr (Or.inl ⟨by omega, by omega, by omega⟩)
      · exact Or.inr (Or.inr (Or.inl ⟨by omega, by omega, by omega⟩))
      · exact Or.inr (Or.inr (Or.inr ⟨by omega, by omega, Or.inl ⟨by omega, by rw [show 8 + h - 8 = h by omega]; exact c⟩⟩))
      · exact Or.inr (Or.inr (Or.inr ⟨by omega, by omega, Or.inr (Or.inl ⟨by omega, by rw [show 8 + h - 8 = h by omega]; exact c⟩)⟩))
    · rcases e with ⟨rfl, rfl⟩ | ⟨rfl, rfl⟩
      · refine Or.inr (Or.inr (Or.inr ⟨by omega, by omega, Or.inr (Or.inr (ovN_t (k := k) ⟨Or.inl ⟨by omega, by omega⟩, hm⟩ _ hk))⟩))
      · refine Or.inr (Or.inr (Or.inr ⟨by omega, by omega, Or.inr (Or.inr (ovN_t (k := k) ⟨Or.inr ⟨by omega, by omega⟩, hm⟩ _ hk))⟩))
  · rintro (⟨h1, h2, h3 | h3⟩ | ⟨h1, h2, h3⟩ | ⟨h1, h2, h3⟩ | ⟨h1, h2, ⟨h3, c⟩ | ⟨h3, c⟩ | h3⟩)
    · exact Or.inl ⟨v, h1, Or.inl ⟨rfl, h3.symm⟩⟩
    · exact Or.inl ⟨s, h2, Or.inr (Or.inl ⟨h3.symm, rfl⟩)⟩
    · exact Or.inl ⟨v, h1, Or.inr (Or.inr (Or.inl ⟨rfl, by omega⟩))⟩
    · exact Or.inl ⟨s, h2, Or.inr (Or.inr (Or.inr (Or.inl ⟨by omega, rfl⟩)))⟩
    · exact Or.inl ⟨v - 8, by omega, Or.inr (Or.inr (Or.inr (Or.inr ⟨c, Or.inl ⟨by omega, by omega⟩⟩)))⟩
    · exact Or.inl ⟨s - 8, by omega, Or.inr (Or.inr (Or.inr (Or.inr ⟨c, Or.inr ⟨by omega, by omega⟩⟩)))⟩
    · obtain ⟨k, hk, ⟨e1, e2⟩ | ⟨e1, e2⟩, hm⟩ := ovN_ex _ h3
      · exact Or.inr ⟨k, hk, hm, Or.inl ⟨by omega, by omega⟩⟩
      · exact Or.inr ⟨k, hk, hm, Or.inr ⟨by omega, by omega⟩⟩
/-- the fewest STEPS behind i DAYS from the DAY a on; F is far -/
def stp (σ : Sg) (F r a : Nat) : Nat → Nat → Nat
  | 0, s => if s = r then 0 else F
  | i + 1, s => mnE σ (Tn σ (a + i)) (stp σ F r a i) s 16
theorem mnE_far {σ : Sg} {t i : Nat} {f g : Nat → Nat} (hi : i ≤ 100) (h : ∀ s, (f s ≤ i ∧ g s = f s) ∨ (f s = 1000 ∧ g s = 100000)) (s : Nat) : ∀ k, (mnE σ t f s k ≤ i + 1 ∧ mnE σ t g s k = mnE σ t f s k) ∨ (mnE σ t f s k = 1000 ∧ mnE σ t g s k = 100000)
  | 0 => by
    show (f s ≤ i + 1 ∧ g s = f s) ∨ (f s = 1000 ∧ g s = 100000)
    have := h s
    omega
  | k + 1 => by
    have ih := mnE_far hi h s k (t := t) (σ := σ)
    have hk := h k
    unfold mnE
    by_cases c : stE σ t k s
    · rw [if_pos c, if_pos c]
      omega
    · rw [if_neg c, if_neg c]
      exact ih
theorem stp_far (σ : Sg) (r a : Nat) : ∀ i, i ≤ 100 → ∀ s, (stp σ 1000 r a i s ≤ i ∧ stp σ 100000 r a i s = stp σ 1000 r a i s) ∨ (stp σ 1000 r a i s = 1000 ∧ stp σ 100000 r a i s = 100000)
  | 0, _, s => by
    unfold stp
    split
    · exact Or.inl ⟨Nat.le_refl _, rfl⟩
    · exact Or.inr ⟨rfl, rfl⟩
  | i + 1, hi, s => mnE_far (by omega) (stp_far σ r a i (by omega)) s 16
/-- the first index of a kind -/
def fi (P : Nat → Bool) : Nat → Nat → Nat
  | 0, i => i
  | n + 1, i => if P i then i else fi P n (i + 1)
theorem fi_y {P : Nat → Bool} {n i : Nat} (hn : 0 < n) (h : P i = true) : fi P n i = i := by
  cases n with
  | zero => omega
  | succ n => rw [fi, if_pos h]
theorem fi_n {P : Nat → Bool} {n i : Nat} (hn : 0 < n) (h : P i = false) : fi P n i = fi P (n - 1) (i + 1) := by
  cases n with
  | zero => omega
  | succ n => rw [fi, h]; rfl
theorem fi_le (P : Nat → Bool) : ∀ n i, i ≤ fi P n i ∧ fi P n i ≤ i + n
  | 0, i => ⟨Nat.le_refl _, Nat.le_refl _⟩
  | n + 1, i => by
    have := fi_le P n (i + 1)
    unfold fi
    split <;> omega
def onB (σ : Sg) (r a p i : Nat) : Bool := decide (stp σ 1000 r a (i + 1) (8 + p) < 1000)
def snI (σ : Sg) (r p a : Nat) : Nat := fi (onB σ r a p) (100 - a) 0
def v_soon (σ : Sg) (r p a w : Nat) : Int32 := if snI σ r p a < 100 - a then nI (if w = 0 then a + snI σ r p a else stp σ 1000 r a (snI σ r p a + 1) (8 + p)) else -1
def mtB (σ : Sg) (r q a i p : Nat) : Bool := onB σ r a p i && onB σ q a p i
def mtP (σ : Sg) (r q a i : Nat) : Nat := fi (mtB σ r q a i) 8 0
def mtD (σ : Sg) (r q a : Nat) : Nat := fi (fun i => decide (mtP σ r q a i < 8)) (100 - a) 0
def v_meet (σ : Sg) (r q a w : Nat) : Int32 := if mtD σ r q a < 100 - a then nI (if w = 0 then a + mtD σ r q a else mtP σ r q a (mtD σ r q a)) else -1
abbrev g_soon (p q d : Int32) : Prop := inR p (nI 0) (nI 7) ∧ inR q (nI 0) (nI 7) ∧ inR d (nI 0) (nI 99)
def r_soon (σ : Sg) (p q d : Int32) : Int32 := if g_soon p q d then v_soon σ (nv p) (nv q) (nv d) 0 else -2
def r_carried (σ : Sg) (p q d : Int32) : Int32 := if g_soon p q d then v_soon σ (nv p) (nv q) (nv d) 1 else -2
abbrev g_meet (p q d w : Int32) : Prop := inR p (nI 0) (nI 7) ∧ inR q (nI 0) (nI 7) ∧ p ≠ q ∧ inR d (nI 0) (nI 99) ∧ inR w (nI 0) (nI 1)
def r_meet (σ : Sg) (p q d w : Int32) : Int32 := if g_meet p q d w then v_meet σ (nv p) (nv q) (nv d) (nv w) else -2
theorem Laid.fr {σ : Sg} {S : List Nat} {ρ ρ2 : Rho} (h : Laid σ ρ) (f : Fr S ρ ρ2) (hS : ∀ k ∈ [47, 49, 50, 51, 58], k ∉ S) : Laid σ ρ2 := by
  refine ⟨⟨fun p hp => ?_, fun p hp => ?_, ?_, fun i hi => ?_⟩, fun d hd => ?_⟩
  · rw [(f 49 (hS 49 (by decide))).1]; exact h.1.1 p hp
  · rw [(f 50 (hS 50 (by decide))).1]; exact h.1.2.1 p hp
  · rw [(f 47 (hS 47 (by decide))).1]; exact h.1.2.2.1
  · rw [(f 51 (hS 51 (by decide))).1]; exact h.1.2.2.2 i hi
  · rw [(f 58 (hS 58 (by decide))).1]; exact h.2 d hd
