/-! BEST: bits -/
theorem shk : ∀ k, k < 32 → ((nI k &&& 31).toBitVec.smod 32).toNat = k := by decide +kernel
theorem nI_or (a b : Nat) : nI a ||| nI b = nI (a ||| b) := by
  apply Int32.toBitVec_inj.mp
  show BitVec.ofNat 32 a ||| BitVec.ofNat 32 b = BitVec.ofNat 32 (a ||| b)
  rw [BitVec.ofNat_or]
theorem nI_and (a b : Nat) : nI a &&& nI b = nI (a &&& b) := by
  apply Int32.toBitVec_inj.mp
  show BitVec.ofNat 32 a &&& BitVec.ofNat 32 b = BitVec.ofNat 32 (a &&& b)
  rw [BitVec.ofNat_and]
section
variable {M : Mth} {j pc nx : Nat} {ls : List (Option Value)} {st : List Value} {ρ : Rho} {Q : Option Value → Rho → Prop}
theorem w_ishrN {a k : Nat} (hd : D0 M pc .ishr 1 nx) (ha : a < 2 ^ 31) (hk : k < 32) (c : MW M j nx ls (.int (nI (a / 2 ^ k)) :: st) ρ Q) : MW M j pc ls (.int (nI k) :: .int (nI a) :: st) ρ Q := w_ishr hd (by rw [pk_shrN ha _ k (shk k hk)]; exact c)
theorem w_ishl1 {k : Nat} (hd : D0 M pc .ishl 1 nx) (hk : k < 31) (c : MW M j nx ls (.int (nI (2 ^ k)) :: st) ρ Q) : MW M j pc ls (.int (nI k) :: .int (nI 1) :: st) ρ Q := w_ishl hd (by
  rw [pk_shlN (n := 1) _ k (shk k (by omega)) (by rw [Nat.one_mul]; exact Nat.pow_lt_pow_right (by decide) (by omega)), Nat.one_mul]; exact c)
theorem w_iorN {a b : Nat} (hd : D0 M pc .ior 1 nx) (c : MW M j nx ls (.int (nI (a ||| b)) :: st) ρ Q) : MW M j pc ls (.int (nI b) :: .int (nI a) :: st) ρ Q := w_ior hd (by rw [nI_or]; exact c)
theorem w_iand1 {a : Nat} (hd : D0 M pc .iand 1 nx) (c : MW M j nx ls (.int (nI (a % 2)) :: st) ρ Q) : MW M j pc ls (.int (nI 1) :: .int (nI a) :: st) ρ Q := w_iand hd (by rw [nI_and, Nat.and_one_is_mod]; exact c)
end
def pop (u : Nat) : Nat := sumN (fun i => u / 2 ^ i % 2) 12
theorem pop_lt : ∀ u, u < 255 → pop u < 8 := by decide +kernel
theorem pop_255 : pop 255 = 8 := by decide +kernel
theorem bt_up : ∀ u, u < 256 → ∀ k, k < 8 → u / 2 ^ k % 2 = 0 → u < u ||| 2 ^ k ∧ u ||| 2 ^ k < 256 ∧ pop (u ||| 2 ^ k) = pop u + 1 := by decide +kernel
theorem bt_ex : ∀ u, u < 255 → ∃ k, k < 8 ∧ u / 2 ^ k % 2 = 0 := by decide +kernel
/-! the table -/
def bst (J : Nat → Nat → Nat) (M : Nat → Nat) (u : Nat) : Nat → Nat
  | 0 => 0
  | k + 1 => if u / 2 ^ k % 2 = 0 then max (bst J M u k) (J (pop u) k + M (u ||| 2 ^ k)) else bst J M u k
theorem bst_y {J : Nat → Nat → Nat} {M : Nat → Nat} {u k : Nat} (h : u / 2 ^ k % 2 = 0) : bst J M u (k + 1) = max (bst J M u k) (J (pop u) k + M (u ||| 2 ^ k)) := if_pos h
theorem bst_n {J : Nat → Nat → Nat} {M : Nat → Nat} {u k : Nat} (h : u / 2 ^ k % 2 ≠ 0) : bst J M u (k + 1) = bst J M u k := if_neg h
theorem bst_le {J : Nat → Nat → Nat} {M : Nat → Nat} {u B : Nat} (hJ : ∀ t q, J t q ≤ 900) (hM : ∀ v, M v ≤ B) : ∀ k, bst J M u k ≤ B + 900
  | 0 => Nat.zero_le _
  | k + 1 => by
    have h1 := bst_le hJ hM k (u := u)
    have h2 := hJ (pop u) k
    have h3 := hM (u ||| 2 ^ k)
    unfold bst
    split <;> omega
theorem bst_congr {J : Nat → Nat → Nat} {M N : Nat → Nat} {u : Nat} (hu : u < 256) (h : ∀ v, u < v → v < 256 → M v = N v) : ∀ k, k ≤ 8 → bst J M u k = bst J N u k
  | 0, _ => rfl
  | k + 1, hk => by
    unfold bst
    rw [bst_congr hu h k (by omega)]
    by_cases c : u / 2 ^ k % 2 = 0
    · have := bt_up u hu k (by omega) c
      rw [if_pos c, if_pos c, h _ this.1 this.2.1]
    · rw [if_neg c, if_neg c]
theorem bst_ex {J : Nat → Nat → Nat} {M : Nat → Nat} {u : Nat} : ∀ n, (∃ k, k < n ∧ u / 2 ^ k % 2 = 0) → ∃ k, k < n ∧ u / 2 ^ k % 2 = 0 ∧ J (pop u) k + M (u ||| 2 ^ k) = bst J M u n
  | 0, ⟨_, h, _⟩ => absurd h (Nat.not_lt_zero _)
  | n + 1, ⟨k, hk, hb⟩ => by
    by_cases c : u / 2 ^ n % 2 = 0
    · rw [bst_y c]
      by_cases g : bst J M u n ≤ J (pop u) n + M (u ||| 2 ^ n)
      · exact ⟨n, by omega, c, by omega⟩
      · by_cases e : ∃ k, k < n ∧ u / 2 ^ k % 2 = 0
        · obtain ⟨q, hq, hq2, hq3⟩ := bst_ex n e (J := J) (M := M)
          exact ⟨q, by omega, hq2, by omega⟩
        · exfalso
          apply g
          have : ∀ m, m ≤ n → bst J M u m = 0 := by
            intro m
            induction m with
            | zero => intro _; rfl
            | succ m ih => intro hm; rw [bst_n (fun q => e ⟨m, by omega, q⟩)]; exact ih (by omega)
          rw [this n (Nat.le_refl _)]
          exact Nat.zero_le _
    · have hk' : k < n := by
        rcases Nat.lt_or_ge k n with q | q
        · exact q
        · have : k = n := by omega
          subst this; exact absurd hb c
      obtain ⟨q, hq, hq2, hq3⟩ := bst_ex n ⟨k, hk', hb⟩ (J := J) (M := M)
      exact ⟨q, by omega, hq2, by rw [bst_n c]; exact hq3⟩
def mjA (J : Nat → Nat → Nat) : Nat → Nat → Nat
  | 0 => fun _ => 0
  | i + 1 => va_up (mjA J i) (254 - i) (bst J (mjA J i) (254 - i) 8)
theorem mjA_le {J : Nat → Nat → Nat} (hJ : ∀ t q, J t q ≤ 900) : ∀ i v, mjA J i v ≤ 900 * i
  | 0, _ => Nat.zero_le _
  | i + 1, v => by
    show va_up (mjA J i) (254 - i) (bst J (mjA J i) (254 - i) 8) v ≤ _
    have h1 := mjA_le hJ i v
    have h2 := bst_le hJ (mjA_le hJ i) 8 (u := 254 - i)
    unfold va_up
    split <;> omega
theorem mjA_ne {J : Nat → Nat → Nat} {i v : Nat} (h : v ≠ 254 - i) : mjA J (i + 1) v = mjA J i v := vup_ne h
theorem mjA_eq {J : Nat → Nat → Nat} {i : Nat} : mjA J (i + 1) (254 - i) = bst J (mjA J i) (254 - i) 8 := va_up_eq
theorem mjA_st {J : Nat → Nat → Nat} {v i : Nat} (h : 255 - v ≤ i) : ∀ d, i + d ≤ 255 → mjA J (i + d) v = mjA J i v
  | 0, _ => rfl
  | d + 1, hd => by
    show mjA J (i + d + 1) v = _
    rw [mjA_ne (by omega), mjA_st h d (by omega)]
theorem mjA_fix (J : Nat → Nat → Nat) {u : Nat} (hu : u < 255) : mjA J 255 u = bst J (mjA J 255) u 8 := by
  have e1 : mjA J 255 u = mjA J (255 - u) u := by
    have := mjA_st (J := J) (v := u) (i := 255 - u) (Nat.le_refl _) u (by omega)
    rwa [show 255 - u + u = 255 by omega] at this
  have e2 : mjA J (255 - u) u = bst J (mjA J (254 - u)) u 8 := by
    have := mjA_eq (J := J) (i := 254 - u)
    rwa [show 254 - (254 - u) = u by omega, show 254 - u + 1 = 255 - u by omega] at this
  rw [e1, e2]
  refine bst_congr (by omega) (fun v hv hv2 => ?_) 8 (Nat.le_refl _)
  have := mjA_st (J := J) (v := v) (i := 254 - u) (by omega) (u + 1) (by omega)
  rw [show 254 - u + (u + 1) = 255 by omega] at this
  exact this.symm
def mj (J : Nat → Nat → Nat) : Nat → Nat := mjA J 255
abbrev rwP (J : Nat → Nat → Nat) (t u k : Nat) : Prop := u / 2 ^ k % 2 = 0 ∧ J t k + mj J (u ||| 2 ^ k) = mj J u
def rwB (J : Nat → Nat → Nat) (t u k : Nat) : Bool := decide (rwP J t u k)
def brw (J : Nat → Nat → Nat) (t u : Nat) : Nat := fi (rwB J t u) 8 0
def usd (J : Nat → Nat → Nat) : Nat → Nat
  | 0 => 0
  | t + 1 => usd J t ||| 2 ^ brw J t (usd J t)
theorem fi_lt {P : Nat → Bool} {k : Nat} (hk : P k = true) : ∀ n i, i ≤ k → k < i + n → fi P n i < i + n ∧ P (fi P n i) = true
  | 0, i, h1, h2 => by omega
  | n + 1, i, h1, h2 => by
    unfold fi
    by_cases c : P i = true
    · rw [if_pos c]; exact ⟨by omega, c⟩
    · rw [if_neg c]
      have e : i ≠ k := fun q => c (by rw [q]; exact hk)
      have := fi_lt hk n (i + 1) (by omega) (by omega)
      exact ⟨by omega, this.2⟩
theorem brw_ok {J : Nat → Nat → Nat} {t u : Nat} (hu : u < 255) (hp : pop u = t) : brw J t u < 8 ∧ rwP J t u (brw J t u) := by
  obtain ⟨k, hk, hb, he⟩ := bst_ex (J := J) (M := mj J) 8 (bt_ex u hu)
  have h := fi_lt (P := rwB J t u) (k := k) (decide_eq_true ⟨hb, by rw [← hp, he]; exact (mjA_fix J hu).symm⟩) 8 0 (Nat.zero_le _) (by omega)
  exact ⟨by have := h.1; unfold brw; omega, of_decide_eq_true h.2⟩
theorem usd_ok (J : Nat → Nat → Nat) : ∀ t, t ≤ 8 → usd J t < 256 ∧ pop (usd J t) = t
  | 0, _ => ⟨show 0 < 256 by decide, show pop 0 = 0 by decide +kernel⟩
  | t + 1, ht => by
    obtain ⟨h1, h2⟩ := usd_ok J t (by omega)
    have hu : usd J t < 255 := by
      rcases Nat.lt_or_ge (usd J t) 255 with q | q
      · exact q
      · have e : usd J t = 255 := by omega
        rw [e, pop_255] at h2; omega
    obtain ⟨g1, g2⟩ := brw_ok (J := J) hu h2
    have := bt_up (usd J t) h1 _ g1 g2.1
    exact ⟨this.2.1, by rw [usd, this.2.2, h2]⟩
theorem usd_lt (J : Nat → Nat → Nat) {t : Nat} (ht : t < 8) : usd J t < 255 := by
  obtain ⟨h1, h2⟩ := usd_ok J t (by omega)
  rcases Nat.lt_or_ge (usd J t) 255 with q | q
  · exact q
  · have e : usd J t = 255 := by omega
    rw [e, pop_255] at h2; omega
theorem usd_br (J : Nat → Nat → Nat) {t : Nat} (ht : t < 8) : brw J t (usd J t) < 8 ∧ rwP J t (usd J t) (brw J t (usd J t)) := brw_ok (usd_lt J ht) (usd_ok J t (by omega)).2
abbrev g_best (w f t : Int32) : Prop := (w = -1 ∨ inR w (nI 0) (nI 7)) ∧ spn f t
def v_best (J : Nat → Nat → Nat) (w : Int32) : Nat := if w = -1 then mj J 0 else brw J (nv w) (usd J (nv w))
def r_best (σ : Sg) (w f t : Int32) : Int32 := if g_best w f t then nI (v_best (fun u q => jyN σ u q (nv f) (nv t + 1 - nv f)) w) else -2
theorem bc_ok : ∀ u, u < 256 → (((((((((nI u) - ((((nI u).toUInt32 >>> ((nI 1).toUInt32 &&& Int32.toUInt32 31)).toInt32) &&& (nI 1431655765))) &&& (nI 858993459)) + (((((nI u) - ((((nI u).toUInt32 >>> ((nI 1).toUInt32 &&& Int32.toUInt32 31)).toInt32) &&& (nI 1431655765))).toUInt32 >>> ((nI 2).toUInt32 &&& Int32.toUInt32 31)).toInt32) &&& (nI 858993459))) + ((((((nI u) - ((((nI u).toUInt32 >>> ((nI 1).toUInt32 &&& Int32.toUInt32 31)).toInt32) &&& (nI 1431655765))) &&& (nI 858993459)) + (((((nI u) - ((((nI u).toUInt32 >>> ((nI 1).toUInt32 &&& Int32.toUInt32 31)).toInt32) &&& (nI 1431655765))).toUInt32 >>> ((nI 2).toUInt32 &&& Int32.toUInt32 31)).toInt32) &&& (nI 858993459))).toUInt32 >>> ((nI 4).toUInt32 &&& Int32.toUInt32 31)).toInt32)) &&& (nI 252645135)) + ((((((((nI u) - ((((nI u).toUInt32 >>> ((nI 1).toUInt32 &&& Int32.toUInt32 31)).toInt32) &&& (nI 1431655765))) &&& (nI 858993459)) + (((((nI u) - ((((nI u).toUInt32 >>> ((nI 1).toUInt32 &&& Int32.toUInt32 31)).toInt32) &&& (nI 1431655765))).toUInt32 >>> ((nI 2).toUInt32 &&& Int32.toUInt32 31)).toInt32) &&& (nI 858993459))) + ((((((nI u) - ((((nI u).toUInt32 >>> ((nI 1).toUInt32 &&& Int32.toUInt32 31)).toInt32) &&& (nI 1431655765))) &&& (nI 858993459)) + (((((nI u) - ((((nI u).toUInt32 >>> ((nI 1).toUInt32 &&& Int32.toUInt32 31)).toInt32) &&& (nI 1431655765))).toUInt32 >>> ((nI 2).toUInt32 &&& Int32.toUInt32 31)).toInt32) &&& (nI 858993459))).toUInt32 >>> ((nI 4).toUInt32 &&& Int32.toUInt32 31)).toInt32)) &&& (nI 252645135)).toUInt32 >>> ((nI 8).toUInt32 &&& Int32.toUInt32 31)).toInt32)) + (((((((((nI u) - ((((nI u).toUInt32 >>> ((nI 1).toUInt32 &&& Int32.toUInt32 31)).toInt32) &&& (nI 1431655765))) &&& (nI 858993459)) + (((((nI u) - ((((nI u).toUInt32 >>> ((nI 1).toUInt32 &&& Int32.toUInt32 31)).toInt32) &&& (nI 1431655765))).toUInt32 >>> ((nI 2).toUInt32 &&& Int32.toUInt32 31)).toInt32) &&& (nI 858993459))) + ((((((nI u) - ((((nI u).toUInt32 >>> ((nI 1).toUInt32 &&& Int32.toUInt32 31)).toInt32) &&& (nI 1431655765))) &&& (nI 858993459)) + (((((nI u) - ((((nI u).toUInt32 >>> ((nI 1).toUInt32 &&& Int32.toUInt32 31)).toInt32) &&& (nI 1431655765))).toUInt32 >>> ((nI 2).toUInt32 &&& Int32.toUInt32 31)).toInt32) &&& (nI 858993459))).toUInt32 >>> ((nI 4).toUInt32 &&& Int32.toUInt32 31)).toInt32)) &&& (nI 252645135)) + ((((((((nI u) - ((((nI u).toUInt32 >>> ((nI 1).toUInt32 &&& Int32.toUInt32 31)).toInt32) &&& (nI 1431655765))) &&& (nI 858993459)) + (((((nI u) - ((((nI u).toUInt32 >>> ((nI 1).toUInt32 &&& Int32.toUInt32 31)).toInt32) &&& (nI 1431655765))).toUInt32 >>> ((nI 2).toUInt32 &&& Int32.toUInt32 31)).toInt32) &&& (nI 858993459))) + ((((((nI u) - ((((nI u).toUInt32 >>> ((nI 1).toUInt32 &&& Int32.toUInt32 31)).toInt32) &&& (nI 1431655765))) &&& (nI 858993459)) + (((((nI u) - ((((nI u).toUInt32 >>> ((nI 1).toUInt32 &&& Int32.toUInt32 31)).toInt32) &&& (nI 1431655765))).toUInt32 >>> ((nI 2).toUInt32 &&& Int32.toUInt32 31)).toInt32) &&& (nI 858993459))).toUInt32 >>> ((nI 4).toUInt32 &&& Int32.toUInt32 31)).toInt32)) &&& (nI 252645135)).toUInt32 >>> ((nI 8).toUInt32 &&& Int32.toUInt32 31)).toInt32)).toUInt32 >>> ((nI 16).toUInt32 &&& Int32.toUInt32 31)).toInt32)) &&& (nI 63)) = nI (pop u) := by decide +kernel
set_option maxHeartbeats 4000000 in
theorem c_bitCount (ρ : Rho) (u : Nat) (hu : u < 256) : CallOK 0 mJ6_bitCount_0f7a4 [.int (nI u)] ρ (fun r ρ2 => r = some (.int (nI (pop u))) ∧ ρ2 = ρ) := by
  refine callOK_of 0 (by decide +kernel) rfl (fun _ => Nat.le_of_ble_eq_true rfl) (ls := [some (.int (nI u))]) rfl ?_
  generalize hQ : (fun r ρ2 => r = some (.int (nI (pop u))) ∧ ρ2 = ρ : Option Value → Rho → Prop) = Q
  refine w_il dJ6_bitCount_0f7a4_0 rfl ?_
  refine w_il dJ6_bitCount_0f7a4_1 rfl ?_
  refine w_k dJ6_bitCount_0f7a4_2 ?_
  refine w_iushr dJ6_bitCount_0f7a4_3 ?_
  refine w_k dJ6_bitCount_0f7a4_4 ?_
  refine w_iand dJ6_bitCount_0f7a4_7 ?_
  refine w_isub dJ6_bitCount_0f7a4_8 ?_
  refine w_is (ls2 := [some (.int ((nI u) - ((((nI u).toUInt32 >>> ((nI 1).toUInt32 &&& Int32.toUInt32 31)).toInt32) &&& (nI 1431655765))))]) dJ6_bitCount_0f7a4_9 rfl ?_
  refine w_il dJ6_bitCount_0f7a4_10 rfl ?_
  refine w_k dJ6_bitCount_0f7a4_11 ?_
  refine w_iand dJ6_bitCount_0f7a4_14 ?_
  refine w_il dJ6_bitCount_0f7a4_15 rfl ?_
  refine w_k dJ6_bitCount_0f7a4_16 ?_
  refine w_iushr dJ6_bitCount_0f7a4_17 ?_
  refine w_k dJ6_bitCount_0f7a4_18 ?_
  refine w_iand dJ6_bitCount_0f7a4_21 ?_
  refine w_iadd dJ6_bitCount_0f7a4_22 ?_
  refine w_is (ls2 := [some (.int ((((nI u) - ((((nI u).toUInt32 >>> ((nI 1).toUInt32 &&& Int32.toUInt32 31)).toInt32) &&& (nI 1431655765))) &&& (nI 858993459)) + (((((nI u) - ((((nI u).toUInt32 >>> ((nI 1).toUInt32 &&& Int32.toUInt32 31)).toInt32) &&& (nI 1431655765))).toUInt32 >>> ((nI 2).toUInt32 &&& Int32.toUInt32 31)).toInt32) &&& (nI 858993459))))]) dJ6_bitCount_0f7a4_23 rfl ?_
  refine w_il dJ6_bitCount_0f7a4_24 rfl ?_
  refine w_il dJ6_bitCount_0f7a4_25 rfl ?_
  refine w_k dJ6_bitCount_0f7a4_26 ?_
  refine w_iushr dJ6_bitCount_0f7a4_27 ?_
  refine w_iadd dJ6_bitCount_0f7a4_28 ?_
  refine w_k dJ6_bitCount_0f7a4_29 ?_
  refine w_iand dJ6_bitCount_0f7a4_32 ?_
  refine w_is (ls2 := [some (.int ((((((nI u) - ((((nI u).toUInt32 >>> ((nI 1).toUInt32 &&& Int32.toUInt32 31)).toInt32) &&& (nI 1431655765))) &&& (nI 858993459)) + (((((nI u) - ((((nI u).toUInt32 >>> ((nI 1).toUInt32 &&& Int32.toUInt32 31)).toInt32) &&& (nI 1431655765))).toUInt32 >>> ((nI 2).toUInt32 &&& Int32.toUInt32 31)).toInt32) &&& (nI 858993459))) + ((((((nI u) - ((((nI u).toUInt32 >>> ((nI 1).toUInt32 &&& Int32.toUInt32 31)).toInt32) &&& (nI 1431655765))) &&& (nI 858993459)) + (((((nI u) - ((((nI u).toUInt32 >>> ((nI 1).toUInt32 &&& Int32.toUInt32 31)).toInt32) &&& (nI 1431655765))).toUInt32 >>> ((nI 2).toUInt32 &&& Int32.toUInt32 31)).toInt32) &&& (nI 858993459))).toUInt32 >>> ((nI 4).toUInt32 &&& Int32.toUInt32 31)).toInt32)) &&& (nI 252645135)))]) dJ6_bitCount_0f7a4_33 rfl ?_
  refine w_il dJ6_bitCount_0f7a4_34 rfl ?_
  refine w_il dJ6_bitCount_0f7a4_35 rfl ?_
  refine w_k dJ6_bitCount_0f7a4_36 ?_
  refine w_iushr dJ6_bitCount_0f7a4_38 ?_
  refine w_iadd dJ6_bitCount_0f7a4_39 ?_
  refine w_is (ls2 := [some (.int (((((((nI u) - ((((nI u).toUInt32 >>> ((nI 1).toUInt32 &&& Int32.toUInt32 31)).toInt32) &&& (nI 1431655765))) &&& (nI 858993459)) + (((((nI u) - ((((nI u).toUInt32 >>> ((nI 1).toUInt32 &&& Int32.toUInt32 31)).toInt32) &&& (nI 1431655765))).toUInt32 >>> ((nI 2).toUInt32 &&& Int32.toUInt32 31)).toInt32) &&& (nI 858993459))) + ((((((nI u) - ((((nI u).toUInt32 >>> ((nI 1).toUInt32 &&& Int32.toUInt32 31)).toInt32) &&& (nI 1431655765))) &&& (nI 858993459)) + (((((nI u) - ((((nI u).toUInt32 >>> ((nI 1).toUInt32 &&& Int32.toUInt32 31)).toInt32) &&& (nI 1431655765))).toUInt32 >>> ((nI 2).toUInt32 &&& Int32.toUInt32 31)).toInt32) &&& (nI 858993459))).toUInt32 >>> ((nI 4).toUInt32 &&& Int32.toUInt32 31)).toInt32)) &&& (nI 252645135)) + ((((((((nI u) - ((((nI u).toUInt32 >>> ((nI 1).toUInt32 &&& Int32.toUInt32 31)).toInt32) &&& (nI 1431655765))) &&& (nI 858993459)) + (((((nI u) - ((((nI u).toUInt32 >>> ((nI 1).toUInt32 &&& Int32.toUInt32 31)).toInt32) &&& (nI 1431655765))).toUInt32 >>> ((nI 2).toUInt32 &&& Int32.toUInt32 31)).toInt32) &&& (nI 858993459))) + ((((((nI u) - ((((nI u).toUInt32 >>> ((nI 1).toUInt32 &&& Int32.toUInt32 31)).toInt32) &&& (nI 1431655765))) &&& (nI 858993459)) + (((((nI u) - ((((nI u).toUInt32 >>> ((nI 1).toUInt32 &&& Int32.toUInt32 31)).toInt32) &&& (nI 1431655765))).toUInt32 >>> ((nI 2).toUInt32 &&& Int32.toUInt32 31)).toInt32) &&& (nI 858993459))).toUInt32 >>> ((nI 4).toUInt32 &&& Int32.toUInt32 31)).toInt32)) &&& (nI 252645135)).toUInt32 >>> ((nI 8).toUInt32 &&& Int32.toUInt32 31)).toInt32)))]) dJ6_bitCount_0f7a4_40 rfl ?_
  refine w_il dJ6_bitCount_0f7a4_41 rfl ?_
  refine w_il dJ6_bitCount_0f7a4_42 rfl ?_
  refine w_k dJ6_bitCount_0f7a4_43 ?_
  refine w_iushr dJ6_bitCount_0f7a4_45 ?_
  refine w_iadd dJ6_bitCount_0f7a4_46 ?_
  refine w_is (ls2 := [some (.int ((((((((nI u) - ((((nI u).toUInt32 >>> ((nI 1).toUInt32 &&& Int32.toUInt32 31)).toInt32) &&& (nI 1431655765))) &&& (nI 858993459)) + (((((nI u) - ((((nI u).toUInt32 >>> ((nI 1).toUInt32 &&& Int32.toUInt32 31)).toInt32) &&& (nI 1431655765))).toUInt32 >>> ((nI 2).toUInt32 &&& Int32.toUInt32 31)).toInt32) &&& (nI 858993459))) + ((((((nI u) - ((((nI u).toUInt32 >>> ((nI 1).toUInt32 &&& Int32.toUInt32 31)).toInt32) &&& (nI 1431655765))) &&& (nI 858993459)) + (((((nI u) - ((((nI u).toUInt32 >>> ((nI 1).toUInt32 &&& Int32.toUInt32 31)).toInt32) &&& (nI 1431655765))).toUInt32 >>> ((nI 2).toUInt32 &&& Int32.toUInt32 31)).toInt32) &&& (nI 858993459))).toUInt32 >>> ((nI 4).toUInt32 &&& Int32.toUInt32 31)).toInt32)) &&& (nI 252645135)) + ((((((((nI u) - ((((nI u).toUInt32 >>> ((nI 1).toUInt32 &&& Int32.toUInt32 31)).toInt32) &&& (nI 1431655765))) &&& (nI 858993459)) + (((((nI u) - ((((nI u).toUInt32 >>> ((nI 1).toUInt32 &&& Int32.toUInt32 31)).toInt32) &&& (nI 1431655765))).toUInt32 >>> ((nI 2).toUInt32 &&& Int32.toUInt32 31)).toInt32) &&& (nI 858993459))) + ((((((nI u) - ((((nI u).toUInt32 >>> ((nI 1).toUInt32 &&& Int32.toUInt32 31)).toInt32) &&& (nI 1431655765))) &&& (nI 858993459)) + (((((nI u) - ((((nI u).toUInt32 >>> ((nI 1).toUInt32 &&& Int32.toUInt32 31)).toInt32) &&& (nI 1431655765))).toUInt32 >>> ((nI 2).toUInt32 &&& Int32.toUInt32 31)).toInt32) &&& (nI 858993459))).toUInt32 >>> ((nI 4).toUInt32 &&& Int32.toUInt32 31)).toInt32)) &&& (nI 252645135)).toUInt32 >>> ((nI 8).toUInt32 &&& Int32.toUInt32 31)).toInt32)) + (((((((((nI u) - ((((nI u).toUInt32 >>> ((nI 1).toUInt32 &&& Int32.toUInt32 31)).toInt32) &&& (nI 1431655765))) &&& (nI 858993459)) + (((((nI u) - ((((nI u).toUInt32 >>> ((nI 1).toUInt32 &&& Int32.toUInt32 31)).toInt32) &&& (nI 1431655765))).toUInt32 >>> ((nI 2).toUInt32 &&& Int32.toUInt32 31)).toInt32) &&& (nI 858993459))) + ((((((nI u) - ((((nI u).toUInt32 >>> ((nI 1).toUInt32 &&& Int32.toUInt32 31)).toInt32) &&& (nI 1431655765))) &&& (nI 858993459)) + (((((nI u) - ((((nI u).toUInt32 >>> ((nI 1).toUInt32 &&& Int32.toUInt32 31)).toInt32) &&& (nI 1431655765))).toUInt32 >>> ((nI 2).toUInt32 &&& Int32.toUInt32 31)).toInt32) &&& (nI 858993459))).toUInt32 >>> ((nI 4).toUInt32 &&& Int32.toUInt32 31)).toInt32)) &&& (nI 252645135)) + ((((((((nI u) - ((((nI u).toUInt32 >>> ((nI 1).toUInt32 &&& Int32.toUInt32 31)).toInt32) &&& (nI 1431655765))) &&& (nI 858993459)) + (((((nI u) - ((((nI u).toUInt32 >>> ((nI 1).toUInt32 &&& Int32.toUInt32 31)).toInt32) &&& (nI 1431655765))).toUInt32 >>> ((nI 2).toUInt32 &&& Int32.toUInt32 31)).toInt32) &&& (nI 858993459))) + ((((((nI u) - ((((nI u).toUInt32 >>> ((nI 1).toUInt32 &&& Int32.toUInt32 31)).toInt32) &&& (nI 1431655765))) &&& (nI 858993459)) + (((((nI u) - ((((nI u).toUInt32 >>> ((nI 1).toUInt32 &&& Int32.toUInt32 31)).toInt32) &&& (nI 1431655765))).toUInt32 >>> ((nI 2).toUInt32 &&& Int32.toUInt32 31)).toInt32) &&& (nI 858993459))).toUInt32 >>> ((nI 4).toUInt32 &&& Int32.toUInt32 31)).toInt32)) &&& (nI 252645135)).toUInt32 >>> ((nI 8).toUInt32 &&& Int32.toUInt32 31)).toInt32)).toUInt32 >>> ((nI 16).toUInt32 &&& Int32.toUInt32 31)).toInt32)))]) dJ6_bitCount_0f7a4_47 rfl ?_
  refine w_il dJ6_bitCount_0f7a4_48 rfl ?_
  refine w_k dJ6_bitCount_0f7a4_49 ?_
  refine w_iand dJ6_bitCount_0f7a4_51 ?_
  refine w_iret dJ6_bitCount_0f7a4_52 rfl ?_
  rw [← hQ]
  exact ⟨congrArg (fun z => some (Value.int z)) (bc_ok u hu), rfl⟩

set_option maxHeartbeats 4000000 in
theorem c_X5_joyWith (ρ : Rho) (J : Nat → Nat → Nat) (M : Nat → Nat) (t k u : Nat) (hJ : ∀ t q, t < 8 → q < 8 → ρ.1 29 (t * 8 + q) = nI (J t q)) (hM : ∀ v, u < v → v < 256 → ρ.1 30 v = nI (M v)) (ht : t < 8) (hk : k < 8) (hu : u < u ||| 2 ^ k ∧ u ||| 2 ^ k < 256) : CallOK 0 mX5_joyWith [.ref 26, .int (nI t), .int (nI k), .int (nI u)] ρ (fun r ρ2 => r = some (.int (nI (J t k + M (u ||| 2 ^ k)))) ∧ ρ2 = ρ) := by
  refine callOK_of 0 (by decide +kernel) rfl (fun _ => Nat.le_of_ble_eq_true rfl) (ls := [some (.ref 26), some (.int (nI t)), some (.int (nI k)), some (.int (nI u))]) rfl ?_
  generalize hQ : (fun r ρ2 => r = some (.int (nI (J t k + M (u ||| 2 ^ k)))) ∧ ρ2 = ρ : Option Value → Rho → Prop) = Q
  refine w_al dX5_joyWith_0 rfl ?_
  refine w_gr dX5_joyWith_1 fl_X5_18 sh26 rfl ?_
  refine w_il dX5_joyWith_4 rfl ?_
  refine w_k dX5_joyWith_5 ?_
  refine w_imulN dX5_joyWith_7 ?_
  refine w_il dX5_joyWith_8 rfl ?_
  refine w_iaddN dX5_joyWith_9 ?_
  refine w_ialdV (v := (nI (J t k))) dX5_joyWith_10 sh29 (by omega) (hJ _ _ (by omega) (by omega)) ?_
  refine w_al dX5_joyWith_11 rfl ?_
  refine w_gr dX5_joyWith_12 fl_X5_21 sh26 rfl ?_
  refine w_il dX5_joyWith_15 rfl ?_
  refine w_k dX5_joyWith_16 ?_
  refine w_il dX5_joyWith_17 rfl ?_
  refine w_ishl1 dX5_joyWith_18 (by omega) ?_
  refine w_iorN dX5_joyWith_19 ?_
  refine w_ialdV (v := (nI (M (u ||| 2 ^ k)))) dX5_joyWith_20 sh30 (by omega) (hM _ (by omega) (by omega)) ?_
  refine w_iaddN dX5_joyWith_21 ?_
  refine w_iret dX5_joyWith_22 rfl ?_
  rw [← hQ]
  exact ⟨rfl, rfl⟩

set_option maxHeartbeats 4000000 in
theorem c_X5_leastBestRow (ρ : Rho) (J : Nat → Nat → Nat) (t u : Nat) (hJ : ∀ t q, t < 8 → q < 8 → ρ.1 29 (t * 8 + q) = nI (J t q)) (hb9 : ∀ t q, J t q ≤ 900) (hM : ∀ v, v < 256 → ρ.1 30 v = nI (mj J v)) (ht : t < 8) (hu : u < 256) (hr : brw J t u < 8) : CallOK 1 mX5_leastBestRow [.ref 26, .int (nI t), .int (nI u)] ρ (fun r ρ2 => r = some (.int (nI (brw J t u))) ∧ ρ2 = ρ) := by
  refine callOK_of 1 (by decide +kernel) rfl (fun _ => Nat.le_of_ble_eq_true rfl) (ls := [some (.ref 26), some (.int (nI t)), some (.int (nI u)), none]) rfl ?_
  generalize hQ : (fun r ρ2 => r = some (.int (nI (brw J t u))) ∧ ρ2 = ρ : Option Value → Rho → Prop) = Q
  refine w_k dX5_leastBestRow_0 ?_
  refine w_is (ls2 := [some (.ref 26), some (.int (nI t)), some (.int (nI u)), some (.int (nI 0))]) dX5_leastBestRow_1 rfl ?_
  have L2 : ∀ (n2 : Nat) (k : Nat), (k ≤ 8) → (fi (rwB J t u) (8 - k) k = brw J t u) → (8 - k) < n2 → MW mX5_leastBestRow 1 2 [some (.ref 26), some (.int (nI t)), some (.int (nI u)), some (.int (nI k))] [] ρ Q := by
    intro n2
    induction n2 with
    | zero =>
      intro k hk hf hm2
      exact absurd hm2 (Nat.not_lt_zero _)
    | succ n2 ih2 =>
      intro k hk hf hm2
      refine w_il dX5_leastBestRow_2 rfl ?_
      refine w_k dX5_leastBestRow_3 ?_
      refine w_icgeN dX5_leastBestRow_5 (by omega) (by omega) (fun h5 => ?_) (fun h5 => ?_)
      · --t
        refine w_k dX5_leastBestRow_40 ?_
        refine w_iret dX5_leastBestRow_41 rfl ?_
        rw [← hQ]
        exfalso
        rw [show 8 - k = 0 by omega] at hf
        have : k = brw J t u := hf
        omega
      · --f
        refine w_il dX5_leastBestRow_8 rfl ?_
        refine w_il dX5_leastBestRow_9 rfl ?_
        refine w_ishrN dX5_leastBestRow_10 (by omega) (by omega) ?_
        refine w_k dX5_leastBestRow_11 ?_
        refine w_iand1 dX5_leastBestRow_12 ?_
        refine w_ifneN dX5_leastBestRow_13 (by omega) (fun h13 => ?_) (fun h13 => ?_)
        · --t
          refine w_iincN (ls2 := [some (.ref 26), some (.int (nI t)), some (.int (nI u)), some (.int (nI (k + 1)))]) dX5_leastBestRow_34 rfl rfl ?_
          refine w_goto dX5_leastBestRow_37 ?_
          exact ih2 (k + 1) (by omega) (by rw [← hf, fi_n (i := k) (by omega) (decide_eq_false (fun q => h13 q.1))]; rfl) (by omega)
        · --f
          have wb := bt_up u (by omega) k (by omega) h13
          have w1 : mj J (u ||| 2 ^ k) ≤ 900 * 255 := mjA_le hb9 255 _
          have w2 : mj J u ≤ 900 * 255 := mjA_le hb9 255 _
          have w3 := hb9 t k
          refine w_al dX5_leastBestRow_16 rfl ?_
          refine w_il dX5_leastBestRow_17 rfl ?_
          refine w_il dX5_leastBestRow_18 rfl ?_
          refine w_il dX5_leastBestRow_19 rfl ?_
          refine w_cVf dX5_leastBestRow_20 (vl_X5_50 _ rfl) sh26 (by decide) (c_X5_joyWith ρ J (mj J) t k u hJ (fun v h1 h2 => hM v h2) (by omega) (by omega) ⟨wb.1, wb.2.1⟩) rfl rfl (Nat.le_of_ble_eq_true rfl) ?_
          refine w_al dX5_leastBestRow_23 rfl ?_
          refine w_gr dX5_leastBestRow_24 fl_X5_21 sh26 rfl ?_
          refine w_il dX5_leastBestRow_27 rfl ?_
          refine w_ialdV (v := (nI (mj J u))) dX5_leastBestRow_28 sh30 (by omega) (hM _ (by omega)) ?_
          refine w_icneN dX5_leastBestRow_29 (by omega) (by omega) (fun h29 => ?_) (fun h29 => ?_)
          · --t
            refine w_iincN (ls2 := [some (.ref 26), some (.int (nI t)), some (.int (nI u)), some (.int (nI (k + 1)))]) dX5_leastBestRow_34 rfl rfl ?_
            refine w_goto dX5_leastBestRow_37 ?_
            exact ih2 (k + 1) (by omega) (by rw [← hf, fi_n (i := k) (by omega) (decide_eq_false (fun q => h29 q.2))]; rfl) (by omega)
          · --f
            refine w_il dX5_leastBestRow_32 rfl ?_
            refine w_iret dX5_leastBestRow_33 rfl ?_
            rw [← hQ]
            exact ⟨by rw [← hf, fi_y (i := k) (by omega) (decide_eq_true ⟨h13, h29⟩)], rfl⟩
  exact L2 _ 0 (by omega) (rfl) (Nat.lt_succ_self _)

set_option maxHeartbeats 4000000 in
theorem c_X5_findBest (ρ : Rho) (J : Nat → Nat → Nat) (hJ : ∀ t q, t < 8 → q < 8 → ρ.1 29 (t * 8 + q) = nI (J t q)) (hb9 : ∀ t q, J t q ≤ 900) : CallOK 2 mX5_findBest [.ref 26] ρ (fun r ρ2 => r = none ∧ (Fr [30, 31] ρ ρ2 ∧ (∀ v, v < 256 → ρ2.1 30 v = nI (mj J v)) ∧ ∀ q, q < 8 → ρ2.1 31 q = nI (brw J q (usd J q)))) := by
  refine callOK_of 4 (by decide +kernel) rfl (fun _ => Nat.le_of_ble_eq_true rfl) (ls := [some (.ref 26), none, none, none, none]) rfl ?_
  generalize hQ : (fun r ρ2 => r = none ∧ (Fr [30, 31] ρ ρ2 ∧ (∀ v, v < 256 → ρ2.1 30 v = nI (mj J v)) ∧ ∀ q, q < 8 → ρ2.1 31 q = nI (brw J q (usd J q))) : Option Value → Rho → Prop) = Q
  refine w_al dX5_findBest_0 rfl ?_
  refine w_gr dX5_findBest_1 fl_X5_21 sh26 rfl ?_
  refine w_k dX5_findBest_4 ?_
  refine w_k dX5_findBest_7 ?_
  refine w_iastN dX5_findBest_8 sh30 (by omega) ?_
  refine w_k dX5_findBest_9 ?_
  refine w_is (ls2 := [some (.ref 26), some (.int (nI 254)), none, none, none]) dX5_findBest_12 rfl ?_
  have L13 : ∀ (n13 : Nat) (i : Nat) (ρ1 : Rho), (i ≤ 255) → (Fr [30, 31] ρ ρ1) → (∀ v, 255 - i ≤ v → v < 256 → ρ1.1 30 v = nI (mjA J i v)) → (255 - i) < n13 → MW mX5_findBest 2 13 [some (.ref 26), some (.int (nI (255 - i) + (-1))), none, none, none] [] ρ1 Q := by
    intro n13
    induction n13 with
    | zero =>
      intro i ρ1 hi hF1 hM1 hm13
      exact absurd hm13 (Nat.not_lt_zero _)
    | succ n13 ih13 =>
      intro i ρ1 hi hF1 hM1 hm13
      refine w_il dX5_findBest_13 rfl ?_
      refine w_iflt dX5_findBest_14 (fun h14 => ?_) (fun h14 => ?_)
      · --t
        have e255 : i = 255 := Decidable.byContradiction fun c => by
          rw [show nI (255 - i) + (-1) = nI (254 - i) from by rw [show 255 - i = (254 - i) + 1 by omega, pk_m1]] at h14
          exact absurd h14 (nI_pos (by omega))
        refine w_k dX5_findBest_75 ?_
        refine w_is (ls2 := [some (.ref 26), some (.int (nI 0)), none, none, none]) dX5_findBest_76 rfl ?_
        refine w_k dX5_findBest_77 ?_
        refine w_is (ls2 := [some (.ref 26), some (.int (nI 0)), some (.int (nI 0)), none, none]) dX5_findBest_78 rfl ?_
        have L79 : ∀ (n79 : Nat) (t : Nat) (ρ2 : Rho), (t ≤ 8) → (Fr [30, 31] ρ ρ2) → (∀ v, v < 256 → ρ2.1 30 v = nI (mj J v)) → (∀ q, q < t → ρ2.1 31 q = nI (brw J q (usd J q))) → (8 - t) < n79 → MW mX5_findBest 2 79 [some (.ref 26), some (.int (nI (usd J t))), some (.int (nI t)), none, none] [] ρ2 Q := by
          intro n79
          induction n79 with
          | zero =>
            intro t ρ2 ht hF2 hM2 hR2 hm79
            exact absurd hm79 (Nat.not_lt_zero _)
          | succ n79 ih79 =>
            intro t ρ2 ht hF2 hM2 hR2 hm79
            refine w_il dX5_findBest_79 rfl ?_
            refine w_k dX5_findBest_80 ?_
            refine w_icgeN dX5_findBest_82 (by omega) (by omega) (fun h82 => ?_) (fun h82 => ?_)
            · --t
              refine w_ret dX5_findBest_111 rfl ?_
              rw [← hQ]
              obtain rfl : t = 8 := by omega
              exact ⟨rfl, hF2, hM2, hR2⟩
            · --f
              have wu := usd_br J (t := t) (by omega)
              have wv := (usd_ok J t (by omega)).1
              refine w_al dX5_findBest_85 rfl ?_
              refine w_il dX5_findBest_86 rfl ?_
              refine w_il dX5_findBest_87 rfl ?_
              refine w_cVf dX5_findBest_88 (vl_X5_60 _ rfl) sh26 (by decide) (c_X5_leastBestRow ρ2 J t (usd J t) (fun t q ht hq => by rw [(hF2 29 (by decide)).1]; exact hJ t q ht hq) hb9 hM2 (by omega) (usd_ok J t (by omega)).1 wu.1) rfl rfl (Nat.le_of_ble_eq_true rfl) ?_
              refine w_is (ls2 := [some (.ref 26), some (.int (nI (usd J t))), some (.int (nI t)), some (.int (nI (brw J t (usd J t)))), none]) dX5_findBest_91 rfl ?_
              refine w_al dX5_findBest_92 rfl ?_
              refine w_gr dX5_findBest_93 fl_X5_24 sh26 rfl ?_
              refine w_il dX5_findBest_96 rfl ?_
              refine w_il dX5_findBest_97 rfl ?_
              refine w_iastN dX5_findBest_98 sh31 (by omega) ?_
              refine w_il dX5_findBest_99 rfl ?_
              refine w_k dX5_findBest_100 ?_
              refine w_il dX5_findBest_101 rfl ?_
              refine w_ishl1 dX5_findBest_102 (by omega) ?_
              refine w_iorN dX5_findBest_103 ?_
              refine w_is (ls2 := [some (.ref 26), some (.int (nI ((usd J t) ||| 2 ^ (brw J t (usd J t))))), some (.int (nI t)), some (.int (nI (brw J t (usd J t)))), none]) dX5_findBest_104 rfl ?_
              refine w_iincN (ls2 := [some (.ref 26), some (.int (nI ((usd J t) ||| 2 ^ (brw J t (usd J t))))), some (.int (nI (t + 1))), some (.int (nI (brw J t (usd J t)))), none]) dX5_findBest_105 rfl rfl ?_
              refine w_goto dX5_findBest_108 ?_
              refine w_weak (ls2 := [some (.ref 26), some (.int (nI ((usd J t) ||| 2 ^ (brw J t (usd J t))))), some (.int (nI (t + 1))), none, none]) ⟨rfl, ⟨rfl, ⟨rfl, trivial⟩⟩⟩ ?_
              exact ih79 (t + 1) (wI ρ2 31 t (nI (brw J t (usd J t)))) (by omega) ((Fr.only hF2 only_wI (by decide))) (keepA (by decide) hM2) (ext1 (f := fun q => nI (brw J q (usd J q))) hR2 rfl) (by omega)
        exact L79 _ 0 ρ1 (by omega) (hF1) (fun v hv => by have := hM1 v (by omega) hv; rwa [show i = 255 from e255] at this) (fun q hq => absurd hq (Nat.not_lt_zero _)) (Nat.lt_succ_self _)
      · --f
        have hi2 : i < 255 := Nat.lt_of_le_of_ne hi (fun e => h14 (by subst e; decide))
        rw [show nI (255 - i) + (-1) = nI (254 - i) from by rw [show 255 - i = (254 - i) + 1 by omega, pk_m1]]
        have wp := pop_lt (254 - i) (by omega)
        refine w_il dX5_findBest_17 rfl ?_
        refine w_cSf dX5_findBest_18 (sl_X5_44 _ rfl) (by decide) (c_bitCount ρ1 (254 - i) (by omega)) rfl rfl (Nat.le_of_ble_eq_true rfl) ?_
        refine w_is (ls2 := [some (.ref 26), some (.int (nI (254 - i))), some (.int (nI (pop (254 - i)))), none, none]) dX5_findBest_21 rfl ?_
        refine w_k dX5_findBest_22 ?_
        refine w_is (ls2 := [some (.ref 26), some (.int (nI (254 - i))), some (.int (nI (pop (254 - i)))), some (.int (nI 0)), none]) dX5_findBest_23 rfl ?_
        refine w_k dX5_findBest_24 ?_
        refine w_is (ls2 := [some (.ref 26), some (.int (nI (254 - i))), some (.int (nI (pop (254 - i)))), some (.int (nI 0)), some (.int (nI 0))]) dX5_findBest_25 rfl ?_
        have L27 : ∀ (n27 : Nat) (k : Nat), (k ≤ 8) → (8 - k) < n27 → MW mX5_findBest 2 27 [some (.ref 26), some (.int (nI (254 - i))), some (.int (nI (pop (254 - i)))), some (.int (nI (bst J (mjA J i) (254 - i) k))), some (.int (nI k))] [] ρ1 Q := by
          intro n27
          induction n27 with
          | zero =>
            intro k hk hm27
            exact absurd hm27 (Nat.not_lt_zero _)
          | succ n27 ih27 =>
            intro k hk hm27
            have w5 := bst_le hb9 (mjA_le hb9 i) (u := 254 - i) k
            refine w_il dX5_findBest_27 rfl ?_
            refine w_k dX5_findBest_29 ?_
            refine w_icgeN dX5_findBest_31 (by omega) (by omega) (fun h31 => ?_) (fun h31 => ?_)
            · --t
              refine w_al dX5_findBest_62 rfl ?_
              refine w_gr dX5_findBest_63 fl_X5_21 sh26 rfl ?_
              refine w_il dX5_findBest_66 rfl ?_
              refine w_il dX5_findBest_67 rfl ?_
              refine w_iastN dX5_findBest_68 sh30 (by omega) ?_
              refine w_iinc (ls2 := [some (.ref 26), some (.int ((nI (254 - i)) + (-1))), some (.int (nI (pop (254 - i)))), some (.int (nI (bst J (mjA J i) (254 - i) k))), some (.int (nI k))]) dX5_findBest_69 rfl rfl ?_
              refine w_goto dX5_findBest_72 ?_
              refine w_weak (ls2 := [some (.ref 26), some (.int ((nI (254 - i)) + (-1))), none, none, none]) ⟨rfl, ⟨rfl, trivial⟩⟩ ?_
              rw [show nI (254 - i) + (-1) = nI (255 - (i + 1)) + (-1) from by rw [show 255 - (i + 1) = 254 - i by omega]]
              exact ih13 (i + 1) (wI ρ1 30 (254 - i) (nI (bst J (mjA J i) (254 - i) k))) (by omega) ((Fr.only hF1 only_wI (by decide))) (fun v h1 h2 => by
                    by_cases e : v = 254 - i
                    · subst e; rw [rI_eq, mjA_eq, show k = 8 by omega]
                    · rw [rI_ne (fun z => e z.2), mjA_ne e]; exact hM1 v (by omega) h2) (by omega)
            · --f
              refine w_il dX5_findBest_34 rfl ?_
              refine w_il dX5_findBest_35 rfl ?_
              refine w_ishrN dX5_findBest_37 (by omega) (by omega) ?_
              refine w_k dX5_findBest_38 ?_
              refine w_iand1 dX5_findBest_39 ?_
              refine w_ifneN dX5_findBest_40 (by omega) (fun h40 => ?_) (fun h40 => ?_)
              · --t
                refine w_iincN (ls2 := [some (.ref 26), some (.int (nI (254 - i))), some (.int (nI (pop (254 - i)))), some (.int (nI (bst J (mjA J i) (254 - i) k))), some (.int (nI (k + 1)))]) dX5_findBest_56 rfl rfl ?_
                refine w_goto dX5_findBest_59 ?_
                rw [← bst_n h40]
                exact ih27 (k + 1) (by omega) (by omega)
              · --f
                have wb := bt_up (254 - i) (by omega) k (by omega) h40
                have w1 := mjA_le hb9 i ((254 - i) ||| 2 ^ k)
                have w3 := hb9 (pop (254 - i)) k
                refine w_il dX5_findBest_43 rfl ?_
                refine w_al dX5_findBest_44 rfl ?_
                refine w_il dX5_findBest_45 rfl ?_
                refine w_il dX5_findBest_46 rfl ?_
                refine w_il dX5_findBest_48 rfl ?_
                refine w_cVf dX5_findBest_49 (vl_X5_50 _ rfl) sh26 (by decide) (c_X5_joyWith ρ1 J (mjA J i) (pop (254 - i)) k (254 - i) (fun t q ht hq => by rw [(hF1 29 (by decide)).1]; exact hJ t q ht hq) (fun v h1 h2 => hM1 v (by omega) h2) (by omega) (by omega) ⟨wb.1, wb.2.1⟩) rfl rfl (Nat.le_of_ble_eq_true rfl) ?_
                refine w_mmaxN dX5_findBest_52 (sl_X5_54 _ rfl) (by decide) (Nat.le_of_ble_eq_true rfl) (by omega) (by omega) ?_
                refine w_is (ls2 := [some (.ref 26), some (.int (nI (254 - i))), some (.int (nI (pop (254 - i)))), some (.int (nI (max (bst J (mjA J i) (254 - i) k) (J (pop (254 - i)) k + mjA J i ((254 - i) ||| 2 ^ k))))), some (.int (nI k))]) dX5_findBest_55 rfl ?_
                refine w_iincN (ls2 := [some (.ref 26), some (.int (nI (254 - i))), some (.int (nI (pop (254 - i)))), some (.int (nI (max (bst J (mjA J i) (254 - i) k) (J (pop (254 - i)) k + mjA J i ((254 - i) ||| 2 ^ k))))), some (.int (nI (k + 1)))]) dX5_findBest_56 rfl rfl ?_
                refine w_goto dX5_findBest_59 ?_
                rw [← bst_y h40]
                exact ih27 (k + 1) (by omega) (by omega)
        exact L27 _ 0 (by omega) (Nat.lt_succ_self _)
  rw [show nI 254 = nI (255 - 0) + (-1) from by decide]
  exact L13 _ 0 (wI ρ 30 255 (nI 0)) (by omega) ((Fr.only Fr.rf only_wI (by decide))) (fun v h1 h2 => by rw [show v = 255 by omega, rI_eq]; rfl) (Nat.lt_succ_self _)

set_option maxHeartbeats 4000000 in
theorem c_X5_bestJoy (ρ : Rho) (m : Nat) (hM : ρ.1 30 0 = nI m) : CallOK 0 mX5_bestJoy [.ref 26] ρ (fun r ρ2 => r = some (.int (nI m)) ∧ ρ2 = ρ) := by
  refine callOK_of 0 (by decide +kernel) rfl (fun _ => Nat.le_of_ble_eq_true rfl) (ls := [some (.ref 26)]) rfl ?_
  generalize hQ : (fun r ρ2 => r = some (.int (nI m)) ∧ ρ2 = ρ : Option Value → Rho → Prop) = Q
  refine w_al dX5_bestJoy_0 rfl ?_
  refine w_gr dX5_bestJoy_1 fl_X5_21 sh26 rfl ?_
  refine w_k dX5_bestJoy_4 ?_
  refine w_ialdV (v := (nI m)) dX5_bestJoy_5 sh30 (by omega) (hM) ?_
  refine w_iret dX5_bestJoy_6 rfl ?_
  rw [← hQ]
  exact ⟨rfl, rfl⟩

set_option maxHeartbeats 4000000 in
theorem c_X7_best (ρ : Rho) (σ : Sg) (w f t : Int32) (hC : CInv σ ρ) : CallOK 3 mX7_best [.ref 0, .int w, .int f, .int t] ρ (fun r ρ2 => ∃ v, r = some v ∧ (v = .int (r_best σ w f t) ∧ CInv σ ρ2 ∧ EqM ρ ρ2)) := by
  refine callOK_of 0 (by decide +kernel) rfl (fun _ => Nat.le_of_ble_eq_true rfl) (ls := [some (.ref 0), some (.int w), some (.int f), some (.int t)]) rfl ?_
  generalize hQ : (fun r ρ2 => ∃ v, r = some v ∧ (v = .int (r_best σ w f t) ∧ CInv σ ρ2 ∧ EqM ρ ρ2) : Option Value → Rho → Prop) = Q
  refine w_il dX7_best_0 rfl ?_
  refine w_k dX7_best_1 ?_
  refine w_iceq dX7_best_2 (fun h2 => ?_) (fun h2 => ?_)
  · --t
    refine w_il dX7_best_14 rfl ?_
    refine w_il dX7_best_15 rfl ?_
    refine w_cSf dX7_best_16 (sl_X7_150 _ rfl) (by decide) (c_X7_isSpan ρ f t) rfl rfl (Nat.le_of_ble_eq_true rfl) ?_
    refine w_ifneB dX7_best_19 (fun h19 => ?_) (fun h19 => ?_)
    · --t
      obtain ⟨a, b, hab, hb, rfl, rfl⟩ := spn_nI h19
      refine w_al dX7_best_25 rfl ?_
      refine w_il dX7_best_26 rfl ?_
      refine w_il dX7_best_27 rfl ?_
      refine w_cVu dX7_best_28 (vl_X7_225 _ rfl) sh0 (by decide) (c_X7_reckonJoys ρ σ a b hC (by omega) (by omega)) rfl rfl (Nat.le_of_ble_eq_true rfl) (fun ρj hj9 => ?_)
      obtain ⟨hFj, hJ⟩ := hj9
      refine w_al dX7_best_31 rfl ?_
      refine w_gr dX7_best_32 fl_X7_43 sh0 rfl ?_
      refine w_cVu dX7_best_35 (vl_X7_231 _ rfl) sh26 (by decide) (c_X5_findBest ρj (fun u q => jyN σ u q a (b + 1 - a)) hJ (fun t q => jyN_b hC.1.1 t q a (b + 1 - a) (by omega))) rfl rfl (Nat.le_of_ble_eq_true rfl) (fun ρf hf9 => ?_)
      obtain ⟨hFf, hMf, hRf⟩ := hf9
      refine w_il dX7_best_38 rfl ?_
      refine w_k dX7_best_39 ?_
      refine w_icne dX7_best_40 (fun h40 => ?_) (fun h40 => ?_)
      · --t
        exact absurd h2 h40
      · --f
        refine w_al dX7_best_43 rfl ?_
        refine w_gr dX7_best_44 fl_X7_43 sh0 rfl ?_
        refine w_cVf dX7_best_47 (vl_X7_234 _ rfl) sh26 (by decide) (c_X5_bestJoy ρf (mj (fun u q => jyN σ u q a (b + 1 - a)) 0) (hMf 0 (by omega))) rfl rfl (Nat.le_of_ble_eq_true rfl) ?_
        refine w_goto dX7_best_50 ?_
        refine w_iret dX7_best_62 rfl ?_
        rw [← hQ]
        exact ⟨_, rfl, by rw [r_best, if_pos ⟨Or.inl h2, h19⟩, nv_nI (a := a) (by omega), nv_nI (a := b) (by omega), v_best, if_pos h2], ⟨(CP.fr hC.1 (Fr.tr (Fr.sub hFj (S2 := [16, 29, 30, 31]) (by decide)) (Fr.sub hFf (S2 := [16, 29, 30, 31]) (by decide))) (by decide)), (CLd.fr hC.2.1 (Fr.tr (Fr.sub hFj (S2 := [16, 29, 30, 31]) (by decide)) (Fr.sub hFf (S2 := [16, 29, 30, 31]) (by decide))) (by decide)), (CTn.fr hC.2.2 (Fr.tr (Fr.sub hFj (S2 := [16, 29, 30, 31]) (by decide)) (Fr.sub hFf (S2 := [16, 29, 30, 31]) (by decide))) (by decide))⟩, (Fr.eqM (Fr.tr (Fr.sub hFj (S2 := [16, 29, 30, 31]) (by decide)) (Fr.sub hFf (S2 := [16, 29, 30, 31]) (by decide))) (by decide))⟩
    · --f
      refine w_k dX7_best_22 ?_
      refine w_iret dX7_best_24 rfl ?_
      rw [← hQ]
      exact ⟨_, rfl, by rw [r_best, if_neg (fun z => h19 z.2)], ⟨hC.1, hC.2.1, hC.2.2⟩, EqM.rf⟩
  · --f
    refine w_il dX7_best_5 rfl ?_
    refine w_k dX7_best_6 ?_
    refine w_cSf dX7_best_8 (sl_X7_61 _ rfl) (by decide) (c_X7_within ρ w (nI 7)) rfl rfl (Nat.le_of_ble_eq_true rfl) ?_
    refine w_ifeqB dX7_best_11 (fun h11 => ?_) (fun h11 => ?_)
    · --t
      refine w_k dX7_best_22 ?_
      refine w_iret dX7_best_24 rfl ?_
      rw [← hQ]
      exact ⟨_, rfl, by rw [r_best, if_neg (fun z => z.1.elim h2 h11)], ⟨hC.1, hC.2.1, hC.2.2⟩, EqM.rf⟩
    · --f
      obtain ⟨x, hx, rfl⟩ := inR_nI h11 (by decide)
      refine w_il dX7_best_14 rfl ?_
      refine w_il dX7_best_15 rfl ?_
      refine w_cSf dX7_best_16 (sl_X7_150 _ rfl) (by decide) (c_X7_isSpan ρ f t) rfl rfl (Nat.le_of_ble_eq_true rfl) ?_
      refine w_ifneB dX7_best_19 (fun h19 => ?_) (fun h19 => ?_)
      · --t
        obtain ⟨a, b, hab, hb, rfl, rfl⟩ := spn_nI h19
        refine w_al dX7_best_25 rfl ?_
        refine w_il dX7_best_26 rfl ?_
        refine w_il dX7_best_27 rfl ?_
        refine w_cVu dX7_best_28 (vl_X7_225 _ rfl) sh0 (by decide) (c_X7_reckonJoys ρ σ a b hC (by omega) (by omega)) rfl rfl (Nat.le_of_ble_eq_true rfl) (fun ρj hj9 => ?_)
        obtain ⟨hFj, hJ⟩ := hj9
        refine w_al dX7_best_31 rfl ?_
        refine w_gr dX7_best_32 fl_X7_43 sh0 rfl ?_
        refine w_cVu dX7_best_35 (vl_X7_231 _ rfl) sh26 (by decide) (c_X5_findBest ρj (fun u q => jyN σ u q a (b + 1 - a)) hJ (fun t q => jyN_b hC.1.1 t q a (b + 1 - a) (by omega))) rfl rfl (Nat.le_of_ble_eq_true rfl) (fun ρf hf9 => ?_)
        obtain ⟨hFf, hMf, hRf⟩ := hf9
        refine w_il dX7_best_38 rfl ?_
        refine w_k dX7_best_39 ?_
        refine w_icne dX7_best_40 (fun h40 => ?_) (fun h40 => ?_)
        · --t
          refine w_al dX7_best_53 rfl ?_
          refine w_gr dX7_best_54 fl_X7_43 sh0 rfl ?_
          refine w_gr dX7_best_57 fl_X7_237 sh26 rfl ?_
          refine w_il dX7_best_60 rfl ?_
          refine w_ialdV (v := (nI (brw (fun u q => jyN σ u q a (b + 1 - a)) x (usd (fun u q => jyN σ u q a (b + 1 - a)) x)))) dX7_best_61 sh31 (by omega) (hRf _ (by omega)) ?_
          refine w_iret dX7_best_62 rfl ?_
          rw [← hQ]
          exact ⟨_, rfl, by rw [r_best, if_pos ⟨Or.inr h11, h19⟩, nv_nI (a := a) (by omega), nv_nI (a := b) (by omega), v_best, if_neg h2, nv_nI (a := x) (by omega)], ⟨(CP.fr hC.1 (Fr.tr (Fr.sub hFj (S2 := [16, 29, 30, 31]) (by decide)) (Fr.sub hFf (S2 := [16, 29, 30, 31]) (by decide))) (by decide)), (CLd.fr hC.2.1 (Fr.tr (Fr.sub hFj (S2 := [16, 29, 30, 31]) (by decide)) (Fr.sub hFf (S2 := [16, 29, 30, 31]) (by decide))) (by decide)), (CTn.fr hC.2.2 (Fr.tr (Fr.sub hFj (S2 := [16, 29, 30, 31]) (by decide)) (Fr.sub hFf (S2 := [16, 29, 30, 31]) (by decide))) (by decide))⟩, (Fr.eqM (Fr.tr (Fr.sub hFj (S2 := [16, 29, 30, 31]) (by decide)) (Fr.sub hFf (S2 := [16, 29, 30, 31]) (by decide))) (by decide))⟩
        · --f
          exact absurd h40 h2
      · --f
        refine w_k dX7_best_22 ?_
        refine w_iret dX7_best_24 rfl ?_
        rw [← hQ]
        exact ⟨_, rfl, by rw [r_best, if_neg (fun z => h19 z.2)], ⟨hC.1, hC.2.1, hC.2.2⟩, EqM.rf⟩
