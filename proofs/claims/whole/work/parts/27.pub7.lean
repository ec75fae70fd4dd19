section
variable {M : Mth} {j pc nx : Nat} {ls : List (Option Value)} {st : List Value} {ρ : Rho} {Q : Option Value → Rho → Prop}
theorem w_laddL {a b : Nat} (hd : D0 M pc .ladd 1 nx) (k : MW M j nx ls (.long (lN (a + b)) :: st) ρ Q) : MW M j pc ls (.long (lN b) :: .long (lN a) :: st) ρ Q := w_ladd hd (by rw [lN_add]; exact k)
theorem w_lmulL {a b : Nat} (hd : D0 M pc .lmul 1 nx) (k : MW M j nx ls (.long (lN (a * b)) :: st) ρ Q) : MW M j pc ls (.long (lN b) :: .long (lN a) :: st) ρ Q := w_lmul hd (by rw [lN_mul]; exact k)
theorem w_lsubL {a b : Nat} (hd : D0 M pc .lsub 1 nx) (h : b ≤ a) (k : MW M j nx ls (.long (lN (a - b)) :: st) ρ Q) : MW M j pc ls (.long (lN b) :: .long (lN a) :: st) ρ Q := w_lsub hd (by rw [lN_sub h]; exact k)
theorem w_glV {q idx ci slot : Nat} {fs : List Nat} {v : Int64} (hd : D0 M pc (.getfield idx) 3 nx) (hf : FLk (mO M) idx ci slot) (hs : Sh q (.inr (ci, fs))) (hk : fs[slot]? = some 1) (hv : ρ.2 q slot = v) (k : MW M j nx ls (.long v :: st) ρ Q) : MW M j pc ls (.ref q :: st) ρ Q := w_gl hd hf hs hk (by rw [hv]; exact k)
end
theorem rL_eq {ρ : Rho} {k i : Nat} {v : Int64} : (wL ρ k i v).2 k i = v := by simp [wL]
theorem rL_ne {ρ : Rho} {k i a b : Nat} {v : Int64} (h : ¬ (a = k ∧ b = i)) : (wL ρ k i v).2 a b = ρ.2 a b := by simp [wL, h]
theorem updL {ρ : Rho} {k p n : Nat} {v : Int64} {f g : Nat → Int64} (h : ∀ q, q < n → ρ.2 k q = f q) (hv : v = g p) (hg : ∀ q, q ≠ p → g q = f q) : ∀ q, q < n → (wL ρ k p v).2 k q = g q := fun q hq => by
  by_cases e : q = p
  · subst e; rw [rL_eq]; exact hv
  · rw [rL_ne (fun z => e z.2), hg q e]; exact h q hq
theorem extL {ρ : Rho} {k b p : Nat} {v : Int64} {f : Nat → Int64} (h : ∀ q, q < p → ρ.2 k (b + q) = f q) (hv : v = f p) : ∀ q, q < p + 1 → (wL ρ k (b + p) v).2 k (b + q) = f q := fun q hq => by
  by_cases e : q = p
  · subst e; rw [rL_eq]; exact hv
  · rw [rL_ne (fun z => e (by omega))]; exact h q (by omega)
theorem extL0 {ρ : Rho} {k p : Nat} {v : Int64} {f : Nat → Int64} (h : ∀ q, q < p → ρ.2 k q = f q) (hv : v = f p) : ∀ q, q < p + 1 → (wL ρ k p v).2 k q = f q := fun q hq => by
  by_cases e : q = p
  · subst e; rw [rL_eq]; exact hv
  · rw [rL_ne (fun z => e (by omega))]; exact h q (by omega)
theorem keepL {ρ : Rho} {k p b n : Nat} {v : Int64} {f : Nat → Int64} (h : ∀ q, q < n → ρ.2 k (b + q) = f q) (hp : p < b ∨ b + n ≤ p) : ∀ q, q < n → (wL ρ k p v).2 k (b + q) = f q := fun q hq => by
  rw [rL_ne (fun z => by omega)]; exact h q hq
theorem keepL0 {ρ : Rho} {k p n : Nat} {v : Int64} {f : Nat → Int64} (h : ∀ q, q < n → ρ.2 k q = f q) (hp : n ≤ p) : ∀ q, q < n → (wL ρ k p v).2 k q = f q := fun q hq => by
  rw [rL_ne (fun z => by omega)]; exact h q hq
/-! how likely -/
def p16 : Nat → Nat
  | 0 => 1
  | n + 1 => p16 n * 16
theorem p16_pos : ∀ n, 0 < p16 n
  | 0 => by decide
  | n + 1 => by have := p16_pos n; unfold p16; omega
theorem p16_le {n : Nat} (h : n ≤ 12) : p16 n ≤ 2 ^ 48 := by
  match n, h with
  | 0, _ => decide
  | 1, _ => decide
  | 2, _ => decide
  | 3, _ => decide
  | 4, _ => decide
  | 5, _ => decide
  | 6, _ => decide
  | 7, _ => decide
  | 8, _ => decide
  | 9, _ => decide
  | 10, _ => decide
  | 11, _ => decide
  | 12, _ => decide
  | n + 13, h => exact absurd h (by omega)
def mixW (W : Nat → Nat) (g t : Nat) : Nat := W t * (16 - g) + W ((t + 7) % 8) * g
def lkW (σ : Sg) (x y z a g : Nat) : Nat → Nat → Nat
  | 0, t => if t = Tn σ a then 1 else 0
  | i + 1, t => if wkP σ x y z t then 0 else mixW (lkW σ x y z a g i) g t
theorem lkW_y {σ : Sg} {x y z a g i t : Nat} (h : wkP σ x y z t) : lkW σ x y z a g (i + 1) t = 0 := if_pos h
theorem lkW_n {σ : Sg} {x y z a g i t : Nat} (h : ¬ wkP σ x y z t) : lkW σ x y z a g (i + 1) t = mixW (lkW σ x y z a g i) g t := if_neg h
def lyS (σ : Sg) (x y z a g i : Nat) : Nat := sumN (lkW σ x y z a g i) 8
theorem mix_sum (W V : Nat → Nat) (g : Nat) (hg : g ≤ 16) (h : ∀ t, V t ≤ mixW W g t) : sumN V 8 ≤ sumN W 8 * 16 := by
  have e : ∀ t, W t * (16 - g) + W t * g = W t * 16 := fun t => by rw [← Nat.mul_add, show 16 - g + g = 16 by omega]
  have m : ∀ t, t < 8 → V t ≤ W t * (16 - g) + W ((t + 7) % 8) * g := fun t _ => h t
  have m0 := m 0 (by omega); have m1 := m 1 (by omega); have m2 := m 2 (by omega); have m3 := m 3 (by omega); have m4 := m 4 (by omega); have m5 := m 5 (by omega); have m6 := m 6 (by omega); have m7 := m 7 (by omega)
  have e0 := e 0; have e1 := e 1; have e2 := e 2; have e3 := e 3; have e4 := e 4; have e5 := e 5; have e6 := e 6; have e7 := e 7
  simp only [Nat.reduceAdd, Nat.reduceMod] at m0 m1 m2 m3 m4 m5 m6 m7
  simp only [sumN]
  omega
theorem lyS_le (σ : Sg) (x y z a g : Nat) (hg : g ≤ 16) : ∀ i, lyS σ x y z a g i ≤ p16 i
  | 0 => by
    show sumN (fun t => if t = Tn σ a then 1 else 0) 8 ≤ 1
    rw [sumN_congr 8 (g := fun t => if Tn σ a = t then 1 else 0) (fun t _ => by by_cases e : t = Tn σ a <;> simp [e, eq_comm]), sumN_ind (g := fun _ => 1) 8 (Tn_lt σ a)]
    omega
  | i + 1 => by
    have h1 := lyS_le σ x y z a g hg i
    have h2 := mix_sum (lkW σ x y z a g i) (lkW σ x y z a g (i + 1)) g hg (fun t => by
      by_cases c : wkP σ x y z t
      · rw [lkW_y c]; omega
      · rw [lkW_n c]; omega)
    unfold lyS at h1 ⊢
    unfold p16
    omega
theorem lyS_0 (σ : Sg) (x y z a g : Nat) : lyS σ x y z a g 0 = 1 := by
  show sumN (fun t => if t = Tn σ a then 1 else 0) 8 = 1
  rw [sumN_congr 8 (g := fun t => if Tn σ a = t then 1 else 0) (fun t _ => by by_cases e : t = Tn σ a <;> simp [e, eq_comm]), sumN_ind (g := fun _ => 1) 8 (Tn_lt σ a)]
theorem lowT_01 {v : Nat} (h : v < 2) : lowT 0 1 v = lN v := by
  match v, h with
  | 0, _ => decide
  | 1, _ => decide
def v_likely (σ : Sg) (x y z a n g v : Nat) : Int64 := lowT (p16 n - lyS σ x y z a g n) (p16 n) v
abbrev g_likely (p q u d c o w : Int32) : Prop := inR p (nI 0) (nI 7) ∧ inR q (nI 0) (nI 4) ∧ inR u (nI 0) (nI 4) ∧ inR d (nI 0) (nI 99) ∧ inR c (nI 0) (nI 12) ∧ inR o (nI 0) (nI 16) ∧ inR w (nI 0) (nI 1)
def r_likely (σ : Sg) (p q u d c o w : Int32) : Int64 := if g_likely p q u d c o w then v_likely σ (nv p) (nv q) (nv u) (nv d) (nv c) (nv o) (nv w) else -9223372036854775806
theorem lk_step {σ : Sg} {x y z a e i t q : Nat} (h : ¬ wkP σ x y z t) : lN (if q < t then lkW σ x y z a e (i + 1) q else mixW (lkW σ x y z a e i) e q) = lN (if q < t + 1 then lkW σ x y z a e (i + 1) q else mixW (lkW σ x y z a e i) e q) := by
  by_cases c : q = t
  · subst c; rw [if_neg (by omega), if_pos (by omega), lkW_n h]
  · simp only [show (q < t + 1) = (q < t) by simp; omega]
set_option maxHeartbeats 4000000 in
theorem c_X0_begin (ρ : Rho) (T : Nat) (hT : T < 8) : CallOK 1 mX0_begin [.ref 18, .int (nI T)] ρ (fun r ρ2 => r = none ∧ (Fr [18, 19] ρ ρ2 ∧ (∀ q, q < 8 → ρ2.2 19 q = lN (if q = T then 1 else 0)) ∧ ρ2.2 18 1 = lN 1)) := by
  refine callOK_of 0 (by decide +kernel) rfl (fun _ => Nat.le_of_ble_eq_true rfl) (ls := [some (.ref 18), some (.int (nI T))]) rfl ?_
  generalize hQ : (fun r ρ2 => r = none ∧ (Fr [18, 19] ρ ρ2 ∧ (∀ q, q < 8 → ρ2.2 19 q = lN (if q = T then 1 else 0)) ∧ ρ2.2 18 1 = lN 1) : Option Value → Rho → Prop) = Q
  refine w_al dX0_begin_0 rfl ?_
  refine w_gr dX0_begin_1 fl_X0_9 sh18 rfl ?_
  refine w_kl dX0_begin_4 ?_
  refine w_cSv dX0_begin_5 (sl_X0_19 _ rfl) (by decide) (c_fillL ρ 19 8 (lN 0) sh19) rfl rfl (Nat.le_of_ble_eq_true rfl) ?_
  refine w_al dX0_begin_8 rfl ?_
  refine w_gr dX0_begin_9 fl_X0_9 sh18 rfl ?_
  refine w_il dX0_begin_12 rfl ?_
  refine w_kl dX0_begin_13 ?_
  refine w_lastN dX0_begin_14 sh19 (by omega) ?_
  refine w_al dX0_begin_15 rfl ?_
  refine w_kl dX0_begin_16 ?_
  refine w_pl dX0_begin_17 fp_X0_15 sh18 rfl ?_
  refine w_ret dX0_begin_20 rfl ?_
  rw [← hQ]
  exact ⟨rfl, (Fr.only (Fr.only (Fr.only Fr.rf only_fillL (by decide)) only_wL (by decide)) only_wL (by decide)), updL (n := 8) (f := fun _ => lN 0) (g := fun q => lN (if q = T then 1 else 0)) (fun q hq => fillL_at hq) (by rw [if_pos rfl]) (fun q hq => by rw [if_neg hq]), rL_eq⟩

set_option maxHeartbeats 4000000 in
theorem c_X0_oneDay (ρ : Rho) (W : Nat → Nat) (A g : Nat) (hg : g ≤ 16) (hW : ∀ q, q < 8 → ρ.2 19 q = lN (W q)) (hA : ρ.2 18 1 = lN A) : CallOK 0 mX0_oneDay [.ref 18, .int (nI g)] ρ (fun r ρ2 => r = none ∧ (Fr [18, 19] ρ ρ2 ∧ (∀ q, q < 8 → ρ2.2 19 q = lN (mixW W g q)) ∧ ρ2.2 18 1 = lN (A * 16))) := by
  refine callOK_of 5 (by decide +kernel) rfl (fun _ => Nat.le_of_ble_eq_true rfl) (ls := [some (.ref 18), some (.int (nI g)), none, none, none, none, none]) rfl ?_
  generalize hQ : (fun r ρ2 => r = none ∧ (Fr [18, 19] ρ ρ2 ∧ (∀ q, q < 8 → ρ2.2 19 q = lN (mixW W g q)) ∧ ρ2.2 18 1 = lN (A * 16)) : Option Value → Rho → Prop) = Q
  refine w_al dX0_oneDay_0 rfl ?_
  refine w_gr dX0_oneDay_1 fl_X0_9 sh18 rfl ?_
  refine w_k dX0_oneDay_4 ?_
  refine w_laldV (v := (lN (W 7))) dX0_oneDay_6 sh19 (by omega) (hW 7 (by omega)) ?_
  refine w_ls (ls2 := [some (.ref 18), some (.int (nI g)), some (.long (lN (W 7))), none, none, none, none]) dX0_oneDay_7 rfl ?_
  refine w_k dX0_oneDay_8 ?_
  refine w_is (ls2 := [some (.ref 18), some (.int (nI g)), some (.long (lN (W 7))), none, some (.int (nI 0)), none, none]) dX0_oneDay_9 rfl ?_
  have L11 : ∀ (n11 : Nat) (t : Nat) (ρ1 : Rho), (t ≤ 8) → (Fr [19] ρ ρ1) → (∀ q, q < 8 → ρ1.2 19 q = lN (if q < t then mixW W g q else W q)) → (8 - t) < n11 → MW mX0_oneDay 0 11 [some (.ref 18), some (.int (nI g)), some (.long (lN (W ((t + 7) % 8)))), none, some (.int (nI t)), none, none] [] ρ1 Q := by
    intro n11
    induction n11 with
    | zero =>
      intro t ρ1 ht hF1 h1 hm11
      exact absurd hm11 (Nat.not_lt_zero _)
    | succ n11 ih11 =>
      intro t ρ1 ht hF1 h1 hm11
      refine w_il dX0_oneDay_11 rfl ?_
      refine w_k dX0_oneDay_13 ?_
      refine w_icgeN dX0_oneDay_15 (by omega) (by omega) (fun h15 => ?_) (fun h15 => ?_)
      · --t
        refine w_al dX0_oneDay_56 rfl ?_
        refine w_dup dX0_oneDay_57 rfl ?_
        refine w_glV (v := (lN A)) dX0_oneDay_58 fl_X0_15 sh18 rfl (by rw [(hF1 18 (by decide)).2]; exact hA) ?_
        refine w_kl dX0_oneDay_61 ?_
        refine w_lmulL dX0_oneDay_64 ?_
        refine w_pl dX0_oneDay_65 fp_X0_15 sh18 rfl ?_
        refine w_ret dX0_oneDay_68 rfl ?_
        rw [← hQ]
        obtain rfl : t = 8 := by omega
        exact ⟨rfl, (Fr.only (Fr.sub hF1 (by decide)) only_wL (by decide)), fun q hq => by rw [show (wL ρ1 18 1 (lN (A * 16))).2 19 q = ρ1.2 19 q from rL_ne (by omega), h1 q hq, if_pos hq], rL_eq⟩
      · --f
        refine w_al dX0_oneDay_18 rfl ?_
        refine w_gr dX0_oneDay_19 fl_X0_9 sh18 rfl ?_
        refine w_il dX0_oneDay_22 rfl ?_
        refine w_laldV (v := (lN (W t))) dX0_oneDay_24 sh19 (by omega) (by rw [h1 t (by omega), if_neg (by omega)]) ?_
        refine w_ls (ls2 := [some (.ref 18), some (.int (nI g)), some (.long (lN (W ((t + 7) % 8)))), none, some (.int (nI t)), some (.long (lN (W t))), none]) dX0_oneDay_25 rfl ?_
        refine w_al dX0_oneDay_27 rfl ?_
        refine w_gr dX0_oneDay_28 fl_X0_9 sh18 rfl ?_
        refine w_il dX0_oneDay_31 rfl ?_
        refine w_ll dX0_oneDay_33 rfl ?_
        refine w_k dX0_oneDay_35 ?_
        refine w_il dX0_oneDay_37 rfl ?_
        refine w_isubN dX0_oneDay_38 (by omega) ?_
        refine w_i2lN dX0_oneDay_39 (by omega) ?_
        refine w_lmulL dX0_oneDay_40 ?_
        refine w_ll dX0_oneDay_41 rfl ?_
        refine w_il dX0_oneDay_42 rfl ?_
        refine w_i2lN dX0_oneDay_43 (by omega) ?_
        refine w_lmulL dX0_oneDay_44 ?_
        refine w_laddL dX0_oneDay_45 ?_
        refine w_lastN dX0_oneDay_46 sh19 (by omega) ?_
        refine w_ll dX0_oneDay_47 rfl ?_
        refine w_ls (ls2 := [some (.ref 18), some (.int (nI g)), some (.long (lN (W t))), none, some (.int (nI t)), some (.long (lN (W t))), none]) dX0_oneDay_49 rfl ?_
        refine w_iincN (ls2 := [some (.ref 18), some (.int (nI g)), some (.long (lN (W t))), none, some (.int (nI (t + 1))), some (.long (lN (W t))), none]) dX0_oneDay_50 rfl rfl ?_
        refine w_goto dX0_oneDay_53 ?_
        refine w_weak (ls2 := [some (.ref 18), some (.int (nI g)), some (.long (lN (W t))), none, some (.int (nI (t + 1))), none, none]) ⟨rfl, ⟨rfl, ⟨rfl, ⟨rfl, trivial⟩⟩⟩⟩ ?_
        rw [show lN (W t) = lN (W ((t + 1 + 7) % 8)) from by rw [show (t + 1 + 7) % 8 = t by omega]]
        exact ih11 (t + 1) _ (by omega) (Fr.only hF1 only_wL (by decide)) (updL (f := fun q => lN (if q < t then mixW W g q else W q)) (g := fun q => lN (if q < t + 1 then mixW W g q else W q)) h1 (by rw [if_pos (by omega)]; rfl) (fun q hq => by simp only [show (q < t + 1) = (q < t) by simp; omega])) (by omega)
  exact L11 _ 0 ρ (by omega) (Fr.rf) (fun q hq => by rw [if_neg (by omega)]; exact hW q hq) (Nat.lt_succ_self _)

set_option maxHeartbeats 4000000 in
theorem c_X0_left (ρ : Rho) (W : Nat → Nat) (m : Nat) (hW : ∀ q, q < 8 → ρ.2 19 q = lN (W q)) (hm : sumN W 8 = m) : CallOK 0 mX0_left [.ref 18] ρ (fun r ρ2 => r = some (.long (lN m)) ∧ ρ2 = ρ) := by
  refine callOK_of 3 (by decide +kernel) rfl (fun _ => Nat.le_of_ble_eq_true rfl) (ls := [some (.ref 18), none, none, none]) rfl ?_
  generalize hQ : (fun r ρ2 => r = some (.long (lN m)) ∧ ρ2 = ρ : Option Value → Rho → Prop) = Q
  refine w_kl dX0_left_0 ?_
  refine w_ls (ls2 := [some (.ref 18), some (.long (lN 0)), none, none]) dX0_left_1 rfl ?_
  refine w_k dX0_left_2 ?_
  refine w_is (ls2 := [some (.ref 18), some (.long (lN 0)), none, some (.int (nI 0))]) dX0_left_3 rfl ?_
  have L4 : ∀ (n4 : Nat) (t : Nat), (t ≤ 8) → (8 - t) < n4 → MW mX0_left 0 4 [some (.ref 18), some (.long (lN (sumN W t))), none, some (.int (nI t))] [] ρ Q := by
    intro n4
    induction n4 with
    | zero =>
      intro t ht hm4
      exact absurd hm4 (Nat.not_lt_zero _)
    | succ n4 ih4 =>
      intro t ht hm4
      refine w_il dX0_left_4 rfl ?_
      refine w_k dX0_left_5 ?_
      refine w_icgeN dX0_left_7 (by omega) (by omega) (fun h7 => ?_) (fun h7 => ?_)
      · --t
        refine w_ll dX0_left_25 rfl ?_
        refine w_lret dX0_left_26 rfl ?_
        rw [← hQ]
        exact ⟨by rw [← hm, show t = 8 by omega], rfl⟩
      · --f
        refine w_ll dX0_left_10 rfl ?_
        refine w_al dX0_left_11 rfl ?_
        refine w_gr dX0_left_12 fl_X0_9 sh18 rfl ?_
        refine w_il dX0_left_15 rfl ?_
        refine w_laldV (v := (lN (W t))) dX0_left_16 sh19 (by omega) (hW _ (by omega)) ?_
        refine w_laddL dX0_left_17 ?_
        refine w_ls (ls2 := [some (.ref 18), some (.long (lN ((sumN W t) + (W t)))), none, some (.int (nI t))]) dX0_left_18 rfl ?_
        refine w_iincN (ls2 := [some (.ref 18), some (.long (lN ((sumN W t) + (W t)))), none, some (.int (nI (t + 1)))]) dX0_left_19 rfl rfl ?_
        refine w_goto dX0_left_22 ?_
        exact ih4 (t + 1) (by omega) (by omega)
  exact L4 _ 0 (by omega) (Nat.lt_succ_self _)

set_option maxHeartbeats 4000000 in
theorem c_X7_likely (ρ : Rho) (σ : Sg) (p : Int32) (q : Int32) (u : Int32) (d : Int32) (c : Int32) (o : Int32) (w : Int32) (hC : CInv σ ρ) : CallOK 2 mX7_likely [.ref 0, .int p, .int q, .int u, .int d, .int c, .int o, .int w] ρ (fun r ρ2 => ∃ v, r = some v ∧ (v = .long (r_likely σ p q u d c o w) ∧ CInv (σ) ρ2 ∧ EqM ρ ρ2)) := by
  refine callOK_of 3 (by decide +kernel) rfl (fun _ => Nat.le_of_ble_eq_true rfl) (ls := [some (.ref 0), some (.int p), some (.int q), some (.int u), some (.int d), some (.int c), some (.int o), some (.int w), none, none, none]) rfl ?_
  generalize hQ : (fun r ρ2 => ∃ v, r = some v ∧ (v = .long (r_likely σ p q u d c o w) ∧ CInv (σ) ρ2 ∧ EqM ρ ρ2) : Option Value → Rho → Prop) = Q
  refine w_il dX7_likely_0 rfl ?_
  refine w_k dX7_likely_1 ?_
  refine w_cSf dX7_likely_3 (sl_X7_61 _ rfl) (by decide) (c_X7_within ρ p (nI 7)) rfl rfl (Nat.le_of_ble_eq_true rfl) ?_
  refine w_ifeqB dX7_likely_6 (fun h6 => ?_) (fun h6 => ?_)
  · --t
    refine w_k dX7_likely_64 ?_
    refine w_is (ls2 := [some (.ref 0), some (.int p), some (.int q), some (.int u), some (.int d), some (.int c), some (.int o), some (.int w), some (.int (nI 0)), none, none]) dX7_likely_65 rfl ?_
    refine w_il dX7_likely_67 rfl ?_
    refine w_ifneN dX7_likely_69 (by decide) (fun h => absurd h (by decide)) (fun _ => ?_)
    refine w_kl dX7_likely_72 ?_
    refine w_lret dX7_likely_75 rfl ?_
    rw [← hQ]
    exact ⟨_, rfl, by rw [r_likely, if_neg (fun z => h6 z.1)], ⟨hC.1, hC.2.1, hC.2.2⟩, EqM.rf⟩
  · --f
    obtain ⟨x, hx, rfl⟩ := inR_nI h6 (by decide)
    refine w_il dX7_likely_9 rfl ?_
    refine w_cSf dX7_likely_10 (sl_X7_147 _ rfl) (by decide) (c_X7_isThing ρ q) rfl rfl (Nat.le_of_ble_eq_true rfl) ?_
    refine w_ifeqB dX7_likely_13 (fun h13 => ?_) (fun h13 => ?_)
    · --t
      refine w_k dX7_likely_64 ?_
      refine w_is (ls2 := [some (.ref 0), some (.int (nI x)), some (.int q), some (.int u), some (.int d), some (.int c), some (.int o), some (.int w), some (.int (nI 0)), none, none]) dX7_likely_65 rfl ?_
      refine w_il dX7_likely_67 rfl ?_
      refine w_ifneN dX7_likely_69 (by decide) (fun h => absurd h (by decide)) (fun _ => ?_)
      refine w_kl dX7_likely_72 ?_
      refine w_lret dX7_likely_75 rfl ?_
      rw [← hQ]
      exact ⟨_, rfl, by rw [r_likely, if_neg (fun z => h13 z.2.1)], ⟨hC.1, hC.2.1, hC.2.2⟩, EqM.rf⟩
    · --f
      obtain ⟨y, hy, rfl⟩ := inR_nI h13 (by decide)
      refine w_il dX7_likely_16 rfl ?_
      refine w_cSf dX7_likely_17 (sl_X7_147 _ rfl) (by decide) (c_X7_isThing ρ u) rfl rfl (Nat.le_of_ble_eq_true rfl) ?_
      refine w_ifeqB dX7_likely_20 (fun h20 => ?_) (fun h20 => ?_)
      · --t
        refine w_k dX7_likely_64 ?_
        refine w_is (ls2 := [some (.ref 0), some (.int (nI x)), some (.int (nI y)), some (.int u), some (.int d), some (.int c), some (.int o), some (.int w), some (.int (nI 0)), none, none]) dX7_likely_65 rfl ?_
        refine w_il dX7_likely_67 rfl ?_
        refine w_ifneN dX7_likely_69 (by decide) (fun h => absurd h (by decide)) (fun _ => ?_)
        refine w_kl dX7_likely_72 ?_
        refine w_lret dX7_likely_75 rfl ?_
        rw [← hQ]
        exact ⟨_, rfl, by rw [r_likely, if_neg (fun z => h20 z.2.2.1)], ⟨hC.1, hC.2.1, hC.2.2⟩, EqM.rf⟩
      · --f
        obtain ⟨z, hz, rfl⟩ := inR_nI h20 (by decide)
        refine w_il dX7_likely_23 rfl ?_
        refine w_cSf dX7_likely_25 (sl_X7_87 _ rfl) (by decide) (c_X7_isDay ρ d) rfl rfl (Nat.le_of_ble_eq_true rfl) ?_
        refine w_ifeqB dX7_likely_28 (fun h28 => ?_) (fun h28 => ?_)
        · --t
          refine w_k dX7_likely_64 ?_
          refine w_is (ls2 := [some (.ref 0), some (.int (nI x)), some (.int (nI y)), some (.int (nI z)), some (.int d), some (.int c), some (.int o), some (.int w), some (.int (nI 0)), none, none]) dX7_likely_65 rfl ?_
          refine w_il dX7_likely_67 rfl ?_
          refine w_ifneN dX7_likely_69 (by decide) (fun h => absurd h (by decide)) (fun _ => ?_)
          refine w_kl dX7_likely_72 ?_
          refine w_lret dX7_likely_75 rfl ?_
          rw [← hQ]
          exact ⟨_, rfl, by rw [r_likely, if_neg (fun z => h28 z.2.2.2.1)], ⟨hC.1, hC.2.1, hC.2.2⟩, EqM.rf⟩
        · --f
          obtain ⟨a, ha, rfl⟩ := inR_nI h28 (by decide)
          refine w_il dX7_likely_31 rfl ?_
          refine w_k dX7_likely_33 ?_
          refine w_cSf dX7_likely_35 (sl_X7_61 _ rfl) (by decide) (c_X7_within ρ c (nI 12)) rfl rfl (Nat.le_of_ble_eq_true rfl) ?_
          refine w_ifeqB dX7_likely_38 (fun h38 => ?_) (fun h38 => ?_)
          · --t
            refine w_k dX7_likely_64 ?_
            refine w_is (ls2 := [some (.ref 0), some (.int (nI x)), some (.int (nI y)), some (.int (nI z)), some (.int (nI a)), some (.int c), some (.int o), some (.int w), some (.int (nI 0)), none, none]) dX7_likely_65 rfl ?_
            refine w_il dX7_likely_67 rfl ?_
            refine w_ifneN dX7_likely_69 (by decide) (fun h => absurd h (by decide)) (fun _ => ?_)
            refine w_kl dX7_likely_72 ?_
            refine w_lret dX7_likely_75 rfl ?_
            rw [← hQ]
            exact ⟨_, rfl, by rw [r_likely, if_neg (fun z => h38 z.2.2.2.2.1)], ⟨hC.1, hC.2.1, hC.2.2⟩, EqM.rf⟩
          · --f
            obtain ⟨n, hn, rfl⟩ := inR_nI h38 (by decide)
            refine w_il dX7_likely_41 rfl ?_
            refine w_k dX7_likely_43 ?_
            refine w_cSf dX7_likely_45 (sl_X7_61 _ rfl) (by decide) (c_X7_within ρ o (nI 16)) rfl rfl (Nat.le_of_ble_eq_true rfl) ?_
            refine w_ifeqB dX7_likely_48 (fun h48 => ?_) (fun h48 => ?_)
            · --t
              refine w_k dX7_likely_64 ?_
              refine w_is (ls2 := [some (.ref 0), some (.int (nI x)), some (.int (nI y)), some (.int (nI z)), some (.int (nI a)), some (.int (nI n)), some (.int o), some (.int w), some (.int (nI 0)), none, none]) dX7_likely_65 rfl ?_
              refine w_il dX7_likely_67 rfl ?_
              refine w_ifneN dX7_likely_69 (by decide) (fun h => absurd h (by decide)) (fun _ => ?_)
              refine w_kl dX7_likely_72 ?_
              refine w_lret dX7_likely_75 rfl ?_
              rw [← hQ]
              exact ⟨_, rfl, by rw [r_likely, if_neg (fun z => h48 z.2.2.2.2.2.1)], ⟨hC.1, hC.2.1, hC.2.2⟩, EqM.rf⟩
            · --f
              obtain ⟨e, he, rfl⟩ := inR_nI h48 (by decide)
              refine w_il dX7_likely_51 rfl ?_
              refine w_k dX7_likely_53 ?_
              refine w_cSf dX7_likely_54 (sl_X7_61 _ rfl) (by decide) (c_X7_within ρ w (nI 1)) rfl rfl (Nat.le_of_ble_eq_true rfl) ?_
              refine w_ifeqB dX7_likely_57 (fun h57 => ?_) (fun h57 => ?_)
              · --t
                refine w_k dX7_likely_64 ?_
                refine w_is (ls2 := [some (.ref 0), some (.int (nI x)), some (.int (nI y)), some (.int (nI z)), some (.int (nI a)), some (.int (nI n)), some (.int (nI e)), some (.int w), some (.int (nI 0)), none, none]) dX7_likely_65 rfl ?_
                refine w_il dX7_likely_67 rfl ?_
                refine w_ifneN dX7_likely_69 (by decide) (fun h => absurd h (by decide)) (fun _ => ?_)
                refine w_kl dX7_likely_72 ?_
                refine w_lret dX7_likely_75 rfl ?_
                rw [← hQ]
                exact ⟨_, rfl, by rw [r_likely, if_neg (fun z => h57 z.2.2.2.2.2.2)], ⟨hC.1, hC.2.1, hC.2.2⟩, EqM.rf⟩
              · --f
                obtain ⟨v, hv, rfl⟩ := inR_nI h57 (by decide)
                refine w_k dX7_likely_60 ?_
                refine w_goto dX7_likely_61 ?_
                refine w_is (ls2 := [some (.ref 0), some (.int (nI x)), some (.int (nI y)), some (.int (nI z)), some (.int (nI a)), some (.int (nI n)), some (.int (nI e)), some (.int (nI v)), some (.int (nI 1)), none, none]) dX7_likely_65 rfl ?_
                refine w_il dX7_likely_67 rfl ?_
                refine w_ifneN dX7_likely_69 (by decide) (fun _ => ?_) (fun h => absurd h (by decide))
                refine w_al dX7_likely_76 rfl ?_
                refine w_gr dX7_likely_77 fl_X7_26 sh0 rfl ?_
                refine w_al dX7_likely_80 rfl ?_
                refine w_gr dX7_likely_81 fl_X7_19 sh0 rfl ?_
                refine w_gr dX7_likely_84 fl_X7_98 sh10 rfl ?_
                refine w_il dX7_likely_87 rfl ?_
                refine w_ialdV (v := (nI (Tn σ a))) dX7_likely_89 sh15 (by omega) (hC.2.2 _ (by omega)) ?_
                refine w_cVu dX7_likely_90 (vl_X7_184 _ rfl) sh18 (by decide) (c_X0_begin ρ (Tn σ a) (Tn_lt _ _)) rfl rfl (Nat.le_of_ble_eq_true rfl) (fun ρb hb9 => ?_)
                obtain ⟨hFb, hWb, hAb⟩ := hb9
                refine w_k dX7_likely_93 ?_
                refine w_is (ls2 := [some (.ref 0), some (.int (nI x)), some (.int (nI y)), some (.int (nI z)), some (.int (nI a)), some (.int (nI n)), some (.int (nI e)), some (.int (nI v)), some (.int (nI 1)), some (.int (nI 0)), none]) dX7_likely_94 rfl ?_
                have L96 : ∀ (n96 : Nat) (i : Nat) (ρ1 : Rho), (i ≤ n) → (Fr [18, 19] ρ ρ1) → (∀ q, q < 8 → ρ1.2 19 q = lN (lkW σ x y z a e i q)) → (ρ1.2 18 1 = lN (p16 i)) → (n - i) < n96 → MW mX7_likely 2 96 [some (.ref 0), some (.int (nI x)), some (.int (nI y)), some (.int (nI z)), some (.int (nI a)), some (.int (nI n)), some (.int (nI e)), some (.int (nI v)), none, some (.int (nI i)), none] [] ρ1 Q := by
                  intro n96
                  induction n96 with
                  | zero =>
                    intro i ρ1 hi hF1 hW1 hA1 hm96
                    exact absurd hm96 (Nat.not_lt_zero _)
                  | succ n96 ih96 =>
                    intro i ρ1 hi hF1 hW1 hA1 hm96
                    refine w_il dX7_likely_96 rfl ?_
                    refine w_il dX7_likely_98 rfl ?_
                    refine w_icgeN dX7_likely_100 (by omega) (by omega) (fun h100 => ?_) (fun h100 => ?_)
                    · --t
                      obtain rfl : i = n := by omega
                      have w1 := lyS_le σ x y z a e (by omega) i
                      have w2 := p16_pos i
                      have w3 := p16_le (n := i) (by omega)
                      refine w_al dX7_likely_160 rfl ?_
                      refine w_gr dX7_likely_161 fl_X7_26 sh0 rfl ?_
                      refine w_glV (v := (lN (p16 i))) dX7_likely_164 fl_X7_194 sh18 rfl (hA1) ?_
                      refine w_al dX7_likely_167 rfl ?_
                      refine w_gr dX7_likely_168 fl_X7_26 sh0 rfl ?_
                      refine w_cVf dX7_likely_171 (vl_X7_198 _ rfl) sh18 (by decide) (c_X0_left ρ1 (lkW σ x y z a e i) (lyS σ x y z a e i) hW1 rfl) rfl rfl (Nat.le_of_ble_eq_true rfl) ?_
                      refine w_lsubL dX7_likely_174 (by omega) ?_
                      refine w_al dX7_likely_175 rfl ?_
                      refine w_gr dX7_likely_176 fl_X7_26 sh0 rfl ?_
                      refine w_glV (v := (lN (p16 i))) dX7_likely_179 fl_X7_194 sh18 rfl (hA1) ?_
                      refine w_il dX7_likely_182 rfl ?_
                      refine w_cSf dX7_likely_184 (sl_X7_161 _ rfl) (by decide) (c_X7_lowestTerms ρ1 ((p16 i) - (lyS σ x y z a e i)) (p16 i) v (by omega) (by omega) (by omega) (by omega)) rfl rfl (Nat.le_of_ble_eq_true rfl) ?_
                      refine w_lret dX7_likely_187 rfl ?_
                      rw [← hQ]
                      exact ⟨_, rfl, by rw [r_likely, if_pos ⟨h6, h13, h20, h28, h38, h48, h57⟩, nv_nI (a := x) (by omega), nv_nI (a := y) (by omega), nv_nI (a := z) (by omega), nv_nI (a := a) (by omega), nv_nI (a := i) (by omega), nv_nI (a := e) (by omega), nv_nI (a := v) (by omega), v_likely], ⟨(CP.fr hC.1 hF1 (by decide)), (CLd.fr hC.2.1 hF1 (by decide)), (CTn.fr hC.2.2 hF1 (by decide))⟩, (Fr.eqM hF1 (by decide))⟩
                    · --f
                      refine w_al dX7_likely_103 rfl ?_
                      refine w_gr dX7_likely_104 fl_X7_26 sh0 rfl ?_
                      refine w_il dX7_likely_107 rfl ?_
                      refine w_cVu dX7_likely_109 (vl_X7_187 _ rfl) sh18 (by decide) (c_X0_oneDay ρ1 (lkW σ x y z a e i) (p16 i) e (by omega) hW1 hA1) rfl rfl (Nat.le_of_ble_eq_true rfl) (fun ρd hd9 => ?_)
                      obtain ⟨hFd, hWd, hAd⟩ := hd9
                      refine w_k dX7_likely_112 ?_
                      refine w_is (ls2 := [some (.ref 0), some (.int (nI x)), some (.int (nI y)), some (.int (nI z)), some (.int (nI a)), some (.int (nI n)), some (.int (nI e)), some (.int (nI v)), none, some (.int (nI i)), some (.int (nI 0))]) dX7_likely_113 rfl ?_
                      have L115 : ∀ (n115 : Nat) (t : Nat) (ρ2 : Rho), (t ≤ 8) → (Fr [18, 19] ρ ρ2) → (∀ q, q < 8 → ρ2.2 19 q = lN (if q < t then lkW σ x y z a e (i + 1) q else mixW (lkW σ x y z a e i) e q)) → (ρ2.2 18 1 = lN (p16 (i + 1))) → (8 - t) < n115 → MW mX7_likely 2 115 [some (.ref 0), some (.int (nI x)), some (.int (nI y)), some (.int (nI z)), some (.int (nI a)), some (.int (nI n)), some (.int (nI e)), some (.int (nI v)), none, some (.int (nI i)), some (.int (nI t))] [] ρ2 Q := by
                        intro n115
                        induction n115 with
                        | zero =>
                          intro t ρ2 ht hF2 hW2 hA2 hm115
                          exact absurd hm115 (Nat.not_lt_zero _)
                        | succ n115 ih115 =>
                          intro t ρ2 ht hF2 hW2 hA2 hm115
                          refine w_il dX7_likely_115 rfl ?_
                          refine w_k dX7_likely_117 ?_
                          refine w_icgeN dX7_likely_119 (by omega) (by omega) (fun h119 => ?_) (fun h119 => ?_)
                          · --t
                            refine w_iincN (ls2 := [some (.ref 0), some (.int (nI x)), some (.int (nI y)), some (.int (nI z)), some (.int (nI a)), some (.int (nI n)), some (.int (nI e)), some (.int (nI v)), none, some (.int (nI (i + 1))), some (.int (nI t))]) dX7_likely_154 rfl rfl ?_
                            refine w_goto dX7_likely_157 ?_
                            refine w_weak (ls2 := [some (.ref 0), some (.int (nI x)), some (.int (nI y)), some (.int (nI z)), some (.int (nI a)), some (.int (nI n)), some (.int (nI e)), some (.int (nI v)), none, some (.int (nI (i + 1))), none]) ⟨rfl, ⟨rfl, ⟨rfl, ⟨rfl, ⟨rfl, ⟨rfl, ⟨rfl, ⟨rfl, ⟨rfl, trivial⟩⟩⟩⟩⟩⟩⟩⟩⟩ ?_
                            exact ih96 (i + 1) ρ2 (by omega) (hF2) (fun q hq => by rw [hW2 q hq, if_pos (by omega)]) (hA2) (by omega)
                          · --f
                            refine w_al dX7_likely_122 rfl ?_
                            refine w_gr dX7_likely_123 fl_X7_10 sh0 rfl ?_
                            refine w_il dX7_likely_126 rfl ?_
                            refine w_il dX7_likely_127 rfl ?_
                            refine w_il dX7_likely_128 rfl ?_
                            refine w_il dX7_likely_129 rfl ?_
                            refine w_cVf dX7_likely_131 (vl_X7_177 _ rfl) sh1 (by decide) (c_X3_canWork ρ2 σ x y z t (CLd.fr hC.2.1 hF2 (by decide)) (by omega) (by omega) (by omega) (by omega)) rfl rfl (Nat.le_of_ble_eq_true rfl) ?_
                            refine w_ifeqB dX7_likely_134 (fun h134 => ?_) (fun h134 => ?_)
                            · --t
                              refine w_iincN (ls2 := [some (.ref 0), some (.int (nI x)), some (.int (nI y)), some (.int (nI z)), some (.int (nI a)), some (.int (nI n)), some (.int (nI e)), some (.int (nI v)), none, some (.int (nI i)), some (.int (nI (t + 1)))]) dX7_likely_148 rfl rfl ?_
                              refine w_goto dX7_likely_151 ?_
                              exact ih115 (t + 1) ρ2 (by omega) (hF2) (fun q hq => by rw [hW2 q hq]; exact lk_step h134) (hA2) (by omega)
                            · --f
                              refine w_al dX7_likely_137 rfl ?_
                              refine w_gr dX7_likely_138 fl_X7_26 sh0 rfl ?_
                              refine w_gr dX7_likely_141 fl_X7_190 sh18 rfl ?_
                              refine w_il dX7_likely_144 rfl ?_
                              refine w_kl dX7_likely_146 ?_
                              refine w_lastN dX7_likely_147 sh19 (by omega) ?_
                              refine w_iincN (ls2 := [some (.ref 0), some (.int (nI x)), some (.int (nI y)), some (.int (nI z)), some (.int (nI a)), some (.int (nI n)), some (.int (nI e)), some (.int (nI v)), none, some (.int (nI i)), some (.int (nI (t + 1)))]) dX7_likely_148 rfl rfl ?_
                              refine w_goto dX7_likely_151 ?_
                              exact ih115 (t + 1) (wL ρ2 19 t (lN 0)) (by omega) (Fr.only hF2 only_wL (by decide)) (updL (f := fun q => lN (if q < t then lkW σ x y z a e (i + 1) q else mixW (lkW σ x y z a e i) e q)) (g := fun q => lN (if q < t + 1 then lkW σ x y z a e (i + 1) q else mixW (lkW σ x y z a e i) e q)) hW2 (by rw [if_pos (by omega), lkW_y h134]) (fun q hq => by simp only [show (q < t + 1) = (q < t) by simp; omega])) (by rw [rL_ne (by omega)]; exact hA2) (by omega)
                      exact L115 _ 0 ρd (by omega) (Fr.tr hF1 hFd) (fun q hq => by rw [if_neg (by omega)]; exact hWd q hq) (hAd) (Nat.lt_succ_self _)
                refine w_weak (ls2 := [some (.ref 0), some (.int (nI x)), some (.int (nI y)), some (.int (nI z)), some (.int (nI a)), some (.int (nI n)), some (.int (nI e)), some (.int (nI v)), none, some (.int (nI 0)), none]) ⟨rfl, ⟨rfl, ⟨rfl, ⟨rfl, ⟨rfl, ⟨rfl, ⟨rfl, ⟨rfl, ⟨rfl, trivial⟩⟩⟩⟩⟩⟩⟩⟩⟩ ?_
                exact L96 _ 0 ρb (by omega) (hFb) (hWb) (hAb) (Nat.lt_succ_self _)

set_option maxHeartbeats 4000000 in
theorem c_X8_likely (ρ : Rho) (σ : Sg) (p : Int32) (q : Int32) (u : Int32) (d : Int32) (c : Int32) (o : Int32) (w : Int32) (hM : MInv σ ρ) : CallOK 5 mX8_likely [.ref 47, .int p, .int q, .int u, .int d, .int c, .int o, .int w] ρ (fun r ρ2 => ∃ v, r = some v ∧ (v = .long (r_likely σ p q u d c o w) ∧ MInv (σ) ρ2 ∧ EqC ρ ρ2)) := by
  refine callOK_of 5 (by decide +kernel) rfl (fun _ => Nat.le_of_ble_eq_true rfl) (ls := [some (.ref 47), some (.int p), some (.int q), some (.int u), some (.int d), some (.int c), some (.int o), some (.int w), none, none, none, none, none]) rfl ?_
  generalize hQ : (fun r ρ2 => ∃ v, r = some v ∧ (v = .long (r_likely σ p q u d c o w) ∧ MInv (σ) ρ2 ∧ EqC ρ ρ2) : Option Value → Rho → Prop) = Q
  refine w_il dX8_likely_0 rfl ?_
  refine w_cSf dX8_likely_1 (sl_X8_118 _ rfl) (by decide) (c_X8_isEighth ρ p) rfl rfl (Nat.le_of_ble_eq_true rfl) ?_
  refine w_ifeqB dX8_likely_4 (fun h4 => ?_) (fun h4 => ?_)
  · --t
    refine w_k dX8_likely_61 ?_
    refine w_cSf dX8_likely_63 (sl_X8_169 _ rfl) (by decide) (c_X8_no ρ) rfl rfl (Nat.le_of_ble_eq_true rfl) ?_
    refine w_lret dX8_likely_66 rfl ?_
    rw [← hQ]
    exact ⟨_, rfl, by rw [r_likely, if_neg (fun z => h4 z.1)], hM, EqC.rf⟩
  · --f
    obtain ⟨x, hx, rfl⟩ := inR_nI h4 (by decide)
    refine w_il dX8_likely_7 rfl ?_
    refine w_cSf dX8_likely_8 (sl_X8_163 _ rfl) (by decide) (c_X8_isThing ρ q) rfl rfl (Nat.le_of_ble_eq_true rfl) ?_
    refine w_ifeqB dX8_likely_11 (fun h11 => ?_) (fun h11 => ?_)
    · --t
      refine w_k dX8_likely_61 ?_
      refine w_cSf dX8_likely_63 (sl_X8_169 _ rfl) (by decide) (c_X8_no ρ) rfl rfl (Nat.le_of_ble_eq_true rfl) ?_
      refine w_lret dX8_likely_66 rfl ?_
      rw [← hQ]
      exact ⟨_, rfl, by rw [r_likely, if_neg (fun z => h11 z.2.1)], hM, EqC.rf⟩
    · --f
      obtain ⟨y, hy, rfl⟩ := inR_nI h11 (by decide)
      refine w_il dX8_likely_14 rfl ?_
      refine w_cSf dX8_likely_15 (sl_X8_163 _ rfl) (by decide) (c_X8_isThing ρ u) rfl rfl (Nat.le_of_ble_eq_true rfl) ?_
      refine w_ifeqB dX8_likely_18 (fun h18 => ?_) (fun h18 => ?_)
      · --t
        refine w_k dX8_likely_61 ?_
        refine w_cSf dX8_likely_63 (sl_X8_169 _ rfl) (by decide) (c_X8_no ρ) rfl rfl (Nat.le_of_ble_eq_true rfl) ?_
        refine w_lret dX8_likely_66 rfl ?_
        rw [← hQ]
        exact ⟨_, rfl, by rw [r_likely, if_neg (fun z => h18 z.2.2.1)], hM, EqC.rf⟩
      · --f
        obtain ⟨z, hz, rfl⟩ := inR_nI h18 (by decide)
        refine w_il dX8_likely_21 rfl ?_
        refine w_cSf dX8_likely_23 (sl_X8_148 _ rfl) (by decide) (c_X8_isDay ρ d) rfl rfl (Nat.le_of_ble_eq_true rfl) ?_
        refine w_ifeqB dX8_likely_26 (fun h26 => ?_) (fun h26 => ?_)
        · --t
          refine w_k dX8_likely_61 ?_
          refine w_cSf dX8_likely_63 (sl_X8_169 _ rfl) (by decide) (c_X8_no ρ) rfl rfl (Nat.le_of_ble_eq_true rfl) ?_
          refine w_lret dX8_likely_66 rfl ?_
          rw [← hQ]
          exact ⟨_, rfl, by rw [r_likely, if_neg (fun z => h26 z.2.2.2.1)], hM, EqC.rf⟩
        · --f
          obtain ⟨a, ha, rfl⟩ := inR_nI h26 (by decide)
          refine w_il dX8_likely_29 rfl ?_
          refine w_k dX8_likely_31 ?_
          refine w_k dX8_likely_32 ?_
          refine w_cSf dX8_likely_34 (sl_X8_89 _ rfl) (by decide) (c_X8_in ρ c (nI 0) (nI 12)) rfl rfl (Nat.le_of_ble_eq_true rfl) ?_
          refine w_ifeqB dX8_likely_37 (fun h37 => ?_) (fun h37 => ?_)
          · --t
            refine w_k dX8_likely_61 ?_
            refine w_cSf dX8_likely_63 (sl_X8_169 _ rfl) (by decide) (c_X8_no ρ) rfl rfl (Nat.le_of_ble_eq_true rfl) ?_
            refine w_lret dX8_likely_66 rfl ?_
            rw [← hQ]
            exact ⟨_, rfl, by rw [r_likely, if_neg (fun z => h37 z.2.2.2.2.1)], hM, EqC.rf⟩
          · --f
            obtain ⟨n, hn, rfl⟩ := inR_nI h37 (by decide)
            refine w_il dX8_likely_40 rfl ?_
            refine w_k dX8_likely_42 ?_
            refine w_k dX8_likely_43 ?_
            refine w_cSf dX8_likely_45 (sl_X8_89 _ rfl) (by decide) (c_X8_in ρ o (nI 0) (nI 16)) rfl rfl (Nat.le_of_ble_eq_true rfl) ?_
            refine w_ifeqB dX8_likely_48 (fun h48 => ?_) (fun h48 => ?_)
            · --t
              refine w_k dX8_likely_61 ?_
              refine w_cSf dX8_likely_63 (sl_X8_169 _ rfl) (by decide) (c_X8_no ρ) rfl rfl (Nat.le_of_ble_eq_true rfl) ?_
              refine w_lret dX8_likely_66 rfl ?_
              rw [← hQ]
              exact ⟨_, rfl, by rw [r_likely, if_neg (fun z => h48 z.2.2.2.2.2.1)], hM, EqC.rf⟩
            · --f
              obtain ⟨e, he, rfl⟩ := inR_nI h48 (by decide)
              refine w_il dX8_likely_51 rfl ?_
              refine w_k dX8_likely_53 ?_
              refine w_k dX8_likely_54 ?_
              refine w_cSf dX8_likely_55 (sl_X8_89 _ rfl) (by decide) (c_X8_in ρ w (nI 0) (nI 1)) rfl rfl (Nat.le_of_ble_eq_true rfl) ?_
              refine w_ifneB dX8_likely_58 (fun h58 => ?_) (fun h58 => ?_)
              · --t
                obtain ⟨v, hv, rfl⟩ := inR_nI h58 (by decide)
                refine w_al dX8_likely_67 rfl ?_
                refine w_cVu dX8_likely_68 (vl_X8_145 _ rfl) sh47 (by decide) (c_X8_lays ρ σ hM) rfl rfl (Nat.le_of_ble_eq_true rfl) (fun ρl1 hl1 => ?_)
                obtain ⟨hMl1, hEl1, hDl1⟩ := hl1
                refine w_k dX8_likely_71 ?_
                refine w_is (ls2 := [some (.ref 47), some (.int (nI x)), some (.int (nI y)), some (.int (nI z)), some (.int (nI a)), some (.int (nI n)), some (.int (nI e)), some (.int (nI v)), some (.int (nI 0)), none, none, none, none]) dX8_likely_72 rfl ?_
                have L74 : ∀ (n74 : Nat) (t : Nat) (ρ1 : Rho), (t ≤ 8) → (MInv σ ρ1) → (EqC ρ ρ1) → (Laid σ ρ1) → (∀ q, q < t → ρ1.2 59 q = lN (lkW σ x y z a e 0 q)) → (8 - t) < n74 → MW mX8_likely 5 74 [some (.ref 47), some (.int (nI x)), some (.int (nI y)), some (.int (nI z)), some (.int (nI a)), some (.int (nI n)), some (.int (nI e)), some (.int (nI v)), some (.int (nI t)), none, none, none, none] [] ρ1 Q := by
                  intro n74
                  induction n74 with
                  | zero =>
                    intro t ρ1 ht hM1 hE1 hD1 hW1 hm74
                    exact absurd hm74 (Nat.not_lt_zero _)
                  | succ n74 ih74 =>
                    intro t ρ1 ht hM1 hE1 hD1 hW1 hm74
                    have wt := Tn_lt σ a
                    refine w_il dX8_likely_74 rfl ?_
                    refine w_k dX8_likely_76 ?_
                    refine w_icgeN dX8_likely_78 (by omega) (by omega) (fun h78 => ?_) (fun h78 => ?_)
                    · --t
                      refine w_kl dX8_likely_111 ?_
                      refine w_ls (ls2 := [some (.ref 47), some (.int (nI x)), some (.int (nI y)), some (.int (nI z)), some (.int (nI a)), some (.int (nI n)), some (.int (nI e)), some (.int (nI v)), some (.long (lN 1)), none, none, none, none]) dX8_likely_112 rfl ?_
                      refine w_k dX8_likely_114 ?_
                      refine w_is (ls2 := [some (.ref 47), some (.int (nI x)), some (.int (nI y)), some (.int (nI z)), some (.int (nI a)), some (.int (nI n)), some (.int (nI e)), some (.int (nI v)), some (.long (lN 1)), none, some (.int (nI 0)), none, none]) dX8_likely_115 rfl ?_
                      have L117 : ∀ (n117 : Nat) (i : Nat) (ρ2 : Rho), (i ≤ n) → (MInv σ ρ2) → (EqC ρ ρ2) → (Laid σ ρ2) → (∀ q, q < 8 → ρ2.2 59 q = lN (lkW σ x y z a e i q)) → (n - i) < n117 → MW mX8_likely 5 117 [some (.ref 47), some (.int (nI x)), some (.int (nI y)), some (.int (nI z)), some (.int (nI a)), some (.int (nI n)), some (.int (nI e)), some (.int (nI v)), some (.long (lN (p16 i))), none, some (.int (nI i)), none, none] [] ρ2 Q := by
                        intro n117
                        induction n117 with
                        | zero =>
                          intro i ρ2 hi hM2 hE2 hD2 hW2 hm117
                          exact absurd hm117 (Nat.not_lt_zero _)
                        | succ n117 ih117 =>
                          intro i ρ2 hi hM2 hE2 hD2 hW2 hm117
                          refine w_il dX8_likely_117 rfl ?_
                          refine w_il dX8_likely_119 rfl ?_
                          refine w_icgeN dX8_likely_121 (by omega) (by omega) (fun h121 => ?_) (fun h121 => ?_)
                          · --t
                            obtain rfl : n = i := by omega
                            have w1 := lyS_le σ x y z a e (by omega) n
                            have w2 := p16_pos n
                            have w3 := p16_le (n := n) (by omega)
                            refine w_kl dX8_likely_245 ?_
                            refine w_ls (ls2 := [some (.ref 47), some (.int (nI x)), some (.int (nI y)), some (.int (nI z)), some (.int (nI a)), some (.int (nI n)), some (.int (nI e)), some (.int (nI v)), some (.long (lN (p16 n))), none, some (.long (lN 0)), none, none]) dX8_likely_246 rfl ?_
                            refine w_k dX8_likely_248 ?_
                            refine w_is (ls2 := [some (.ref 47), some (.int (nI x)), some (.int (nI y)), some (.int (nI z)), some (.int (nI a)), some (.int (nI n)), some (.int (nI e)), some (.int (nI v)), some (.long (lN (p16 n))), none, some (.long (lN 0)), none, some (.int (nI 0))]) dX8_likely_249 rfl ?_
                            have L251 : ∀ (n251 : Nat) (s : Nat), (s ≤ 8) → (8 - s) < n251 → MW mX8_likely 5 251 [some (.ref 47), some (.int (nI x)), some (.int (nI y)), some (.int (nI z)), some (.int (nI a)), some (.int (nI n)), some (.int (nI e)), some (.int (nI v)), some (.long (lN (p16 n))), none, some (.long (lN (sumN (lkW σ x y z a e n) s))), none, some (.int (nI s))] [] ρ2 Q := by
                              intro n251
                              induction n251 with
                              | zero =>
                                intro s hs hm251
                                exact absurd hm251 (Nat.not_lt_zero _)
                              | succ n251 ih251 =>
                                intro s hs hm251
                                refine w_il dX8_likely_251 rfl ?_
                                refine w_k dX8_likely_253 ?_
                                refine w_icgeN dX8_likely_255 (by omega) (by omega) (fun h255 => ?_) (fun h255 => ?_)
                                · --t
                                  have e8 : sumN (lkW σ x y z a e n) s = lyS σ x y z a e n := by rw [show s = 8 by omega]; rfl
                                  rw [e8]
                                  refine w_il dX8_likely_276 rfl ?_
                                  refine w_ifneN dX8_likely_278 (by omega) (fun h278 => ?_) (fun h278 => ?_)
                                  · --t
                                    refine w_ll dX8_likely_287 rfl ?_
                                    refine w_ll dX8_likely_289 rfl ?_
                                    refine w_lsubL dX8_likely_291 (by omega) ?_
                                    refine w_ll dX8_likely_292 rfl ?_
                                    refine w_il dX8_likely_294 rfl ?_
                                    refine w_cSf dX8_likely_296 (sl_X8_177 _ rfl) (by decide) (c_X8_lowest ρ2 ((p16 n) - (lyS σ x y z a e n)) (p16 n) v (by omega) (by omega) (by omega) (by omega)) rfl rfl (Nat.le_of_ble_eq_true rfl) ?_
                                    refine w_lret dX8_likely_299 rfl ?_
                                    rw [← hQ]
                                    exact ⟨_, rfl, by rw [r_likely, if_pos ⟨h4, h11, h18, h26, h37, h48, h58⟩, nv_nI (a := x) (by omega), nv_nI (a := y) (by omega), nv_nI (a := z) (by omega), nv_nI (a := a) (by omega), nv_nI (a := n) (by omega), nv_nI (a := e) (by omega), nv_nI (a := v) (by omega), v_likely], hM2, hE2⟩
                                  · --f
                                    refine w_il dX8_likely_281 rfl ?_
                                    refine w_i2lN dX8_likely_283 (by omega) ?_
                                    refine w_goto dX8_likely_284 ?_
                                    refine w_lret dX8_likely_299 rfl ?_
                                    rw [← hQ]
                                    exact ⟨_, rfl, by rw [r_likely, if_pos ⟨h4, h11, h18, h26, h37, h48, h58⟩, nv_nI (a := x) (by omega), nv_nI (a := y) (by omega), nv_nI (a := z) (by omega), nv_nI (a := a) (by omega), nv_nI (a := n) (by omega), nv_nI (a := e) (by omega), nv_nI (a := v) (by omega), v_likely, h278, lyS_0]; exact congrArg Value.long (lowT_01 (v := v) (by omega)).symm, hM2, hE2⟩
                                · --f
                                  refine w_ll dX8_likely_258 rfl ?_
                                  refine w_al dX8_likely_260 rfl ?_
                                  refine w_gr dX8_likely_261 fl_X8_43 sh47 rfl ?_
                                  refine w_il dX8_likely_264 rfl ?_
                                  refine w_laldV (v := (lN (lkW σ x y z a e n s))) dX8_likely_266 sh59 (by omega) (hW2 _ (by omega)) ?_
                                  refine w_laddL dX8_likely_267 ?_
                                  refine w_ls (ls2 := [some (.ref 47), some (.int (nI x)), some (.int (nI y)), some (.int (nI z)), some (.int (nI a)), some (.int (nI n)), some (.int (nI e)), some (.int (nI v)), some (.long (lN (p16 n))), none, some (.long (lN ((sumN (lkW σ x y z a e n) s) + (lkW σ x y z a e n s)))), none, some (.int (nI s))]) dX8_likely_268 rfl ?_
                                  refine w_iincN (ls2 := [some (.ref 47), some (.int (nI x)), some (.int (nI y)), some (.int (nI z)), some (.int (nI a)), some (.int (nI n)), some (.int (nI e)), some (.int (nI v)), some (.long (lN (p16 n))), none, some (.long (lN ((sumN (lkW σ x y z a e n) s) + (lkW σ x y z a e n s)))), none, some (.int (nI (s + 1)))]) dX8_likely_270 rfl rfl ?_
                                  refine w_goto dX8_likely_273 ?_
                                  exact ih251 (s + 1) (by omega) (by omega)
                            exact L251 _ 0 (by omega) (Nat.lt_succ_self _)
                          · --f
                            refine w_k dX8_likely_124 ?_
                            refine w_is (ls2 := [some (.ref 47), some (.int (nI x)), some (.int (nI y)), some (.int (nI z)), some (.int (nI a)), some (.int (nI n)), some (.int (nI e)), some (.int (nI v)), some (.long (lN (p16 i))), none, some (.int (nI i)), some (.int (nI 0)), none]) dX8_likely_125 rfl ?_
                            have L127 : ∀ (n127 : Nat) (t : Nat) (ρ3 : Rho), (t ≤ 8) → (MInv σ ρ3) → (EqC ρ ρ3) → (Laid σ ρ3) → (∀ q, q < 8 → ρ3.2 59 q = lN (lkW σ x y z a e i q)) → (∀ q, q < t → ρ3.2 59 (8 + q) = lN (lkW σ x y z a e (i + 1) q)) → (8 - t) < n127 → MW mX8_likely 5 127 [some (.ref 47), some (.int (nI x)), some (.int (nI y)), some (.int (nI z)), some (.int (nI a)), some (.int (nI n)), some (.int (nI e)), some (.int (nI v)), some (.long (lN (p16 i))), none, some (.int (nI i)), some (.int (nI t)), none] [] ρ3 Q := by
                              intro n127
                              induction n127 with
                              | zero =>
                                intro t ρ3 ht2 hM3 hE3 hD3 hV3 hW3 hm127
                                exact absurd hm127 (Nat.not_lt_zero _)
                              | succ n127 ih127 =>
                                intro t ρ3 ht2 hM3 hE3 hD3 hV3 hW3 hm127
                                refine w_il dX8_likely_127 rfl ?_
                                refine w_k dX8_likely_129 ?_
                                refine w_icgeN dX8_likely_131 (by omega) (by omega) (fun h131 => ?_) (fun h131 => ?_)
                                · --t
                                  refine w_k dX8_likely_198 ?_
                                  refine w_is (ls2 := [some (.ref 47), some (.int (nI x)), some (.int (nI y)), some (.int (nI z)), some (.int (nI a)), some (.int (nI n)), some (.int (nI e)), some (.int (nI v)), some (.long (lN (p16 i))), none, some (.int (nI i)), some (.int (nI 0)), none]) dX8_likely_199 rfl ?_
                                  have L201 : ∀ (n201 : Nat) (s : Nat) (ρ4 : Rho), (s ≤ 8) → (MInv σ ρ4) → (EqC ρ ρ4) → (Laid σ ρ4) → (∀ q, q < s → ρ4.2 59 q = lN (lkW σ x y z a e (i + 1) q)) → (∀ q, q < 8 → ρ4.2 59 (8 + q) = lN (lkW σ x y z a e (i + 1) q)) → (8 - s) < n201 → MW mX8_likely 5 201 [some (.ref 47), some (.int (nI x)), some (.int (nI y)), some (.int (nI z)), some (.int (nI a)), some (.int (nI n)), some (.int (nI e)), some (.int (nI v)), some (.long (lN (p16 i))), none, some (.int (nI i)), some (.int (nI s)), none] [] ρ4 Q := by
                                    intro n201
                                    induction n201 with
                                    | zero =>
                                      intro s ρ4 hs hM4 hE4 hD4 hW4 hV4 hm201
                                      exact absurd hm201 (Nat.not_lt_zero _)
                                    | succ n201 ih201 =>
                                      intro s ρ4 hs hM4 hE4 hD4 hW4 hV4 hm201
                                      refine w_il dX8_likely_201 rfl ?_
                                      refine w_k dX8_likely_203 ?_
                                      refine w_icgeN dX8_likely_205 (by omega) (by omega) (fun h205 => ?_) (fun h205 => ?_)
                                      · --t
                                        refine w_ll dX8_likely_231 rfl ?_
                                        refine w_kl dX8_likely_233 ?_
                                        refine w_lmulL dX8_likely_236 ?_
                                        refine w_ls (ls2 := [some (.ref 47), some (.int (nI x)), some (.int (nI y)), some (.int (nI z)), some (.int (nI a)), some (.int (nI n)), some (.int (nI e)), some (.int (nI v)), some (.long (lN ((p16 i) * 16))), none, some (.int (nI i)), some (.int (nI s)), none]) dX8_likely_237 rfl ?_
                                        refine w_iincN (ls2 := [some (.ref 47), some (.int (nI x)), some (.int (nI y)), some (.int (nI z)), some (.int (nI a)), some (.int (nI n)), some (.int (nI e)), some (.int (nI v)), some (.long (lN ((p16 i) * 16))), none, some (.int (nI (i + 1))), some (.int (nI s)), none]) dX8_likely_239 rfl rfl ?_
                                        refine w_goto dX8_likely_242 ?_
                                        refine w_weak (ls2 := [some (.ref 47), some (.int (nI x)), some (.int (nI y)), some (.int (nI z)), some (.int (nI a)), some (.int (nI n)), some (.int (nI e)), some (.int (nI v)), some (.long (lN ((p16 i) * 16))), none, some (.int (nI (i + 1))), none, none]) ⟨rfl, ⟨rfl, ⟨rfl, ⟨rfl, ⟨rfl, ⟨rfl, ⟨rfl, ⟨rfl, ⟨rfl, ⟨rfl, trivial⟩⟩⟩⟩⟩⟩⟩⟩⟩⟩ ?_
                                        exact ih117 (i + 1) ρ4 (by omega) (hM4) (hE4) (hD4) (by rw [show s = 8 by omega] at hW4; exact hW4) (by omega)
                                      · --f
                                        refine w_al dX8_likely_208 rfl ?_
                                        refine w_gr dX8_likely_209 fl_X8_43 sh47 rfl ?_
                                        refine w_il dX8_likely_212 rfl ?_
                                        refine w_al dX8_likely_214 rfl ?_
                                        refine w_gr dX8_likely_215 fl_X8_43 sh47 rfl ?_
                                        refine w_k dX8_likely_218 ?_
                                        refine w_il dX8_likely_220 rfl ?_
                                        refine w_iaddN dX8_likely_222 ?_
                                        refine w_laldV (v := (lN (lkW σ x y z a e (i + 1) s))) dX8_likely_223 sh59 (by omega) (hV4 s (by omega)) ?_
                                        refine w_lastN dX8_likely_224 sh59 (by omega) ?_
                                        refine w_iincN (ls2 := [some (.ref 47), some (.int (nI x)), some (.int (nI y)), some (.int (nI z)), some (.int (nI a)), some (.int (nI n)), some (.int (nI e)), some (.int (nI v)), some (.long (lN (p16 i))), none, some (.int (nI i)), some (.int (nI (s + 1))), none]) dX8_likely_225 rfl rfl ?_
                                        refine w_goto dX8_likely_228 ?_
                                        exact ih201 (s + 1) (wL ρ4 59 s (lN (lkW σ x y z a e (i + 1) s))) (by omega) ((MInv.wl hM4)) ((EqC.wl hE4 (by decide))) ((Laid.wl hD4)) (extL0 (f := fun q => lN (lkW σ x y z a e (i + 1) q)) hW4 rfl) (keepL hV4 (by omega)) (by omega)
                                  exact L201 _ 0 ρ3 (by omega) (hM3) (hE3) (hD3) (fun q hq => absurd hq (Nat.not_lt_zero _)) (by rw [show t = 8 by omega] at hW3; exact hW3) (Nat.lt_succ_self _)
                                · --f
                                  refine w_al dX8_likely_134 rfl ?_
                                  refine w_gr dX8_likely_135 fl_X8_43 sh47 rfl ?_
                                  refine w_k dX8_likely_138 ?_
                                  refine w_il dX8_likely_140 rfl ?_
                                  refine w_iaddN dX8_likely_142 ?_
                                  refine w_al dX8_likely_143 rfl ?_
                                  refine w_il dX8_likely_144 rfl ?_
                                  refine w_il dX8_likely_145 rfl ?_
                                  refine w_il dX8_likely_146 rfl ?_
                                  refine w_il dX8_likely_147 rfl ?_
                                  refine w_cVf dX8_likely_149 (vl_X8_187 _ rfl) sh47 (by decide) (c_X8_works ρ3 σ x y z t hD3.1 (by omega) (by omega) (by omega) (by omega)) rfl rfl (Nat.le_of_ble_eq_true rfl) ?_
                                  refine w_ifeqB dX8_likely_152 (fun h152 => ?_) (fun h152 => ?_)
                                  · --t
                                    refine w_al dX8_likely_159 rfl ?_
                                    refine w_gr dX8_likely_160 fl_X8_43 sh47 rfl ?_
                                    refine w_il dX8_likely_163 rfl ?_
                                    refine w_laldV (v := (lN (lkW σ x y z a e i t))) dX8_likely_165 sh59 (by omega) (hV3 _ (by omega)) ?_
                                    refine w_k dX8_likely_166 ?_
                                    refine w_il dX8_likely_168 rfl ?_
                                    refine w_isubN dX8_likely_170 (by omega) ?_
                                    refine w_i2lN dX8_likely_171 (by omega) ?_
                                    refine w_lmulL dX8_likely_172 ?_
                                    refine w_al dX8_likely_173 rfl ?_
                                    refine w_gr dX8_likely_174 fl_X8_43 sh47 rfl ?_
                                    refine w_il dX8_likely_177 rfl ?_
                                    refine w_k dX8_likely_179 ?_
                                    refine w_iaddN dX8_likely_181 ?_
                                    refine w_k dX8_likely_182 ?_
                                    refine w_iremN dX8_likely_184 (by omega) (by omega) (by omega) ?_
                                    refine w_laldV (v := (lN (lkW σ x y z a e i ((t + 7) % 8)))) dX8_likely_185 sh59 (by omega) (hV3 _ (by omega)) ?_
                                    refine w_il dX8_likely_186 rfl ?_
                                    refine w_i2lN dX8_likely_188 (by omega) ?_
                                    refine w_lmulL dX8_likely_189 ?_
                                    refine w_laddL dX8_likely_190 ?_
                                    refine w_lastN dX8_likely_191 sh59 (by omega) ?_
                                    refine w_iincN (ls2 := [some (.ref 47), some (.int (nI x)), some (.int (nI y)), some (.int (nI z)), some (.int (nI a)), some (.int (nI n)), some (.int (nI e)), some (.int (nI v)), some (.long (lN (p16 i))), none, some (.int (nI i)), some (.int (nI (t + 1))), none]) dX8_likely_192 rfl rfl ?_
                                    refine w_goto dX8_likely_195 ?_
                                    exact ih127 (t + 1) (wL ρ3 59 (8 + t) (lN (((lkW σ x y z a e i t) * (16 - e)) + ((lkW σ x y z a e i ((t + 7) % 8)) * e)))) (by omega) ((MInv.wl hM3)) ((EqC.wl hE3 (by decide))) ((Laid.wl hD3)) (keepL0 hV3 (by omega)) (extL (f := fun q => lN (lkW σ x y z a e (i + 1) q)) hW3 (by rw [lkW_n h152]; rfl)) (by omega)
                                  · --f
                                    refine w_kl dX8_likely_155 ?_
                                    refine w_goto dX8_likely_156 ?_
                                    refine w_lastN dX8_likely_191 sh59 (by omega) ?_
                                    refine w_iincN (ls2 := [some (.ref 47), some (.int (nI x)), some (.int (nI y)), some (.int (nI z)), some (.int (nI a)), some (.int (nI n)), some (.int (nI e)), some (.int (nI v)), some (.long (lN (p16 i))), none, some (.int (nI i)), some (.int (nI (t + 1))), none]) dX8_likely_192 rfl rfl ?_
                                    refine w_goto dX8_likely_195 ?_
                                    exact ih127 (t + 1) (wL ρ3 59 (8 + t) (lN 0)) (by omega) ((MInv.wl hM3)) ((EqC.wl hE3 (by decide))) ((Laid.wl hD3)) (keepL0 hV3 (by omega)) (extL (f := fun q => lN (lkW σ x y z a e (i + 1) q)) hW3 (by rw [lkW_y h152])) (by omega)
                            exact L127 _ 0 ρ2 (by omega) (hM2) (hE2) (hD2) (hW2) (fun q hq => absurd hq (Nat.not_lt_zero _)) (Nat.lt_succ_self _)
                      exact L117 _ 0 ρ1 (by omega) (hM1) (hE1) (hD1) (by rw [show t = 8 by omega] at hW1; exact hW1) (Nat.lt_succ_self _)
                    · --f
                      refine w_al dX8_likely_81 rfl ?_
                      refine w_gr dX8_likely_82 fl_X8_43 sh47 rfl ?_
                      refine w_il dX8_likely_85 rfl ?_
                      refine w_il dX8_likely_87 rfl ?_
                      refine w_al dX8_likely_89 rfl ?_
                      refine w_gr dX8_likely_90 fl_X8_40 sh47 rfl ?_
                      refine w_il dX8_likely_93 rfl ?_
                      refine w_ialdV (v := (nI (Tn σ a))) dX8_likely_95 sh58 (by omega) (hD1.2 _ (by omega)) ?_
                      refine w_icneN dX8_likely_96 (by omega) (by omega) (fun h96 => ?_) (fun h96 => ?_)
                      · --t
                        refine w_kl dX8_likely_103 ?_
                        refine w_lastN dX8_likely_104 sh59 (by omega) ?_
                        refine w_iincN (ls2 := [some (.ref 47), some (.int (nI x)), some (.int (nI y)), some (.int (nI z)), some (.int (nI a)), some (.int (nI n)), some (.int (nI e)), some (.int (nI v)), some (.int (nI (t + 1))), none, none, none, none]) dX8_likely_105 rfl rfl ?_
                        refine w_goto dX8_likely_108 ?_
                        exact ih74 (t + 1) (wL ρ1 59 t (lN 0)) (by omega) ((MInv.wl hM1)) ((EqC.wl hE1 (by decide))) ((Laid.wl hD1)) (extL0 (f := fun q => lN (lkW σ x y z a e 0 q)) hW1 (by show _ = lN (if t = Tn σ a then 1 else 0); rw [if_neg h96])) (by omega)
                      · --f
                        refine w_kl dX8_likely_99 ?_
                        refine w_goto dX8_likely_100 ?_
                        refine w_lastN dX8_likely_104 sh59 (by omega) ?_
                        refine w_iincN (ls2 := [some (.ref 47), some (.int (nI x)), some (.int (nI y)), some (.int (nI z)), some (.int (nI a)), some (.int (nI n)), some (.int (nI e)), some (.int (nI v)), some (.int (nI (t + 1))), none, none, none, none]) dX8_likely_105 rfl rfl ?_
                        refine w_goto dX8_likely_108 ?_
                        exact ih74 (t + 1) (wL ρ1 59 t (lN 1)) (by omega) ((MInv.wl hM1)) ((EqC.wl hE1 (by decide))) ((Laid.wl hD1)) (extL0 (f := fun q => lN (lkW σ x y z a e 0 q)) hW1 (by show _ = lN (if t = Tn σ a then 1 else 0); rw [if_pos h96])) (by omega)
                exact L74 _ 0 ρl1 (by omega) (hMl1) ((EqC.tr EqC.rf hEl1)) (hDl1) (fun q hq => absurd hq (Nat.not_lt_zero _)) (Nat.lt_succ_self _)
              · --f
                refine w_k dX8_likely_61 ?_
                refine w_cSf dX8_likely_63 (sl_X8_169 _ rfl) (by decide) (c_X8_no ρ) rfl rfl (Nat.le_of_ble_eq_true rfl) ?_
                refine w_lret dX8_likely_66 rfl ?_
                rw [← hQ]
                exact ⟨_, rfl, by rw [r_likely, if_neg (fun z => h58 z.2.2.2.2.2.2)], hM, EqC.rf⟩
