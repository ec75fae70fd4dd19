/-! arraycopy over rows of ints -/
def cpyI (ρ : Rho) (q0 q1 sp dp n : Nat) : Rho := (fun a b => if a = q1 then va_cpy (ρ.1 q0) (ρ.1 q1) sp dp n b else ρ.1 a b, ρ.2)
theorem only_cpyI {ρ : Rho} {q0 q1 sp dp n : Nat} : Only q1 ρ (cpyI ρ q0 q1 sp dp n) := fun a h => ⟨by funext b; simp [cpyI, h], rfl⟩
theorem w_acpy {M : Mth} {j pc nx idx : Nat} {ls : List (Option Value)} {rest : List Value} {ρ : Rho} {Q : Option Value → Rho → Prop} {q0 q1 n0 n1 sp dp n : Nat} (hd : D0 M pc (.invokestatic idx) 3 nx) (hl : Cond.methodLink (mO M) idx arraycopyName ∈ BT) (h0 : Sh q0 (.inl (0, n0))) (h1 : Sh q1 (.inl (0, n1))) (hs : sp + n ≤ n0) (hdp : dp + n ≤ n1) (hj : 2 ≤ j) (hw : (rest.map fun v => v.category).sum ≤ 8) (k : MW M j nx ls rest (cpyI ρ q0 q1 sp dp n) Q) : MW M j pc ls (.int (nI n) :: .int (nI dp) :: .ref q1 :: .int (nI sp) :: .ref q0 :: rest) ρ Q := by
  obtain ⟨hd, rfl⟩ := hd
  have b0 := sh_n h0
  have b1 := sh_n h1
  exact fun G p l e s m args below meth c H locs rls C D => by
    have B := C.2.2.2.2.2.1
    refine va_copyi C.1 C.2.1 (C.2.2.1.trans (rls_size D).symm) C.2.2.2.2.1 (B _ hl) (B _ acpy.2.1) (B _ acpy.1) (B _ acpy.2.2) C.2.2.2.2.2.2.2.1 D.1 (wsO_D C.2.2.2.2.2.2.2.2.1 ρ) D.2.1 q0 q1 0 0 (ce_ai h0) (ce_ai h1) rfl rfl rfl (nI_pos (by omega)) (nI_pos (by omega)) (nI_pos (by omega)) (by rw [nI_clamp (by omega), nI_clamp (by omega)]; exact hs) (by rw [nI_clamp (by omega), nI_clamp (by omega)]; exact hdp) (fun _ _ => rfl) (show 1 ≤ j by omega) ?_ hd (fun H1 locs1 hP1 hD1 hS1 => ?_)
    · have e := cat_rv (G := G) rest
      rw [e]
      have : nativeFrameWords "java/lang/System" "arraycopy" 5 + 11 ≤ 40 := by decide
      show _ ≤ 40 * j
      omega
    · rw [nI_clamp (by omega), nI_clamp (by omega), nI_clamp (by omega)] at hP1
      rw [wsO_set (G := G) (ρ := ρ) (ρ' := cpyI ρ q0 q1 sp dp n) h1.1 (by simp only [ce, h1.2, arrOf, cpyI, if_true]) (fun a ha => ce_congr (only_cpyI a ha).1 rfl)] at hP1
      exact k G p l e s m args below meth c H1 locs1 rls C ⟨hP1, hS1, D.2.2⟩
/-! sheets -/
theorem nIdec {i : Int32} {n : Nat} (hn : n ≤ 60) : inR i (nI 0) (nI n - nI 1) ↔ nI 0 ≤ i ∧ i < nI n := by
  cases n with
  | zero =>
    have e : nI 0 - nI 1 = -1 := by decide
    rw [e]
    constructor
    · intro h
      have h1 := h.1
      have h2 := h.2
      rw [Int32.le_iff_toInt_le] at h1 h2
      have a1 : (nI 0).toInt = 0 := by decide
      have a2 : (-1 : Int32).toInt = -1 := by decide
      omega
    · intro h
      exact absurd h.2 (Int32.not_lt.mpr h.1)
  | succ n =>
    rw [pk_sub (by omega)]
    refine and_congr_right (fun _ => ?_)
    rw [Int32.le_iff_toInt_le, Int32.lt_iff_toInt_lt, nI_toInt (by omega), nI_toInt (by omega)]
    omega
def lkS (σ : Sg) (t f : Nat) (i : Int32) : Nat := if σ.1 68 t = 0 then 1 else if σ.1 69 t = f then (if nI 0 ≤ i ∧ i < nI (σ.1 70 t) then 0 else 2) else 3
theorem lkS_le (σ : Sg) (t f : Nat) (i : Int32) : lkS σ t f i ≤ 3 := by
  unfold lkS
  repeat' split
  all_goals omega
theorem lkS_0 {σ : Sg} {t f : Nat} {i : Int32} (hw : Wf σ) (h : lkS σ t f i = 0) : σ.1 68 t ≠ 0 ∧ σ.1 69 t = f ∧ ∃ c, c < σ.1 70 t ∧ i = nI c := by
  unfold lkS at h
  have hz := hw.size t
  split at h
  · omega
  · rename_i h1
    split at h
    · rename_i h2
      split at h
      · rename_i h3
        refine ⟨h1, h2, ?_⟩
        obtain ⟨j, hj, e⟩ := nI_of (x := i) (Int32.not_lt.mpr h3.1)
        refine ⟨j, ?_, e⟩
        rw [e] at h3
        exact (nI_ltI hj (by omega)).mp h3.2
      · omega
    · omega
def cvt (f : Nat) (v : Int32) : Int32 := if f = 0 then v.toInt8.toInt32 else if f = 1 then v.toInt16.toInt32 else v
def zit (σ : Sg) (t : Nat) : Sg := (σ.1, fun a b => if a = 71 ∧ 60 * t ≤ b ∧ b < 60 * t + 60 then nI 0 else σ.2 a b)
def newS (σ : Sg) (t f n : Nat) : Sg := zit (sN (sN (sN σ 68 t 1) 69 t f) 70 t n) t
def cpS (σ : Sg) (s i t j n : Nat) : Sg := (σ.1, fun a b => if a = 71 ∧ 60 * t + j ≤ b ∧ b < 60 * t + j + n then σ.2 71 (60 * s + i + (b - (60 * t + j))) else σ.2 a b)
/-- τ is σ but for sheets -/
def ShD (σ τ : Sg) : Prop := (∀ k, k ≠ 68 → k ≠ 69 → k ≠ 70 → τ.1 k = σ.1 k) ∧ ∀ k, k ≠ 71 → τ.2 k = σ.2 k
theorem ShD.rf {σ : Sg} : ShD σ σ := ⟨fun _ _ _ _ => rfl, fun _ _ => rfl⟩
theorem ShD.sN {σ τ : Sg} (h : ShD σ τ) {k i v : Nat} (hk : k = 68 ∨ k = 69 ∨ k = 70) : ShD σ (sN τ k i v) := ⟨fun a h1 h2 h3 => by
  rw [← h.1 a h1 h2 h3]; funext b; exact sN_ne (fun e => by omega), h.2⟩
theorem ShD.zit {σ τ : Sg} (h : ShD σ τ) {t : Nat} : ShD σ (zit τ t) := ⟨h.1, fun a h1 => by
  rw [← h.2 a h1]; funext b; exact if_neg (fun e => h1 e.1)⟩
theorem ShD.sZ {σ τ : Sg} (h : ShD σ τ) {i : Nat} {v : Int32} : ShD σ (sZ τ 71 i v) := ⟨h.1, fun a h1 => by
  rw [← h.2 a h1]; funext b; exact sZ_ne (fun e => h1 e.1)⟩
theorem ShD.cpS {σ τ : Sg} (h : ShD σ τ) {s i t j n : Nat} : ShD σ (cpS τ s i t j n) := ⟨h.1, fun a h1 => by
  rw [← h.2 a h1]; funext b; exact if_neg (fun e => h1 e.1)⟩
theorem Wf.shd {σ τ : Sg} (h : Wf σ) (d : ShD σ τ) (h1 : ∀ i, τ.1 68 i ≤ 1) (h2 : ∀ i, τ.1 69 i ≤ 2) (h3 : ∀ i, τ.1 70 i ≤ 60) : Wf τ := by
  obtain ⟨g1, g2, g3, g4, g5, g6, g7, g8, g9, g10, g11, g12, g13, g14, g15, g16, g17, g18, g19⟩ := h
  unfold Wf
  rw [d.1 47 (by decide) (by decide) (by decide), d.1 48 (by decide) (by decide) (by decide), d.1 52 (by decide) (by decide) (by decide), d.1 53 (by decide) (by decide) (by decide), d.1 54 (by decide) (by decide) (by decide), d.1 55 (by decide) (by decide) (by decide), d.1 57 (by decide) (by decide) (by decide), d.1 62 (by decide) (by decide) (by decide), d.1 63 (by decide) (by decide) (by decide), d.2 66 (by decide), d.2 56 (by decide)]
  exact ⟨g1, g2, g3, g4, g5, g6, g7, g8, g9, g10, g11, g12, g13, g14, h1, h2, h3, g18, g19⟩
theorem Wf.zit {σ : Sg} (h : Wf σ) (t : Nat) : Wf (Jvm.Pilot.@@N@@.zit σ t) := h.shd ShD.rf.zit h.there h.form h.size
theorem Wf.cpS {σ : Sg} (h : Wf σ) (s i t j n : Nat) : Wf (Jvm.Pilot.@@N@@.cpS σ s i t j n) := h.shd ShD.rf.cpS h.there h.form h.size
theorem Wf.it {σ : Sg} (h : Wf σ) (i : Nat) (v : Int32) : Wf (Jvm.Pilot.@@N@@.sZ σ 71 i v) := h.shd ShD.rf.sZ h.there h.form h.size
theorem CInv.shd {σ τ : Sg} {ρ ρ2 : Rho} (h : CInv σ ρ) (d : ShD σ τ) (hw : Wf τ) (hρ : ∀ k, k < 39 → ρ2.1 k = ρ.1 k) (hs : CSh τ ρ2) (hl : ρ2.2 37 = ρ.2 37 := by rfl) : CInv τ ρ2 := by
  refine ⟨⟨hw, fun q hq i => ?_, fun q hq i => ?_, fun q hq => ?_, hs, by rw [hρ 35 (by decide)]; exact h.1.2.2.2.2.2.1, by rw [hl]; exact h.1.2.2.2.2.2.2⟩, ?_, ?_⟩
  · rw [hρ q.1 (by rcases mN_in hq with e | e | e | e | e | e | e <;> cases e <;> decide), d.1 q.2 (by rcases mN_in hq with e | e | e | e | e | e | e <;> cases e <;> decide) (by rcases mN_in hq with e | e | e | e | e | e | e <;> cases e <;> decide) (by rcases mN_in hq with e | e | e | e | e | e | e <;> cases e <;> decide)]
    exact h.1.2.1 q hq i
  · rw [hρ q.1 (by rcases mZ_in hq with e | e <;> cases e <;> decide), d.2 q.2 (by rcases mZ_in hq with e | e <;> cases e <;> decide)]
    exact h.1.2.2.1 q hq i
  · rw [hρ q.1 (by rcases mS_in hq with e | e | e | e | e | e | e <;> cases e <;> decide), d.1 q.2.2.1 (by rcases mS_in hq with e | e | e | e | e | e | e <;> cases e <;> decide) (by rcases mS_in hq with e | e | e | e | e | e | e <;> cases e <;> decide) (by rcases mS_in hq with e | e | e | e | e | e | e <;> cases e <;> decide)]
    exact h.1.2.2.2.1 q hq
  · exact h.2.1.same (by rw [d.1 47 (by decide) (by decide) (by decide)]) (d.1 48 (by decide) (by decide) (by decide)) (fun k hk => hρ k (by revert hk; simp only [List.mem_cons, List.not_mem_nil, or_false]; omega)) (by rw [hρ 1 (by decide)]) (by rw [hρ 1 (by decide)])
  · intro x hx
    rw [hρ 15 (by decide), Tn_congr (by rw [d.1 47 (by decide) (by decide) (by decide)]) (d.1 53 (by decide) (by decide) (by decide)) (d.1 54 (by decide) (by decide) (by decide)) (d.1 55 (by decide) (by decide) (by decide)) (d.1 57 (by decide) (by decide) (by decide)) (d.2 56 (by decide))]
    exact h.2.2 x hx
theorem MInv.cells {σ τ : Sg} {ρ ρ2 : Rho} (hw : Wf τ) (h1 : ∀ k ∈ mNs, ∀ i, ρ2.1 k i = nI (τ.1 k i)) (h2 : ∀ k ∈ mZs, ∀ i, ρ2.1 k i = τ.2 k i) (h3 : ∀ i ∈ mSs, ρ2.1 47 i = nI (τ.1 47 i)) : MInv τ ρ2 := ⟨hw, h1, h2, h3⟩
theorem CSh.item {σ : Sg} {ρ : Rho} {t i : Nat} {v : Int32} (h : CSh σ ρ) (ht : t < 4) (hi : i < 60) : CSh (sZ σ 71 (60 * t + i) v) (wI ρ (43 + t) i v) := fun u hu => by
  obtain ⟨h1, h2, h3, h4⟩ := h u hu
  rw [wI_ne (a := 39 + u) (by omega)]
  refine ⟨h1, h2, h3, fun q hq => ?_⟩
  by_cases e : u = t ∧ q = i
  · obtain ⟨rfl, rfl⟩ := e
    rw [rI_eq, sZ_eq]
  · rw [rI_ne (by omega), sZ_ne (by omega)]
    exact h4 q hq
theorem CSh.lose {σ : Sg} {ρ : Rho} {t : Nat} (h : CSh σ ρ) (ht : t < 4) : CSh (sN σ 68 t 0) (wI ρ (39 + t) 0 (nI 1)) := fun u hu => by
  obtain ⟨h1, h2, h3, h4⟩ := h u hu
  rw [wI_ne (a := 43 + u) (by omega), rI_ne (a := 39 + u) (b := 1) (by omega), rI_ne (a := 39 + u) (b := 2) (by omega), sN_ne (a := 69) (by omega), sN_ne (a := 70) (by omega)]
  refine ⟨?_, h2, h3, h4⟩
  by_cases e : u = t
  · subst e; rw [rI_eq, sN_eq]
  · rw [rI_ne (by omega), sN_ne (by omega)]; exact h1
theorem CSh.renew {σ : Sg} {ρ : Rho} {t f n : Nat} (h : CSh σ ρ) (ht : t < 4) : CSh (newS σ t f n) (fillI (wI (wI (wI ρ (39 + t) 0 (nI 0)) (39 + t) 1 (nI f)) (39 + t) 2 (nI n)) (43 + t) 60 (nI 0)) := fun u hu => by
  obtain ⟨h1, h2, h3, h4⟩ := h u hu
  rw [(only_fillI (39 + u) (by omega)).1]
  by_cases e : u = t
  · subst e
    refine ⟨?_, ?_, ?_, fun i hi => ?_⟩
    · simp [wI, newS, zit, sN]
    · simp [wI, newS, zit, sN]
    · simp [wI, newS, zit, sN]
    · rw [fill_at hi]
      show _ = (if 71 = 71 ∧ 60 * u ≤ 60 * u + i ∧ 60 * u + i < 60 * u + 60 then nI 0 else _)
      rw [if_pos (by omega)]
  · rw [wI_ne (a := 39 + u) (by omega), wI_ne (a := 39 + u) (by omega), wI_ne (a := 39 + u) (by omega), (only_fillI (43 + u) (by omega)).1, wI_ne (a := 43 + u) (by omega), wI_ne (a := 43 + u) (by omega), wI_ne (a := 43 + u) (by omega)]
    refine ⟨?_, ?_, ?_, fun i hi => ?_⟩
    · rw [h1]; congr 2; simp [newS, zit, sN, e]
    · rw [h2]; congr 1; simp [newS, zit, sN, e]
    · rw [h3]; congr 1; simp [newS, zit, sN, e]
    · rw [h4 i hi]
      show _ = (if 71 = 71 ∧ 60 * t ≤ 60 * u + i ∧ 60 * u + i < 60 * t + 60 then nI 0 else _)
      rw [if_neg (by omega)]
      rfl
theorem CSh.copy {σ : Sg} {ρ : Rho} {s i t j n : Nat} (h : CSh σ ρ) (hs : s < 4) (ht : t < 4) (hi : i + n ≤ 60) (hj : j + n ≤ 60) : CSh (cpS σ s i t j n) (cpyI ρ (43 + s) (43 + t) i j n) := fun u hu => by
  obtain ⟨h1, h2, h3, h4⟩ := h u hu
  rw [(only_cpyI (39 + u) (by omega)).1]
  refine ⟨h1, h2, h3, fun q hq => ?_⟩
  by_cases e : u = t
  · subst e
    show (if 43 + u = 43 + u then va_cpy (ρ.1 (43 + s)) (ρ.1 (43 + u)) i j n q else _) = (if 71 = 71 ∧ 60 * u + j ≤ 60 * u + q ∧ 60 * u + q < 60 * u + j + n then σ.2 71 (60 * s + i + (60 * u + q - (60 * u + j))) else _)
    rw [if_pos rfl]
    unfold va_cpy
    by_cases c : j ≤ q ∧ q < j + n
    · rw [if_pos c, if_pos (by omega), (h s hs).2.2.2 (i + (q - j)) (by omega), show 60 * s + i + (60 * u + q - (60 * u + j)) = 60 * s + (i + (q - j)) by omega]
    · rw [if_neg c, if_neg (by omega)]
      exact h4 q hq
  · rw [(only_cpyI (43 + u) (by omega)).1, h4 q hq]
    show _ = (if 71 = 71 ∧ 60 * t + j ≤ 60 * u + q ∧ 60 * u + q < 60 * t + j + n then _ else _)
    rw [if_neg (by omega)]
theorem CInv.find {σ : Sg} {ρ : Rho} (h : CInv σ ρ) {n : Nat} (hn : n ≤ 5) : CInv (sN σ 47 29 n) (wI ρ 0 8 (nI n)) := ⟨CP.wS h.1 (by decide) (Wf.sN h.1.1 (by simp [okN] <;> omega)), CLd.sN (CLd.only h.2.1 only_wI (by decide)) (by omega), CTn.sN (CTn.only h.2.2 only_wI (by decide)) (by omega)⟩
theorem MInv.find {σ : Sg} {ρ : Rho} (h : MInv σ ρ) {n : Nat} (hn : n ≤ 5) : MInv (sN σ 47 29 n) (wI ρ 47 29 (nI n)) := MInv.wS h (by decide) (Wf.sN h.1 (by simp [okN] <;> omega))
/-! THE CALLS on sheets -/
abbrev g_sheet (s f n : Int32) : Prop := inR s (nI 0) (nI 3) ∧ inR f (nI 0) (nI 2) ∧ n ≤ nI 60
def r_sheet (s f n : Int32) : Int32 := if g_sheet s f n then (if n < 0 then -10 - nI 5 else n) else -2
def n_sheet (σ : Sg) (s f n : Int32) : Sg := if g_sheet s f n then (if n < 0 then sN σ 47 29 5 else newS σ (nv s) (nv f) (nv n)) else σ
def r_lose (σ : Sg) (s : Int32) : Int32 := if inR s (nI 0) (nI 3) then (if σ.1 68 (nv s) = 0 then -10 - nI 1 else nI (σ.1 70 (nv s))) else -2
def n_lose (σ : Sg) (s : Int32) : Sg := if inR s (nI 0) (nI 3) then (if σ.1 68 (nv s) = 0 then sN σ 47 29 1 else sN σ 68 (nv s) 0) else σ
abbrev g_put (s f : Int32) : Prop := inR s (nI 0) (nI 3) ∧ inR f (nI 0) (nI 2)
def r_put (σ : Sg) (s f i : Int32) : Int32 := if g_put s f then (if lkS σ (nv s) (nv f) i = 0 then nI 1 else -10 - nI (lkS σ (nv s) (nv f) i)) else -2
def n_put (σ : Sg) (s f i v : Int32) : Sg := if g_put s f then (if lkS σ (nv s) (nv f) i = 0 then sZ σ 71 (60 * nv s + nv i) (cvt (σ.1 69 (nv s)) v) else sN σ 47 29 (lkS σ (nv s) (nv f) i)) else σ
def r_get (σ : Sg) (s f i : Int32) : Int32 := if g_put s f then (if lkS σ (nv s) (nv f) i = 0 then σ.2 71 (60 * nv s + nv i) else -2147483648) else -2147483648
def n_get (σ : Sg) (s f i : Int32) : Sg := if g_put s f then (if lkS σ (nv s) (nv f) i = 0 then σ else sN σ 47 29 (lkS σ (nv s) (nv f) i)) else σ
abbrev g_copy (s t : Int32) : Prop := inR s (nI 0) (nI 3) ∧ inR t (nI 0) (nI 3)
/-- n items from i on are there, of so many -/
abbrev hasS (z : Nat) (i n : Int32) : Prop := ¬ i < 0 ∧ ¬ n < 0 ∧ i.toInt + n.toInt ≤ (z : Int)
def kCp (σ : Sg) (s t : Nat) (i j n : Int32) : Nat := if σ.1 68 s = 0 ∨ σ.1 68 t = 0 then 1 else if σ.1 69 s ≠ σ.1 69 t then 4 else if hasS (σ.1 70 s) i n ∧ hasS (σ.1 70 t) j n then 0 else 2
theorem kCp_le (σ : Sg) (s t : Nat) (i j n : Int32) : kCp σ s t i j n ≤ 4 := by
  unfold kCp
  repeat' split
  all_goals omega
def r_copy (σ : Sg) (s i t j n : Int32) : Int32 := if g_copy s t then (if kCp σ (nv s) (nv t) i j n = 0 then nI 1 else -10 - nI (kCp σ (nv s) (nv t) i j n)) else -2
def n_copy (σ : Sg) (s i t j n : Int32) : Sg := if g_copy s t then (if kCp σ (nv s) (nv t) i j n = 0 then cpS σ (nv s) (nv i) (nv t) (nv j) (nv n) else sN σ 47 29 (kCp σ (nv s) (nv t) i j n)) else σ
theorem hasS_nI {z : Nat} {i n : Int32} (hz : z ≤ 60) (h : hasS z i n) : ∃ a c, i = nI a ∧ n = nI c ∧ a + c ≤ z := by
  obtain ⟨a, ha, rfl⟩ := nI_of h.1
  obtain ⟨c, hc, rfl⟩ := nI_of h.2.1
  refine ⟨a, c, rfl, rfl, ?_⟩
  have := h.2.2
  rw [nI_toInt ha, nI_toInt hc] at this
  omega
