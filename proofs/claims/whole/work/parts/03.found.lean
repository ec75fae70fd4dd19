/-! THE MINI MACHINE: a fixed world of cells whose shape never changes; a method's run is judged by MW, its contract by CallOK. -/
abbrev Mth : Type := MethodName × ByteArray × Nat × Option FieldType × String
def mY (M : Mth) : MethodName := M.1
def mC (M : Mth) : ByteArray := M.2.1
def mN (M : Mth) : Nat := M.2.2.1
def mR (M : Mth) : Option FieldType := M.2.2.2.1
def mO (M : Mth) : String := M.2.2.2.2
abbrev Rho : Type := (Nat → Nat → Int32) × (Nat → Nat → Int64)
abbrev Wd : Type := va_G × (Nat → Nat) × (Nat → ClassId)
def rv (G : Wd) : Value → Value
  | .ref k => .ref (G.2.1 k)
  | v => v
theorem rv_cat (G : Wd) (v : Value) : (rv G v).category = v.category := by cases v <;> rfl
def BT : List Cond := lw_tbl.filter goodWord
theorem bt_of {w : Cond} (h : w ∈ lw_tbl) (g : goodWord w = true) : w ∈ BT := List.mem_filter.mpr ⟨h, g⟩
theorem bt_good {w : Cond} (h : w ∈ BT) : goodWord w = true := (List.mem_filter.mp h).2
theorem bt_in {w : Cond} (h : w ∈ BT) : w ∈ lw_tbl := (List.mem_filter.mp h).1
theorem in_t1 {w : Cond} (h : w ∈ tables_1_1) : w ∈ lw_tbl := List.mem_append_right _ (List.mem_append_left _ h)
theorem in_t2 {w : Cond} (h : w ∈ tables_1_2) : w ∈ lw_tbl := List.mem_append_right _ (List.mem_append_right _ (List.mem_append_left _ h))
theorem in_t3 {w : Cond} (h : w ∈ tables_1_3) : w ∈ lw_tbl := List.mem_append_right _ (List.mem_append_right _ (List.mem_append_right _ (List.mem_append_left _ h)))
theorem in_t4 {w : Cond} (h : w ∈ tables_1_4) : w ∈ lw_tbl := List.mem_append_right _ (List.mem_append_right _ (List.mem_append_right _ (List.mem_append_right _ (List.mem_append_left _ h))))
theorem in_t5 {w : Cond} (h : w ∈ tables_1_5) : w ∈ lw_tbl := List.mem_append_right _ (List.mem_append_right _ (List.mem_append_right _ (List.mem_append_right _ (List.mem_append_right _ h))))
theorem in_s1 {y : MethodName} {n : Nat} (h : (y, n) ∈ lw_privs_1) : Cond.selects y.cls y y ∈ lw_tbl := List.mem_append_left _ (List.mem_map.mpr ⟨(y, n), List.mem_append_left _ h, rfl⟩)
theorem in_s2 {y : MethodName} {n : Nat} (h : (y, n) ∈ lw_privs_2) : Cond.selects y.cls y y ∈ lw_tbl := List.mem_append_left _ (List.mem_map.mpr ⟨(y, n), List.mem_append_right _ (List.mem_append_left _ h), rfl⟩)
theorem in_s3 {y : MethodName} {n : Nat} (h : (y, n) ∈ lw_privs_3) : Cond.selects y.cls y y ∈ lw_tbl := List.mem_append_left _ (List.mem_map.mpr ⟨(y, n), List.mem_append_right _ (List.mem_append_right _ (List.mem_append_left _ h)), rfl⟩)
theorem in_s4 {y : MethodName} {n : Nat} (h : (y, n) ∈ lw_privs_4) : Cond.selects y.cls y y ∈ lw_tbl := List.mem_append_left _ (List.mem_map.mpr ⟨(y, n), List.mem_append_right _ (List.mem_append_right _ (List.mem_append_right _ h)), rfl⟩)
def wsM (M : Mth) : List Cond := Cond.code (mY M) (mC M) (mN M) (mR M) :: BT
theorem goodBT {M : Mth} (h : Cond.code (mY M) (mC M) (mN M) (mR M) ∈ BT) : GoodIn BT (wsM M) := fun w hw => by
  have hm : w ∈ BT := by
    rcases List.mem_cons.mp hw with rfl | h2
    · exact h
    · exact h2
  exact ⟨hm, good_of_word (bt_good hm)⟩
/-! cells -/
def CL : List vw_C := [(RX0, TX0, 2), (RX1, TX1, 12), (RX2, TX2, 9), (RX3, TX3, 11), (RX4, TX4, 4), (RX5, TX5, 5), (RX6, TX6, 2), (RX7, TX7, 9), (RX8, TX8, 30)]
def NC : Nat := 73
def shps : List ((Nat × Nat) ⊕ (Nat × List Nat)) := [.inr (7, [3, 12, 20, 22, 25, 28, 34, 40, 0]), .inr (3, [4, 0, 0, 5, 6, 7, 0, 8, 9, 10, 11]), .inl (0, 60), .inl (0, 8), .inl (0, 8), .inl (0, 8), .inl (0, 4), .inl (0, 4), .inl (0, 4), .inl (0, 4), .inr (1, [0, 13, 14, 15, 16, 0, 0, 0, 0, 17, 18, 19]), .inl (0, 60), .inl (0, 60), .inl (0, 60), .inl (0, 60), .inl (0, 100), .inl (0, 8), .inl (0, 8), .inr (0, [21, 1]), .inl (1, 8), .inr (6, [23, 24]), .inl (0, 16), .inl (0, 16), .inr (6, [26, 27]), .inl (0, 16), .inl (0, 16), .inr (5, [29, 30, 31, 32, 33]), .inl (0, 8), .inl (0, 40), .inl (0, 64), .inl (0, 256), .inl (0, 8), .inr (2, [35, 36, 37, 38, 39, 0, 0, 0, 0]), .inl (0, 8), .inl (1, 8), .inl (0, 13), .inl (0, 13), .inl (1, 13), .inl (42, 4), .inr (4, [0, 0, 0, 45]), .inr (4, [0, 0, 0, 46]), .inr (4, [0, 0, 0, 47]), .inr (4, [0, 0, 0, 48]), .inl (0, 60), .inl (0, 60), .inl (0, 60), .inl (0, 60), .inr (8, [0, 50, 51, 52, 0, 53, 54, 0, 55, 56, 57, 58, 0, 59, 60, 61, 62, 63, 64, 65, 66, 67, 68, 69, 70, 71, 72, 73, 74, 0]), .inl (0, 60), .inl (0, 8), .inl (0, 8), .inl (0, 16), .inl (0, 8), .inl (0, 60), .inl (0, 60), .inl (0, 60), .inl (0, 60), .inl (0, 3), .inl (0, 100), .inl (1, 16), .inl (0, 32), .inl (0, 16), .inl (0, 40), .inl (0, 8), .inl (0, 64), .inl (0, 256), .inl (0, 8), .inl (0, 8), .inl (2, 4), .inl (0, 4), .inl (0, 4), .inl (0, 240), .inl (0, 60)]
def shp (k : Nat) : (Nat × Nat) ⊕ (Nat × List Nat) := shps.getD k (.inl (0, 0))
def fv (G : Wd) (ρ : Rho) (k j f : Nat) : Value := match f with
  | 0 => .int (ρ.1 k j)
  | 1 => .long (ρ.2 k j)
  | n + 2 => .ref (G.2.1 n)
def fvs (G : Wd) (ρ : Rho) (k : Nat) : Nat → List Nat → List Value
  | _, [] => []
  | j, f :: fs => fv G ρ k j f :: fvs G ρ k (j + 1) fs
def arrOf (G : Wd) (ρ : Rho) (k t n : Nat) : ClassId × vp_A := match t with
  | 0 => (G.2.2 0, n, .inl (ρ.1 k))
  | 1 => (G.2.2 1, n, .inr (.inl (ρ.2 k)))
  | 2 => (G.2.2 2, n, .inl (ρ.1 k))
  | b + 3 => (G.2.2 3, n, .inr (.inr (.inr (.inr (fun i => some (G.2.1 (b + i)))))))
def ce (G : Wd) (ρ : Rho) (k : Nat) : va_E := match shp k with
  | .inr (ci, fs) => .inr (ci, fvs G ρ k 0 fs)
  | .inl (t, n) => .inl (arrOf G ρ k t n)
def wsO (G : Wd) (ρ : Rho) : va_W := (List.range NC).map fun k => (G.2.1 k, ce G ρ k)
theorem wsO_at {G : Wd} {ρ : Rho} {k : Nat} (h : k < NC) : (wsO G ρ)[k]? = some (G.2.1 k, ce G ρ k) := by simp [wsO, h]
theorem wsO_set {G : Wd} {ρ ρ' : Rho} {k : Nat} {e : va_E} (h : k < NC) (he : ce G ρ' k = e) (ho : ∀ j, j ≠ k → ce G ρ' j = ce G ρ j) : (wsO G ρ).set k (G.2.1 k, e) = wsO G ρ' := by
  apply List.ext_getElem?
  intro i
  by_cases hi : i < NC
  · rw [wsO_at hi]
    by_cases hik : i = k
    · subst hik
      rw [List.getElem?_set_self (by simpa [wsO] using hi), he]
    · rw [List.getElem?_set_ne (Ne.symm hik), wsO_at hi, ho i hik]
  · rw [List.getElem?_eq_none (by simpa [wsO] using hi), List.getElem?_eq_none (by simpa [wsO] using hi)]
def AG (G : Wd) : Nat → Prop := fun q => ∃ k, k < NC ∧ q = G.2.1 k
def Gd (G : Wd) : Prop := ∀ i j, i < NC → j < NC → G.2.1 i = G.2.1 j → i = j
theorem wsO_D {G : Wd} (hG : Gd G) (ρ : Rho) : va_D (AG G) (wsO G ρ) := by
  have key : ∀ (i : Nat) (q : Nat × va_E), (wsO G ρ)[i]? = some q → i < NC ∧ q.1 = G.2.1 i := by
    intro i q h
    have hi : i < NC := by
      have := (List.getElem?_eq_some_iff.mp h).1
      simpa [wsO] using this
    rw [wsO_at hi] at h
    cases h
    exact ⟨hi, rfl⟩
  refine ⟨fun i j p q hp hq e => ?_, fun k q hq => ?_⟩
  · obtain ⟨h1, h2⟩ := key i p hp
    obtain ⟨h3, h4⟩ := key j q hq
    exact hG i j h1 h3 (by rw [← h2, ← h4]; exact e)
  · obtain ⟨h1, h2⟩ := key k q hq
    exact ⟨k, h1, h2⟩
def tyO (G : Wd) : List (ClassId × FieldType) := [(G.2.2 0, .int), (G.2.2 1, .long), (G.2.2 2, .boolean), (G.2.2 3, .object "TurningVillage$Sheet")]
/-! writes -/
def wI (ρ : Rho) (k j : Nat) (v : Int32) : Rho := (fun a b => if a = k ∧ b = j then v else ρ.1 a b, ρ.2)
def wL (ρ : Rho) (k j : Nat) (v : Int64) : Rho := (ρ.1, fun a b => if a = k ∧ b = j then v else ρ.2 a b)
theorem wI_ne {ρ : Rho} {k j a : Nat} {v : Int32} (h : a ≠ k) : (wI ρ k j v).1 a = ρ.1 a := by
  funext b
  simp [wI, h]
theorem wI_upd {ρ : Rho} {k j : Nat} {v : Int32} : (wI ρ k j v).1 k = upd (ρ.1 k) j v := by
  funext b
  simp [wI, upd]
theorem wL_ne {ρ : Rho} {k j a : Nat} {v : Int64} (h : a ≠ k) : (wL ρ k j v).2 a = ρ.2 a := by
  funext b
  simp [wL, h]
theorem wL_upd {ρ : Rho} {k j : Nat} {v : Int64} : (wL ρ k j v).2 k = vp_updL (ρ.2 k) j v := by
  funext b
  simp [wL, vp_updL]
theorem fvs_congr {G : Wd} {ρ ρ' : Rho} {k : Nat} (h1 : ρ'.1 k = ρ.1 k) (h2 : ρ'.2 k = ρ.2 k) : ∀ (fs : List Nat) (j : Nat), fvs G ρ' k j fs = fvs G ρ k j fs
  | [], _ => rfl
  | f :: fs, j => by
    simp only [fvs]
    rw [fvs_congr h1 h2 fs (j + 1)]
    congr 1
    unfold fv
    split <;> simp [h1, h2]
theorem ce_congr {G : Wd} {ρ ρ' : Rho} {k : Nat} (h1 : ρ'.1 k = ρ.1 k) (h2 : ρ'.2 k = ρ.2 k) : ce G ρ' k = ce G ρ k := by
  unfold ce
  split
  · rw [fvs_congr h1 h2]
  · congr 1
    unfold arrOf
    split <;> simp [h1, h2]
theorem fvs_get {G : Wd} {ρ : Rho} {k : Nat} : ∀ (fs : List Nat) (j i f : Nat), fs[i]? = some f → (fvs G ρ k j fs)[i]? = some (fv G ρ k (j + i) f)
  | [], _, _, _, h => by simp at h
  | g :: fs, j, 0, f, h => by simp at h; subst h; rfl
  | g :: fs, j, i + 1, f, h => by
    simp only [fvs, List.getElem?_cons_succ] at h ⊢
    rw [fvs_get fs (j + 1) i f h, show j + 1 + i = j + (i + 1) by omega]
theorem fvs_setI {G : Wd} {ρ : Rho} {k : Nat} {v : Int32} : ∀ (fs : List Nat) (j i : Nat), fs[i]? = some 0 → (fvs G ρ k j fs).set i (.int v) = fvs G (wI ρ k (j + i) v) k j fs
  | [], _, _, h => by simp at h
  | g :: fs, j, 0, h => by
    simp at h
    subst h
    simp only [fvs, List.set_cons_zero]
    congr 1
    · simp [fv, wI]
    · have : ∀ (l : List Nat) (q : Nat), j < q → fvs G ρ k q l = fvs G (wI ρ k (j + 0) v) k q l := by
        intro l
        induction l with
        | nil => intro q _; rfl
        | cons a l ih =>
          intro q hq
          simp only [fvs]
          rw [ih (q + 1) (by omega)]
          congr 1
          unfold fv
          split
          · simp [wI]; omega
          · rfl
          · rfl
      exact this fs (j + 1) (by omega)
  | g :: fs, j, i + 1, h => by
    simp only [fvs, List.set_cons_succ, List.getElem?_cons_succ] at h ⊢
    rw [fvs_setI fs (j + 1) i h, show j + 1 + i = j + (i + 1) by omega]
    congr 1
    unfold fv
    split
    · simp [wI]
    · rfl
    · rfl
theorem fvs_setL {G : Wd} {ρ : Rho} {k : Nat} {v : Int64} : ∀ (fs : List Nat) (j i : Nat), fs[i]? = some 1 → (fvs G ρ k j fs).set i (.long v) = fvs G (wL ρ k (j + i) v) k j fs
  | [], _, _, h => by simp at h
  | g :: fs, j, 0, h => by
    simp at h
    subst h
    simp only [fvs, List.set_cons_zero]
    congr 1
    · simp [fv, wL]
    · have : ∀ (l : List Nat) (q : Nat), j < q → fvs G ρ k q l = fvs G (wL ρ k (j + 0) v) k q l := by
        intro l
        induction l with
        | nil => intro q _; rfl
        | cons a l ih =>
          intro q hq
          simp only [fvs]
          rw [ih (q + 1) (by omega)]
          congr 1
          unfold fv
          split
          · rfl
          · simp [wL]; omega
          · rfl
      exact this fs (j + 1) (by omega)
  | g :: fs, j, i + 1, h => by
    simp only [fvs, List.set_cons_succ, List.getElem?_cons_succ] at h ⊢
    rw [fvs_setL fs (j + 1) i h, show j + 1 + i = j + (i + 1) by omega]
    congr 1
    unfold fv
    split
    · rfl
    · simp [wL]
    · rfl
theorem fvs_len {G : Wd} {ρ : Rho} {k : Nat} : ∀ (fs : List Nat) (j : Nat), (fvs G ρ k j fs).length = fs.length
  | [], _ => rfl
  | _ :: fs, j => by simp [fvs, fvs_len fs (j + 1)]
/-! locals -/
def lg : List (Option Value) → Nat → Option Value
  | [], _ => none
  | a :: _, 0 => a
  | _ :: t, n + 1 => lg t n
def lset : List (Option Value) → Nat → Option Value → List (Option Value)
  | [], _, _ => []
  | _ :: t, 0, v => v :: t
  | a :: t, n + 1, v => a :: lset t n v
def lk (ls : List (Option Value)) (i : Nat) : List (Option Value) := match i with
  | 0 => ls
  | j + 1 => match lg ls j with
    | some v => if v.category = 2 then lset ls j none else ls
    | none => ls
theorem lg_lset_ne : ∀ (ls : List (Option Value)) (i j : Nat) (v : Option Value), j ≠ i → lg (lset ls i v) j = lg ls j
  | [], _, _, _, _ => rfl
  | _ :: _, 0, 0, _, h => absurd rfl h
  | _ :: _, 0, _ + 1, _, _ => rfl
  | _ :: _, _ + 1, 0, _, _ => rfl
  | _ :: t, i + 1, j + 1, v, h => lg_lset_ne t i j v (fun e => h (by rw [e]))
theorem lg_lset_eq : ∀ (ls : List (Option Value)) (i : Nat) (v : Option Value) (w : Value), lg (lset ls i v) i = some w → v = some w
  | [], _, _, _, h => by simp [lset, lg] at h
  | _ :: _, 0, _, _, h => h
  | _ :: t, i + 1, v, w, h => lg_lset_eq t i v w h
theorem lg_lk {ls : List (Option Value)} {i j : Nat} {w : Value} (h : lg (lk ls i) j = some w) : lg ls j = some w ∧ ¬ (j + 1 = i ∧ w.category = 2) := by
  unfold lk at h
  split at h
  · exact ⟨h, fun q => by omega⟩
  · rename_i n
    split at h
    · rename_i v hv
      split at h
      · rename_i hc
        by_cases hj : j = n
        · subst hj
          exact absurd (lg_lset_eq _ _ _ _ h) (by simp)
        · rw [lg_lset_ne _ _ _ _ hj] at h
          exact ⟨h, fun q => hj (by omega)⟩
      · rename_i hc
        refine ⟨h, fun q => ?_⟩
        have : j = n := by omega
        subst this
        rw [hv] at h
        cases h
        exact hc q.2
    · rename_i hv
      refine ⟨h, fun q => ?_⟩
      have : j = n := by omega
      subst this
      rw [hv] at h
      cases h
def Lok (G : Wd) (ls : List (Option Value)) (lv : List (Nat × Value)) : Prop := ∀ i v, lg ls i = some v → (i, rv G v) ∈ lv
theorem Lok.st1 {G : Wd} {ls : List (Option Value)} {lv : List (Nat × Value)} (h : Lok G ls lv) (i : Nat) (v : Value) : Lok G (lset (lk ls i) i (some v)) ((i, rv G v) :: lv.filter (fun q => !(q.1 == i) && !(q.1 + 1 == i && q.2.category == 2))) := by
  intro j w hj
  by_cases hji : j = i
  · subst hji
    cases lg_lset_eq _ _ _ _ hj
    exact List.mem_cons_self
  · rw [lg_lset_ne _ _ _ _ hji] at hj
    obtain ⟨h1, h2⟩ := lg_lk hj
    refine List.mem_cons_of_mem _ (List.mem_filter.mpr ⟨h j w h1, ?_⟩)
    simp only [rv_cat, Bool.and_eq_true, Bool.not_eq_true', beq_eq_false_iff_ne, ne_eq, Bool.and_eq_false_iff]
    refine ⟨hji, ?_⟩
    by_cases q : j + 1 = i
    · exact Or.inr (fun e => h2 ⟨q, e⟩)
    · exact Or.inl q
theorem Lok.st2 {G : Wd} {ls : List (Option Value)} {lv : List (Nat × Value)} (h : Lok G ls lv) (i : Nat) (v : Value) : Lok G (lset (lset (lk ls i) (i + 1) none) i (some v)) ((i, rv G v) :: lv.filter (fun q => !(q.1 == i) && (!(q.1 == i + 1) && !(q.1 + 1 == i && q.2.category == 2)))) := by
  intro j w hj
  by_cases hji : j = i
  · subst hji
    cases lg_lset_eq _ _ _ _ hj
    exact List.mem_cons_self
  · rw [lg_lset_ne _ _ _ _ hji] at hj
    by_cases hj2 : j = i + 1
    · subst hj2
      exact absurd (lg_lset_eq _ _ _ _ hj) (by simp)
    rw [lg_lset_ne _ _ _ _ hj2] at hj
    obtain ⟨h1, h2⟩ := lg_lk hj
    refine List.mem_cons_of_mem _ (List.mem_filter.mpr ⟨h j w h1, ?_⟩)
    simp only [rv_cat, Bool.and_eq_true, Bool.not_eq_true', beq_eq_false_iff_ne, ne_eq, Bool.and_eq_false_iff]
    refine ⟨hji, hj2, ?_⟩
    by_cases q : j + 1 = i
    · exact Or.inr (fun e => h2 ⟨q, e⟩)
    · exact Or.inl q
/-- the locals of an entry -/
def ent : List Value → List (Option Value)
  | [] => []
  | v :: vs => if v.category = 2 then some v :: none :: ent vs else some v :: ent vs
theorem ent_ok {G : Wd} : ∀ (as : List Value) (tl : List (Option Value)) (o : Nat), (∀ i, lg tl i = none) → ∀ i v, lg (ent as ++ tl) i = some v → (o + i, rv G v) ∈ lv_args o (as.map (rv G))
  | [], tl, _, ht, i, v, h => by
    rw [show ent ([] : List Value) ++ tl = tl from rfl, ht i] at h
    cases h
  | a :: as, tl, o, ht, i, v, h => by
    simp only [List.map_cons, lv_args, rv_cat]
    by_cases hc : a.category = 2
    · simp only [ent, hc, if_true, List.cons_append] at h ⊢
      match i, h with
      | 0, h => cases h; exact List.mem_cons_self
      | 1, h => cases h
      | i + 2, h =>
        have := ent_ok (G := G) as tl (o + 2) ht i v h
        rw [show o + (i + 2) = o + 2 + i by omega]
        exact List.mem_cons_of_mem _ this
    · simp only [ent, hc, if_false, List.cons_append] at h ⊢
      match i, h with
      | 0, h => cases h; exact List.mem_cons_self
      | i + 1, h =>
        have := ent_ok (G := G) as tl (o + 1) ht i v h
        rw [show o + (i + 1) = o + 1 + i by omega]
        exact List.mem_cons_of_mem _ this
theorem lg_none : ∀ (n i : Nat), lg (List.replicate n none) i = none
  | 0, _ => rfl
  | _ + 1, 0 => rfl
  | n + 1, i + 1 => lg_none n i
/-! the judgement -/
def rmL (n : Nat) : Room := { frames := n, cells := 0, slots := 0, locals := 40 * n }
def nestW : Cond := .methodLinkNest "TurningVillage$Land" 81 yX7_within "TurningVillage"
def Cx (M : Mth) (G : Wd) (p : Program) (s : State) (m : MethodId) (args : Array Value) (meth : Method) (c : Code) : Prop :=
  p.tables.exec = Jvm.exec ∧ c.code = mC M ∧ c.maxLocals = mN M ∧ meth.sig.returnType = mR M ∧ s.vm.findClass (mO M) = some m.cls ∧ (∀ w ∈ BT, w.before args s = true) ∧ meth.locks = false ∧ va_K G.1 CL (tyO G) s ∧ Gd G ∧ va_Nw nestW s
def Dy (M : Mth) (G : Wd) (ρ : Rho) (s : State) (H : Heap) (locs : List Loc) (rls : Array Slot) (ls : List (Option Value)) : Prop :=
  va_P G.1 CL (wsO G ρ) H ∧ va_S (AG G) s.heap H locs ∧ ∃ lv, lv_has rls (mN M) lv ∧ Lok G ls lv
def QC (G : Wd) (Q : Option Value → Rho → Prop) : Array Value → State → Outcome → State → Prop := fun _ st o t =>
  (∃ (r : Option Value) (ρ : Rho), o = .returned (r.map (rv G)) ∧ Q r ρ ∧ va_P G.1 CL (wsO G ρ) t.heap) ∧ va_F (AG G) st t
def MW (M : Mth) (n : Nat) (pc : Nat) (ls : List (Option Value)) (st : List Value) (ρ : Rho) (Q : Option Value → Rho → Prop) : Prop :=
  ∀ (G : Wd) (p : Program) (l : Launch) (e : Env) (s : State) (m : MethodId) (args : Array Value) (below : List Frame) (meth : Method) (c : Code) (H : Heap) (locs : List Loc) (rls : Array Slot),
    Cx M G p s m args meth c → Dy M G ρ s H locs rls ls → W p l e (rmL n) s m args below meth c H locs 0 0 (MQ below (QC G Q) args s 0 0 (AG G)) (F0 m pc rls (st.map (rv G)))
def PC (G : Wd) (as : List Value) (ρ : Rho) : Array Value → State → Prop := fun v U => v = (as.map (rv G)).toArray ∧ va_K G.1 CL (tyO G) U ∧ va_P G.1 CL (wsO G ρ) U.heap ∧ va_Nw nestW U
def CallOK (j : Nat) (M : Mth) (as : List Value) (ρ : Rho) (Q : Option Value → Rho → Prop) : Prop :=
  ∀ (l : Launch) (G : Wd), Gd G → Met l (mY M) (wsM M) (rmL j) (PC G as ρ) (QC G Q) 0 0 (AG G)
theorem PC_blind (G : Wd) (as : List Value) (ρ : Rho) : FrameBlind (PC G as ρ) := fun a U g mk h => ⟨h.1, va_K.moved (u := U) (U := U.calling g mk a) (Vm.Alike.refl U.vm) h.2.1, h.2.2.1, va_Nw.same rfl rfl h.2.2.2⟩
theorem QC_mono {G : Wd} {Q Q' : Option Value → Rho → Prop} (h : ∀ r ρ, Q r ρ → Q' r ρ) {a : Array Value} {st t : State} {o : Outcome} (q : QC G Q a st o t) : QC G Q' a st o t := by
  obtain ⟨⟨r, ρ, h1, h2, h3⟩, h4⟩ := q
  exact ⟨⟨r, ρ, h1, h _ _ h2, h3⟩, h4⟩
theorem callOK_of {j : Nat} {M : Mth} {as : List Value} {ρ : Rho} {Q : Option Value → Rho → Prop} {ls : List (Option Value)} (k : Nat) (hpl : plainName (mY M).cls = true) (hO : (mY M).cls = mO M) (hlen : ∀ G, (lg_sl (as.map (rv G))).length ≤ mN M) (hls : ent as ++ List.replicate k none = ls) (h : MW M j 0 ls [] ρ Q) : CallOK j M as ρ Q := by
  intro l G hG
  refine Met.ofW (cc := mC M) (maxL := mN M) (ret := mR M) hpl rfl ?_
  intro p e s m args below meth c s₁ B hml hv
  obtain ⟨rfl, hK, hP, hN⟩ := hv
  have hts := atoms_spec (ws := wsM M) B.pre
  have hown : s.vm.findClass (mO M) = some m.cls := by rw [← hO]; exact findClass_of_methodNamed B.named
  have hl := lv_entry (as.map (rv G)) (n := mN M) (hlen G)
  rw [lg_entry_eq]
  have hL : Lok G ls (lv_args 0 (as.map (rv G))) := by
    intro i v hi
    rw [← hls] at hi
    have := ent_ok (G := G) as (List.replicate k none) 0 (lg_none k) i v hi
    rwa [Nat.zero_add] at this
  exact h G p l e s m _ below meth c s.heap [] _ ⟨B.exec, B.bytes, hml, B.returns, hown, fun w hw => hts w (List.mem_cons_of_mem _ hw), B.notSynchronized, hK, hG, hN⟩ ⟨hP, va_S.rf, _, hl, hL⟩
