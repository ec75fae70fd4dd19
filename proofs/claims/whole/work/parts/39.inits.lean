/-! CONSTRUCTORS: a world of cells that grows -/
abbrev aI (ct : Nat → ClassId) (n : Nat) (f : Nat → Int32) : va_E := .inl (ct 0, n, .inl f)
abbrev aL (ct : Nat → ClassId) (n : Nat) (f : Nat → Int64) : va_E := .inl (ct 1, n, .inr (.inl f))
abbrev aZ (ct : Nat → ClassId) (n : Nat) (f : Nat → Int32) : va_E := .inl (ct 2, n, .inl f)
abbrev aQ (ct : Nat → ClassId) (n : Nat) (f : Nat → Option Nat) : va_E := .inl (ct 3, n, .inr (.inr (.inr (.inr f))))
abbrev ob (ci : Nat) (fs : List Value) : va_E := .inr (ci, fs)
def tyC (ct : Nat → ClassId) : List (ClassId × FieldType) := [(ct 0, .int), (ct 1, .long), (ct 2, .boolean), (ct 3, .object "TurningVillage$Sheet")]
def nestL : List (Nat × MethodName) := [(9, yX3_init), (18, yX1_init), (25, yX0_init), (32, yX6_init), (60, yX4_init)]
def NW (U : State) : Prop := (∀ q ∈ nestL, va_Nw (.methodLinkNest RX7 q.1 q.2 RX7) U) ∧ va_AO RX4 U
theorem NW.warm {s U : State} (hW : s.WarmedH U.vm) (h : NW s) : NW U := ⟨fun q hq => va_Nw.warmM hW (h.1 q hq), va_AO.moved hW.alike h.2⟩
theorem NW.same {u U : State} (hv : u.vm = U.vm) (h : NW u) : NW U := ⟨fun q hq => va_Nw.same rfl hv (h.1 q hq), va_AO.moved (by rw [hv]; exact Vm.Alike.refl _) h.2⟩
def IC (M : Mth) (D : va_G) (ct : Nat → ClassId) (p : Program) (s : State) (m : MethodId) (args : Array Value) (meth : Method) (c : Code) : Prop :=
  p.tables.exec = Jvm.exec ∧ c.code = mC M ∧ c.maxLocals = mN M ∧ meth.sig.returnType = none ∧ s.vm.findClass (mO M) = some m.cls ∧ (∀ w ∈ BT, w.before args s = true) ∧ meth.locks = false ∧ meth.name = "<init>" ∧ va_K D CL (tyC ct) s ∧ NW s
def Gi (D : va_G) (ct : Nat → ClassId) : Wd := (D, fun k => k, ct)
theorem rvi (D : va_G) (ct : Nat → ClassId) (v : Value) : rv (Gi D ct) v = v := by cases v <;> rfl
def ILk (D : va_G) (ct : Nat → ClassId) (ls : List (Option Value)) (n : Nat) (rls : Array Slot) : Prop := ∃ lv, lv_has rls n lv ∧ Lok (Gi D ct) ls lv
theorem ilget {D : va_G} {ct : Nat → ClassId} {ls : List (Option Value)} {n : Nat} {rls : Array Slot} {i : Nat} {v : Value} (h : ILk D ct ls n rls) (hl : lg ls i = some v) : rls[i]? = some (.val v) := by
  obtain ⟨lv, h1, h2⟩ := h
  have := h2 i v hl
  rw [rvi] at this
  exact h1.2.2 _ this
def IB (D : va_G) (ct : Nat → ClassId) (A : Nat → Prop) (w : va_W) (t : State) : Prop := va_P D CL w t.heap ∧ va_K D CL (tyC ct) t ∧ va_D A w
def IW (M : Mth) (R : Room) (D : va_G) (ct : Nat → ClassId) (pc : Nat) (ls : List (Option Value)) (st : List Value) (ws : va_W) (cs sl : Nat) (Q : va_W → Prop) : Prop :=
  ∀ (A : Nat → Prop) (p : Program) (l : Launch) (e : Env) (s : State) (m : MethodId) (args : Array Value) (below : List Frame) (meth : Method) (c : Code) (H : Heap) (locs : List Loc) (rls : Array Slot),
    IC M D ct p s m args meth c → (∀ q, s.heap.size ≤ q → A q) → (va_P D CL ws H ∧ va_D A ws ∧ va_S A s.heap H locs ∧ ILk D ct ls (mN M) rls) → W p l e R s m args below meth c H locs cs sl (MQ below (va_Qv Q (IB D ct A) A) args s R.cells R.slots A) (F0 m pc rls st)
def InitOK (M : Mth) (R : Room) (ci : Nat) (fs : List Value) (Q : (Nat → ClassId) → Nat → va_W → Prop) : Prop := ∀ (l : Launch) (D : va_G) (ct : Nat → ClassId) (h0 sz : Nat), Met l (mY M) (wsM M) R (va_Pc [.ref h0] (fun U => U.heap.size = sz ∧ va_P D CL [(h0, ob ci fs)] U.heap ∧ va_K D CL (tyC ct) U ∧ va_D (fun _ => True) [(h0, ob ci fs)] ∧ NW U)) (va_Qv (Q ct h0) (IB D ct (va_A [(h0, ob ci fs)] sz)) (va_A [(h0, ob ci fs)] sz)) R.cells R.slots (va_A [(h0, ob ci fs)] sz)
theorem init_of {M : Mth} {R : Room} {ci : Nat} {fs : List Value} {Q : (Nat → ClassId) → Nat → va_W → Prop} (hpl : plainName (mY M).cls = true) (hO : (mY M).cls = mO M) (hN : 1 ≤ mN M) (hi : (mY M).name = "<init>") (hr : mR M = none) (h : ∀ D ct h0, IW M R D ct 0 (some (.ref h0) :: List.replicate (mN M - 1) none) [] [(h0, ob ci fs)] 0 0 (Q ct h0)) : InitOK M R ci fs Q := by
  intro l D ct h0 sz
  refine Met.ofW (cc := mC M) (maxL := mN M) (ret := mR M) hpl rfl ?_
  intro p e s m args below meth c s₁ B hml hv
  obtain ⟨rfl, hsz, hP, hK, hD0, hNW⟩ := hv
  subst hsz
  have hts := atoms_spec (ws := wsM M) B.pre
  have hown : s.vm.findClass (mO M) = some m.cls := by rw [← hO]; exact findClass_of_methodNamed B.named
  have hl := lv_entry [.ref h0] (n := mN M) hN
  rw [lg_entry_eq]
  refine h D ct h0 _ p l e s m _ below meth c s.heap [] _ ⟨B.exec, B.bytes, hml, B.returns.trans hr, hown, fun w hw => hts w (List.mem_cons_of_mem _ hw), B.notSynchronized, (name_of_methodNamed B.named B.method).1.trans hi, hK, hNW⟩ (fun q hq => Or.inr hq) ⟨hP, hD0.self, va_S.rf, _, hl, ?_⟩
  intro i v hi
  match i, hi with
  | 0, hi => cases hi; exact List.mem_cons_self
  | i + 1, hi => rw [show lg (some (.ref h0) :: List.replicate (mN M - 1) none) (i + 1) = lg (List.replicate (mN M - 1) none) i from rfl, lg_none] at hi; cases hi
section
variable {M : Mth} {R : Room} {D : va_G} {ct : Nat → ClassId} {pc nx : Nat} {ls : List (Option Value)} {st : List Value} {ws : va_W} {cs sl : Nat} {Q : va_W → Prop}
theorem i_ws {ws2 : va_W} (h : ws = ws2) (k : IW M R D ct pc ls st ws2 cs sl Q) : IW M R D ct pc ls st ws cs sl Q := by rw [h]; exact k
theorem i_al {i : Nat} {x : Nat} (hd : DLa M pc i nx) (hl : lg ls i = some (.ref x)) (k : IW M R D ct nx ls (.ref x :: st) ws cs sl Q) : IW M R D ct pc ls st ws cs sl Q := by
  rcases hd with ⟨q, hd, hi, rfl⟩ | ⟨hd, rfl⟩
  · exact fun A p l e s m args below meth c H locs rls C hA Y => lv_aload_n C.1 C.2.1 hd hi (ilget Y.2.2.2 hl) (k A p l e s m args below meth c H locs rls C hA Y)
  · exact fun A p l e s m args below meth c H locs rls C hA Y => lv_aload C.1 C.2.1 hd (ilget Y.2.2.2 hl) (k A p l e s m args below meth c H locs rls C hA Y)
theorem i_il {i : Nat} {x : Int32} (hd : DLi M pc i nx) (hl : lg ls i = some (.int x)) (k : IW M R D ct nx ls (.int x :: st) ws cs sl Q) : IW M R D ct pc ls st ws cs sl Q := by
  rcases hd with ⟨q, hd, hi, rfl⟩ | ⟨hd, rfl⟩
  · exact fun A p l e s m args below meth c H locs rls C hA Y => lv_iload_n C.1 C.2.1 hd hi (ilget Y.2.2.2 hl) (k A p l e s m args below meth c H locs rls C hA Y)
  · exact fun A p l e s m args below meth c H locs rls C hA Y => lv_iload C.1 C.2.1 hd (ilget Y.2.2.2 hl) (k A p l e s m args below meth c H locs rls C hA Y)
theorem i_is {i : Nat} {x : Int32} {ls2 : List (Option Value)} (hd : DSi M pc i nx) (hl : lset (lk ls i) i (some (.int x)) = ls2) (k : IW M R D ct nx ls2 st ws cs sl Q) : IW M R D ct pc ls (.int x :: st) ws cs sl Q := by
  subst hl
  rcases hd with ⟨hn, ⟨q, hd, hi, rfl⟩ | ⟨hd, rfl⟩⟩
  · exact fun A p l e s m args below meth c H locs rls C hA Y => by
      obtain ⟨hP, hDD, hS, lv, h1, h2⟩ := Y
      refine lv_istore_n C.1 C.2.1 hd hi h1 hn rfl (fun rls2 hl2 => ?_)
      exact k A p l e s m args below meth c H locs rls2 C hA ⟨hP, hDD, hS, _, hl2, Lok.st1 h2 i (.int x)⟩
  · exact fun A p l e s m args below meth c H locs rls C hA Y => by
      obtain ⟨hP, hDD, hS, lv, h1, h2⟩ := Y
      refine lv_istore C.1 C.2.1 hd h1 hn rfl (fun rls2 hl2 => ?_)
      exact k A p l e s m args below meth c H locs rls2 C hA ⟨hP, hDD, hS, _, hl2, Lok.st1 h2 i (.int x)⟩
theorem i_iinc {i a b : Nat} {ls2 : List (Option Value)} (hd : DIn M pc i (nI b) nx) (hg : lg ls i = some (.int (nI a))) (hl : lset (lk ls i) i (some (.int (nI (a + b)))) = ls2) (k : IW M R D ct nx ls2 st ws cs sl Q) : IW M R D ct pc ls st ws cs sl Q := by
  subst hl
  obtain ⟨hn, n, hd, hb, rfl⟩ := hd
  exact fun A p l e s m args below meth c H locs rls C hA Y => by
    obtain ⟨hP, hDD, hS, lv, h1, h2⟩ := Y
    obtain ⟨q, hq⟩ := List.getElem?_of_mem (h2 i _ hg)
    refine lv_iinc C.1 C.2.1 hd h1 hq rfl hn rfl (fun rls2 hl2 => ?_)
    rw [hb, nI_add] at hl2
    exact k A p l e s m args below meth c H locs rls2 C hA ⟨hP, hDD, hS, _, hl2, Lok.st1 h2 i (.int (nI (a + b)))⟩
theorem i_k {v : Int32} (hd : DKi M pc v nx) (k : IW M R D ct nx ls (.int v :: st) ws cs sl Q) : IW M R D ct pc ls st ws cs sl Q := by
  rcases hd with ⟨n, hd, hv, rfl⟩ | ⟨n, hd, hv, rfl⟩ | ⟨n, hd, hv, rfl⟩ | ⟨n, hd, hv, rfl⟩ | ⟨n, hd, hv, rfl⟩
  · exact fun A p l e s m args below meth c H locs rls C hA Y => lv_iconst C.1 C.2.1 hd hv (k A p l e s m args below meth c H locs rls C hA Y)
  · exact fun A p l e s m args below meth c H locs rls C hA Y => lv_bipush C.1 C.2.1 hd hv (k A p l e s m args below meth c H locs rls C hA Y)
  · exact fun A p l e s m args below meth c H locs rls C hA Y => lv_sipush C.1 C.2.1 hd hv (k A p l e s m args below meth c H locs rls C hA Y)
  · exact fun A p l e s m args below meth c H locs rls C hA Y => lv_ldc C.1 C.2.1 C.2.2.2.2.1 (C.2.2.2.2.2.1 _ hv) hd (k A p l e s m args below meth c H locs rls C hA Y)
  · exact fun A p l e s m args below meth c H locs rls C hA Y => lv_ldcw C.1 C.2.1 C.2.2.2.2.1 (C.2.2.2.2.2.1 _ hv) hd (k A p l e s m args below meth c H locs rls C hA Y)
theorem i_kl {v : Int64} (hd : DKl M pc v nx) (k : IW M R D ct nx ls (.long v :: st) ws cs sl Q) : IW M R D ct pc ls st ws cs sl Q := by
  rcases hd with ⟨n, hd, hv, rfl⟩ | ⟨n, hd, hv, rfl⟩
  · exact fun A p l e s m args below meth c H locs rls C hA Y => lv_lconst C.1 C.2.1 hd hv (k A p l e s m args below meth c H locs rls C hA Y)
  · exact fun A p l e s m args below meth c H locs rls C hA Y => lv_ldc2 C.1 C.2.1 C.2.2.2.2.1 (C.2.2.2.2.2.1 _ hv) hd (k A p l e s m args below meth c H locs rls C hA Y)
theorem i_dup {v : Value} (hd : D0 M pc .dup 1 nx) (hc : v.category = 1) (k : IW M R D ct nx ls (v :: v :: st) ws cs sl Q) : IW M R D ct pc ls (v :: st) ws cs sl Q := by
  obtain ⟨hd, rfl⟩ := hd
  exact fun A p l e s m args below meth c H locs rls C hA Y => lv_dup C.1 C.2.1 hd hc (k A p l e s m args below meth c H locs rls C hA Y)
theorem i_goto {tgt : Nat} (hd : DG M pc tgt) (k : IW M R D ct tgt ls st ws cs sl Q) : IW M R D ct pc ls st ws cs sl Q := by
  obtain ⟨off, hd, ht⟩ := hd
  exact fun A p l e s m args below meth c H locs rls C hA Y => lv_goto C.1 C.2.1 hd ht (k A p l e s m args below meth c H locs rls C hA Y)
theorem i_geN {tgt a b : Nat} (hd : DCge M pc tgt nx) (ha : a < 2 ^ 31) (hb : b < 2 ^ 31) (h : a < b) (k : IW M R D ct nx ls st ws cs sl Q) : IW M R D ct pc ls (.int (nI b) :: .int (nI a) :: st) ws cs sl Q := by
  obtain ⟨off, hd, ht, rfl⟩ := hd
  exact fun A p l e s m args below meth c H locs rls C hA Y => lv_icmp_ge C.1 C.2.1 hd ht (fun q => absurd ((nI_leI hb ha).mp q) (by omega)) (fun _ => k A p l e s m args below meth c H locs rls C hA Y)
theorem i_geY {tgt a b : Nat} (hd : DCge M pc tgt nx) (ha : a < 2 ^ 31) (hb : b < 2 ^ 31) (h : b ≤ a) (k : IW M R D ct tgt ls st ws cs sl Q) : IW M R D ct pc ls (.int (nI b) :: .int (nI a) :: st) ws cs sl Q := by
  obtain ⟨off, hd, ht, rfl⟩ := hd
  exact fun A p l e s m args below meth c H locs rls C hA Y => lv_icmp_ge C.1 C.2.1 hd ht (fun _ => k A p l e s m args below meth c H locs rls C hA Y) (fun q => absurd ((nI_leI hb ha).mpr h) q)
theorem i_obj {idx a : Nat} (hd : D0 M pc (.invokespecial idx) 3 nx) (hl : Cond.methodLink (mO M) idx objectInit ∈ BT ∧ Cond.instanceMethod objectInit ∈ BT ∧ Cond.code objectInit ⟨#[0xb1]⟩ 1 none ∈ BT) (hR : 1 ≤ R.frames ∧ 20 ≤ R.locals) (hw : (st.map fun v => v.category).sum ≤ 8) (k : IW M R D ct nx ls st ws cs sl Q) : IW M R D ct pc ls (.ref a :: st) ws cs sl Q := by
  obtain ⟨hd, rfl⟩ := hd
  exact fun A p l e s m args below meth c H locs rls C hA Y => by
    have B := C.2.2.2.2.2.1
    have hsz : rls.size = mN M := by obtain ⟨-, -, -, lv, h1, -⟩ := Y; exact h1.1
    refine W.objInit C.1 C.2.1 C.2.2.2.2.1 (B _ hl.1) (B _ hl.2.1) (B _ hl.2.2) rfl (hsz.trans C.2.2.1.symm) rfl hd hR.1 ?_ ?_
    · have := lv_room (m := m) (pc := pc) (ls := rls) (rest := .ref a :: st) hw
      omega
    · exact k A p l e s m args below meth c H locs rls C hA Y
theorem ct_eq {s : State} {tys : List (ClassId × FieldType)} {t0 : Nat} {c0 cA : ClassId} {ty : FieldType} (hK : va_K D CL tys s) (ht : tys[t0]? = some (c0, ty)) (hK1 : va_K D CL (tys ++ [(cA, ty)]) s) : cA = c0 := by
  have h1 := (hK.2 t0 _ ht).2
  have h2 := (hK1.2 tys.length (cA, ty) (by simp)).2
  cases ty with
  | object C =>
    obtain ⟨_, _, _, _, _, g1⟩ := h1
    obtain ⟨_, _, _, _, _, g2⟩ := h2
    exact Option.some.inj (g2.symm.trans g1)
  | _ => exact Option.some.inj (h2.symm.trans h1)
theorem i_newI {n : Nat} (hd : D0 M pc (.newarray .int) 2 nx) (hw : Cond.arrayClass .int ∈ BT) (hn : n < 1000) (hc : cs + 1 ≤ R.cells) (hs : sl + n ≤ R.slots) (k : ∀ q, IW M R D ct nx ls (.ref q :: st) (ws ++ [(q, aI ct n (fun _ => 0))]) (cs + 1) (sl + n) Q) : IW M R D ct pc ls (.int (nI n) :: st) ws cs sl Q := by
  obtain ⟨hd, rfl⟩ := hd
  exact fun A p l e s m args below meth c H locs rls C hA Y => va_newa (atype := .int) (ty := .int) (a0 := (n, .inl (fun _ => 0))) C.1 C.2.1 (C.2.2.2.2.2.1 _ hw) rfl C.2.2.2.2.2.2.2.2.1 Y.1 Y.2.1 Y.2.2.1 hA (fun _ => rfl) (nI_pos (by omega)) (nI_clamp (by omega)) (Nat.le_trans (Nat.mul_le_mul_right _ (Nat.le_of_lt hn)) (by decide)) hc hs hd (fun q cA H1 hK1 hP1 hD1 hS1 => by
    have e0 : cA = ct 0 := ct_eq (t0 := 0) C.2.2.2.2.2.2.2.2.1 rfl hK1
    subst e0
    exact k q A p l e s m args below meth c H1 locs rls C hA ⟨hP1, hD1, hS1, Y.2.2.2⟩)
theorem i_newL {n : Nat} (hd : D0 M pc (.newarray .long) 2 nx) (hw : Cond.arrayClass .long ∈ BT) (hn : n < 1000) (hc : cs + 1 ≤ R.cells) (hs : sl + n ≤ R.slots) (k : ∀ q, IW M R D ct nx ls (.ref q :: st) (ws ++ [(q, aL ct n (fun _ => 0))]) (cs + 1) (sl + n) Q) : IW M R D ct pc ls (.int (nI n) :: st) ws cs sl Q := by
  obtain ⟨hd, rfl⟩ := hd
  exact fun A p l e s m args below meth c H locs rls C hA Y => va_newa (atype := .long) (ty := .long) (a0 := (n, .inr (.inl (fun _ => 0)))) C.1 C.2.1 (C.2.2.2.2.2.1 _ hw) rfl C.2.2.2.2.2.2.2.2.1 Y.1 Y.2.1 Y.2.2.1 hA (fun _ => rfl) (nI_pos (by omega)) (nI_clamp (by omega)) (Nat.le_trans (Nat.mul_le_mul_right _ (Nat.le_of_lt hn)) (by decide)) hc hs hd (fun q cA H1 hK1 hP1 hD1 hS1 => by
    have e0 : cA = ct 1 := ct_eq (t0 := 1) C.2.2.2.2.2.2.2.2.1 rfl hK1
    subst e0
    exact k q A p l e s m args below meth c H1 locs rls C hA ⟨hP1, hD1, hS1, Y.2.2.2⟩)
theorem i_newZ {n : Nat} (hd : D0 M pc (.newarray .boolean) 2 nx) (hw : Cond.arrayClass .boolean ∈ BT) (hn : n < 1000) (hc : cs + 1 ≤ R.cells) (hs : sl + n ≤ R.slots) (k : ∀ q, IW M R D ct nx ls (.ref q :: st) (ws ++ [(q, aZ ct n (fun _ => 0))]) (cs + 1) (sl + n) Q) : IW M R D ct pc ls (.int (nI n) :: st) ws cs sl Q := by
  obtain ⟨hd, rfl⟩ := hd
  exact fun A p l e s m args below meth c H locs rls C hA Y => va_newa (atype := .boolean) (ty := .boolean) (a0 := (n, .inl (fun _ => 0))) C.1 C.2.1 (C.2.2.2.2.2.1 _ hw) rfl C.2.2.2.2.2.2.2.2.1 Y.1 Y.2.1 Y.2.2.1 hA (fun _ => rfl) (nI_pos (by omega)) (nI_clamp (by omega)) (Nat.le_trans (Nat.mul_le_mul_right _ (Nat.le_of_lt hn)) (by decide)) hc hs hd (fun q cA H1 hK1 hP1 hD1 hS1 => by
    have e0 : cA = ct 2 := ct_eq (t0 := 2) C.2.2.2.2.2.2.2.2.1 rfl hK1
    subst e0
    exact k q A p l e s m args below meth c H1 locs rls C hA ⟨hP1, hD1, hS1, Y.2.2.2⟩)
theorem i_newQ {n idx : Nat} (hd : D0 M pc (.anewarray idx) 3 nx) (hw : Cond.classLink (mO M) idx RX4 ∈ BT) (hn : n < 1000) (hc : cs + 1 ≤ R.cells) (hs : sl + n ≤ R.slots) (k : ∀ q, IW M R D ct nx ls (.ref q :: st) (ws ++ [(q, aQ ct n (fun _ => none))]) (cs + 1) (sl + n) Q) : IW M R D ct pc ls (.int (nI n) :: st) ws cs sl Q := by
  obtain ⟨hd, rfl⟩ := hd
  exact fun A p l e s m args below meth c H locs rls C hA Y => va_newq (C := RX4) C.1 C.2.1 C.2.2.2.2.1 (C.2.2.2.2.2.1 _ hw) C.2.2.2.2.2.2.2.2.2.2 C.2.2.2.2.2.2.2.2.1 Y.1 Y.2.1 Y.2.2.1 hA (nI_pos (by omega)) (nI_clamp (by omega)) (Nat.le_trans (Nat.mul_le_mul_right _ (Nat.le_of_lt hn)) (by decide)) hc hs hd (fun q cA H1 hK1 hP1 hD1 hS1 => by
    have e0 : cA = ct 3 := ct_eq (t0 := 3) (ty := .object RX4) C.2.2.2.2.2.2.2.2.1 rfl hK1
    subst e0
    exact k q A p l e s m args below meth c H1 locs rls C hA ⟨hP1, hD1, hS1, Y.2.2.2⟩)
def FPF (own : String) (idx ci slot : Nat) (ty : FieldType) : Prop := ∃ (C : String) (T : u_T) (N : Nat) (ty0 : Nat → FieldType), CL[ci]? = some (C, T, N) ∧ slot < N ∧ Cond.fieldLink own idx (T slot).1 (T slot).2.1 (T slot).2.2.1 ∈ BT ∧ (∀ w ∈ u_ws C T N, w ∈ BT) ∧ (∀ k, k < N → parseFieldDescriptor (T k).2.2.1 = some (ty0 k)) ∧ (∀ a, a < N → ∀ b, b < N → a ≠ b → (T a).2.1 ≠ (T b).2.1) ∧ (T slot).2.2.2 = true ∧ (T slot).1 = own ∧ parseFieldDescriptor (T slot).2.2.1 = some ty
theorem i_putF {q0 a idx ci slot : Nat} {fs : List Value} {v : Value} {ty : FieldType} {ws2 : va_W} (hd : D0 M pc (.putfield idx) 3 nx) (hf : FPF (mO M) idx ci slot ty) (he : ws[q0]? = some (a, ob ci fs)) (hn : narrow ty v = v) (hfit : fits ty v = true) (hl : slot < fs.length) (hw : ws.set q0 (a, ob ci (fs.set slot v)) = ws2) (k : IW M R D ct nx ls st ws2 cs sl Q) : IW M R D ct pc ls (v :: .ref a :: st) ws cs sl Q := by
  subst hw
  obtain ⟨hd, rfl⟩ := hd
  obtain ⟨Cn, T, N, ty0, h1, h2, h3, h4, h5, h6, h7, h8, h9⟩ := hf
  exact fun A p l e s m args below meth c H locs rls C hA Y => va_putF (D := D) C.1 C.2.1 C.2.2.2.2.2.1 h4 ty0 h5 h6 C.2.2.2.2.1 C.2.2.2.2.2.2.2.2.1 Y.1 Y.2.1 Y.2.2.1 q0 he h1 slot h2 (C.2.2.2.2.2.1 _ h3) (fun _ h => h) h7 C.2.2.2.2.2.2.2.1 h8 h9 hn hfit hl hd (fun H1 locs1 hP1 hD1 hS1 => k A p l e s m args below meth c H1 locs1 rls C hA ⟨hP1, hD1, hS1, Y.2.2.2⟩)
theorem i_put {q0 a idx ci slot : Nat} {fs : List Value} {v : Value} {ty : FieldType} {ws2 : va_W} (hd : D0 M pc (.putfield idx) 3 nx) (hf : FPk (mO M) idx ci slot ty) (he : ws[q0]? = some (a, ob ci fs)) (hn : narrow ty v = v) (hfit : fits ty v = true) (hl : slot < fs.length) (hw : ws.set q0 (a, ob ci (fs.set slot v)) = ws2) (k : IW M R D ct nx ls st ws2 cs sl Q) : IW M R D ct pc ls (v :: .ref a :: st) ws cs sl Q := by
  subst hw
  obtain ⟨hd, rfl⟩ := hd
  obtain ⟨Cn, T, N, ty0, h1, h2, h3, h4, h5, h6, h7, h8⟩ := hf
  exact fun A p l e s m args below meth c H locs rls C hA Y => va_put (D := D) C.1 C.2.1 C.2.2.2.2.2.1 h4 ty0 h5 h6 C.2.2.2.2.1 C.2.2.2.2.2.2.2.2.1 Y.1 Y.2.1 Y.2.2.1 q0 he h1 slot h2 (C.2.2.2.2.2.1 _ h3) (fun _ h => h) h7 h8 hn hfit hl hd (fun H1 locs1 hP1 hD1 hS1 => k A p l e s m args below meth c H1 locs1 rls C hA ⟨hP1, hD1, hS1, Y.2.2.2⟩)
theorem i_get {q0 a idx ci slot : Nat} {fs : List Value} {v : Value} (hd : D0 M pc (.getfield idx) 3 nx) (hf : FLk (mO M) idx ci slot) (he : ws[q0]? = some (a, ob ci fs)) (hv : fs[slot]? = some v) (k : IW M R D ct nx ls (v :: st) ws cs sl Q) : IW M R D ct pc ls (.ref a :: st) ws cs sl Q := by
  obtain ⟨hd, rfl⟩ := hd
  obtain ⟨Cn, T, N, h1, h2, h3, h4⟩ := hf
  exact fun A p l e s m args below meth c H locs rls C hA Y => va_get (v := v) C.1 C.2.1 C.2.2.2.2.2.1 h4 C.2.2.2.2.1 C.2.2.2.2.2.2.2.2.1 Y.1 q0 he h1 slot h2 (C.2.2.2.2.2.1 _ h3) (fun _ h => h) hv hd (k A p l e s m args below meth c H locs rls C hA Y)
theorem i_iast {q0 a n i : Nat} {x : Int32} {f : Nat → Int32} {ws2 : va_W} (hd : D0 M pc .iastore 1 nx) (he : ws[q0]? = some (a, aI ct n f)) (hi : i < n) (hn : n < 2 ^ 31) (hw : ws.set q0 (a, aI ct n (upd f i x)) = ws2) (k : IW M R D ct nx ls st ws2 cs sl Q) : IW M R D ct pc ls (.int x :: .int (nI i) :: .ref a :: st) ws cs sl Q := by
  subst hw
  obtain ⟨hd, rfl⟩ := hd
  exact fun A p l e s m args below meth c H locs rls C hA Y => va_iast C.1 C.2.1 C.2.2.2.2.2.2.2.2.1 Y.1 Y.2.1 Y.2.2.1 q0 0 he rfl (vp_in_nI hi hn) hd (fun H1 locs1 hP1 hD1 hS1 => by
    rw [nI_clamp (Nat.lt_trans hi hn)] at hP1 hD1
    exact k A p l e s m args below meth c H1 locs1 rls C hA ⟨hP1, hD1, hS1, Y.2.2.2⟩)
theorem i_aast {q0 qk a v n i : Nat} {vs : List Value} {f : Nat → Option Nat} {ws2 : va_W} (hd : D0 M pc .aastore 1 nx) (he : ws[q0]? = some (a, aQ ct n f)) (hv : ws[qk]? = some (v, ob 4 vs)) (hi : i < n) (hn : n < 2 ^ 31) (hw : ws.set q0 (a, aQ ct n (va_up f i (some v))) = ws2) (k : IW M R D ct nx ls st ws2 cs sl Q) : IW M R D ct pc ls (.ref v :: .int (nI i) :: .ref a :: st) ws cs sl Q := by
  subst hw
  obtain ⟨hd, rfl⟩ := hd
  exact fun A p l e s m args below meth c H locs rls C hA Y => va_astq (r := (RX4, TX4, 4)) C.1 C.2.1 C.2.2.2.2.2.2.2.2.1 Y.1 Y.2.1 Y.2.2.1 q0 3 qk 4 he rfl hv rfl (vp_in_nI hi hn) hd (fun H1 locs1 hP1 hD1 hS1 => by
    rw [nI_clamp (Nat.lt_trans hi hn)] at hP1 hD1
    exact k A p l e s m args below meth c H1 locs1 rls C hA ⟨hP1, hD1, hS1, Y.2.2.2⟩)
def NWk (own : String) (idx ci N : Nat) (fs : List Value) : Prop := ∃ (C : String) (T : u_T) (ty0 : Nat → FieldType), CL[ci]? = some (C, T, N) ∧ Cond.classLink own idx C ∈ BT ∧ Cond.instantiable C N ∈ BT ∧ Cond.initialized C ∈ BT ∧ (∀ w ∈ u_ws C T N, w ∈ BT) ∧ (∀ k, k < N → parseFieldDescriptor (T k).2.2.1 = some (ty0 k)) ∧ ∀ j, j < N → defaultValue (ty0 j) = vp_V fs j
theorem i_new {idx ci N : Nat} {fs : List Value} (hd : D0 M pc (.new idx) 3 nx) (hf : NWk (mO M) idx ci N fs) (hc : cs + 1 ≤ R.cells) (hs : sl + N ≤ R.slots) (k : ∀ q, IW M R D ct nx ls (.ref q :: st) (ws ++ [(q, ob ci fs)]) (cs + 1) (sl + N) Q) : IW M R D ct pc ls st ws cs sl Q := by
  obtain ⟨hd, rfl⟩ := hd
  obtain ⟨Cn, T, ty0, h1, h2, h3, h4, h5, h6, h7⟩ := hf
  exact fun A p l e s m args below meth c H locs rls C hA Y => va_new (D := D) C.1 C.2.1 C.2.2.2.2.2.1 h5 ty0 h6 C.2.2.2.2.1 (C.2.2.2.2.2.1 _ h2) (C.2.2.2.2.2.1 _ h3) (C.2.2.2.2.2.1 _ h4) C.2.2.2.2.2.2.2.2.1 Y.1 Y.2.1 Y.2.2.1 hA h1 h7 hc hs hd (fun q H1 hP1 hD1 hS1 => k q A p l e s m args below meth c H1 locs rls C hA ⟨hP1, hD1, hS1, Y.2.2.2⟩)
theorem i_ret (hd : D0 M pc .return_ 1 nx) (hc : cs = R.cells) (hs : sl = R.slots) (q : Q ws) : IW M R D ct pc ls [] ws cs sl Q := by
  subst hc
  subst hs
  exact fun A p l e s m args below meth c H locs rls C hA Y => W.vret C.1 C.2.1 C.2.2.2.1 (fun t ht hW => ⟨⟨ws, rfl, q, by rw [ht]; exact Y.1, va_K.moved hW.alike C.2.2.2.2.2.2.2.2.1, Y.2.1⟩, Y.2.2.1.F ht⟩) Y.2.2.1.2.2 hd.1 C.2.2.2.2.2.2.1
end
theorem nd_range : ∀ (k n : Nat), va_nd (List.range' k n) = true
  | _, 0 => rfl
  | k, n + 1 => by
    rw [List.range'_succ]
    show (decide _ && _) = true
    rw [nd_range (k + 1) n, Bool.and_true]
    exact decide_eq_true (fun h => by have := List.mem_range'_1.mp h; omega)
theorem sub_pre {α : Type} (wr w1 : List α) : (List.range' 0 wr.length).map (fun i => (wr ++ w1)[i]?) = wr.map some := by
  apply List.ext_getElem?
  intro i
  by_cases h : i < wr.length
  · rw [List.getElem?_map, List.getElem?_map, List.getElem?_range' h]
    simp only [Option.map_some, Nat.zero_add, Nat.one_mul]
    rw [List.getElem?_append_left h, List.getElem?_eq_getElem h]
    rfl
  · rw [List.getElem?_eq_none (by simpa using h), List.getElem?_eq_none (by simpa using h)]
theorem ipre_blind (D : va_G) (ct : Nat → ClassId) (h0 sz ci : Nat) (fs : List Value) : FrameBlind (va_Pc [.ref h0] (fun U => U.heap.size = sz ∧ va_P D CL [(h0, ob ci fs)] U.heap ∧ va_K D CL (tyC ct) U ∧ va_D (fun _ => True) [(h0, ob ci fs)] ∧ NW U)) := fun a U g mk q => by
  obtain ⟨q0, q1, qP, qK, qD, qN⟩ := q
  exact ⟨q0, q1, qP, va_K.moved (u := U) (U := U.calling g mk a) (Vm.Alike.refl U.vm) qK, qD, NW.same rfl qN⟩
/-- how a constructor is linked: by its own word, or as a nest mate's -/
def IK (M M2 : Mth) (idx : Nat) : Prop := (Cond.methodLink (mO M) idx (mY M2) ∈ BT ∨ (mO M = RX7 ∧ (idx, mY M2) ∈ nestL)) ∧ Cond.instanceMethod (mY M2) ∈ BT ∧ Cond.initialized (mY M2).cls ∈ BT ∧ Cond.code (mY M2) (mC M2) (mN M2) none ∈ BT ∧ mR M2 = none ∧ (mY M2).name = "<init>" ∧ ((mY M2).cls ≠ "java/lang/invoke/MethodHandle" ∧ (mY M2).cls ≠ "java/lang/invoke/VarHandle") ∧ (parseMethodDescriptor (mY M2).desc).map (fun d => d.parameters.length) = some 0
section
variable {M : Mth} {R : Room} {D : va_G} {ct : Nat → ClassId} {pc nx : Nat} {ls : List (Option Value)} {st : List Value} {cs sl : Nat} {Q : va_W → Prop}
theorem i_call {M2 : Mth} {R2 : Room} {idx ci q : Nat} {fs : List Value} {Q2 : (Nat → ClassId) → Nat → va_W → Prop} {wr : va_W} (hd : D0 M pc (.invokespecial idx) 3 nx) (hl : IK M M2 idx) (hok : InitOK M2 R2 ci fs Q2) (hR : R2.frames + 1 ≤ R.frames ∧ 8 + (mN M2 + 11) + R2.locals ≤ R.locals) (hw : (st.map fun v => v.category).sum ≤ 8) (hc : cs + R2.cells ≤ R.cells ∧ sl + R2.slots ≤ R.slots) (k : ∀ w1, Q2 ct q w1 → IW M R D ct nx ls st (wr ++ w1) (cs + R2.cells) (sl + R2.slots) Q) : IW M R D ct pc ls (.ref q :: st) (wr ++ [(q, ob ci fs)]) cs sl Q := by
  obtain ⟨hd, rfl⟩ := hd
  obtain ⟨hlk, l2, l3, l4, l5, l6, l7, l8⟩ := hl
  exact fun A p l e s m args below meth c H locs rls C hA Y => by
    have B := C.2.2.2.2.2.1
    have hK := C.2.2.2.2.2.2.2.2.1
    have hsz : rls.size = mN M := by obtain ⟨-, -, -, lv, h1, -⟩ := Y; exact h1.1
    obtain ⟨hP, hDD, hS, hL⟩ := Y
    have eC : [wr.length].map (fun i => (wr ++ [(q, ob ci fs)])[i]?) = [(q, ob ci fs)].map some := by simp
    have hPc : va_P D CL [(q, ob ci fs)] H := hP.sub [wr.length] (by simp)
    have hDc : va_D A [(q, ob ci fs)] := hDD.sub [wr.length] rfl eC
    have hFc := va_free (wc := [(q, ob ci fs)]) hDD hS hA [wr.length] eC
    have hgood : GoodIn BT (wsM M2) := goodBT (by rw [l5]; exact l4)
    have hws : wsM M2 = Cond.code (mY M2) (mC M2) (mN M2) none :: BT := by unfold wsM; rw [l5]
    have hpre : PreS s H (va_Pc [.ref q] (fun U => U.heap.size = H.size ∧ va_P D CL [(q, ob ci fs)] U.heap ∧ va_K D CL (tyC ct) U ∧ va_D (fun _ => True) [(q, ob ci fs)] ∧ NW U)) (.ref q :: []) := ⟨ipre_blind D ct q H.size ci fs, fun U hU hW => ⟨rfl, by rw [hU], by rw [hU]; exact hPc, va_K.moved hW.alike hK, hDc.weaken (fun _ _ _ _ => trivial), NW.warm hW C.2.2.2.2.2.2.2.2.2⟩⟩
    have hrun : va_Run p l e R s m args below meth c H locs cs sl R2.cells R2.slots (F0 m pc rls (.ref q :: st)) st (va_Qv (Q2 ct q) (IB D ct (va_A [(q, ob ci fs)] H.size)) (va_A [(q, ob ci fs)] H.size) [.ref q].toArray) (va_A [(q, ob ci fs)] H.size) := by
      rcases hlk with h1 | ⟨h1, h2⟩
      · exact va_runI (As := []) (rest := st) ⟨C.1, C.2.1, C.2.2.1, C.2.2.2.2.1, B⟩ (hok l D ct q H.size) (cwI 0 B hgood hws rfl rfl (B _ l3) (B _ h1) (B _ l2) l6 ⟨l7.1, l7.2, l8⟩ hR) hpre rfl rfl hsz rfl (lv_room hw) hd hc
      · exact va_runIN (host := RX7) (As := []) (rest := st) ⟨C.1, C.2.1, C.2.2.1, C.2.2.2.2.1, B⟩ (hok l D ct q H.size) ⟨va_cnB 0 B hgood hws rfl rfl (by rw [h1]; exact C.2.2.2.2.2.2.2.2.2.1 _ h2) (B _ l3) ⟨l7.1, l7.2, l8⟩ hR, l6, B _ l2⟩ hpre rfl rfl hsz rfl (lv_room hw) hd hc
    refine va_callv hrun hS (fun q _ h => hFc q h) hFc (fun w1 t H1 locs1 ht hvm hw1 hB hz1 hk1 hS1 => ?_)
    obtain ⟨hP1, hK1, hD1⟩ := hB
    rw [ht] at hP1
    obtain ⟨hP2, hD2⟩ := va_join (wr := wr) (w1 := w1) hP hDD [wr.length] (List.range' 0 wr.length) eC (sub_pre wr _) (nd_range _ _) (fun i hi => by have := List.mem_range'_1.mp hi; simp; omega) hk1 hFc hP1 hD1
    exact k w1 hw1 A p l e s m args below meth c H1 locs1 rls C hA ⟨hP2, hD2, hS1, hL⟩
end
