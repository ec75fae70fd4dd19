variable {M : Mth} {j pc nx : Nat} {ls : List (Option Value)} {st : List Value} {ρ : Rho} {Q : Option Value → Rho → Prop}
theorem lget {G : Wd} {s : State} {H : Heap} {locs : List Loc} {rls : Array Slot} {i : Nat} {v : Value} (D : Dy M G ρ s H locs rls ls) (h : lg ls i = some v) : rls[i]? = some (.val (rv G v)) := by
  obtain ⟨-, -, lv, h1, h2⟩ := D
  exact h1.2.2 _ (h2 i v h)
def D0 (M : Mth) (pc : Nat) (i : Instr) (len nx : Nat) : Prop := decode (mC M) pc = .ok (i, len) ∧ pc + len = nx

theorem w_iadd {x y : Int32} (hd : D0 M pc .iadd 1 nx) (k : MW M j nx ls (.int (x + y) :: st) ρ Q) : MW M j pc ls (.int y :: .int x :: st) ρ Q := by
  obtain ⟨hd, rfl⟩ := hd
  exact fun G p l e s m args below meth c H locs rls C D => lv_iadd C.1 C.2.1 hd (k G p l e s m args below meth c H locs rls C D)
theorem w_isub {x y : Int32} (hd : D0 M pc .isub 1 nx) (k : MW M j nx ls (.int (x - y) :: st) ρ Q) : MW M j pc ls (.int y :: .int x :: st) ρ Q := by
  obtain ⟨hd, rfl⟩ := hd
  exact fun G p l e s m args below meth c H locs rls C D => lv_isub C.1 C.2.1 hd (k G p l e s m args below meth c H locs rls C D)
theorem w_imul {x y : Int32} (hd : D0 M pc .imul 1 nx) (k : MW M j nx ls (.int (x * y) :: st) ρ Q) : MW M j pc ls (.int y :: .int x :: st) ρ Q := by
  obtain ⟨hd, rfl⟩ := hd
  exact fun G p l e s m args below meth c H locs rls C D => lv_imul C.1 C.2.1 hd (k G p l e s m args below meth c H locs rls C D)
theorem w_iand {x y : Int32} (hd : D0 M pc .iand 1 nx) (k : MW M j nx ls (.int (x &&& y) :: st) ρ Q) : MW M j pc ls (.int y :: .int x :: st) ρ Q := by
  obtain ⟨hd, rfl⟩ := hd
  exact fun G p l e s m args below meth c H locs rls C D => lv_iand C.1 C.2.1 hd (k G p l e s m args below meth c H locs rls C D)
theorem w_ior {x y : Int32} (hd : D0 M pc .ior 1 nx) (k : MW M j nx ls (.int (x ||| y) :: st) ρ Q) : MW M j pc ls (.int y :: .int x :: st) ρ Q := by
  obtain ⟨hd, rfl⟩ := hd
  exact fun G p l e s m args below meth c H locs rls C D => lv_ior C.1 C.2.1 hd (k G p l e s m args below meth c H locs rls C D)
theorem w_ixor {x y : Int32} (hd : D0 M pc .ixor 1 nx) (k : MW M j nx ls (.int (x ^^^ y) :: st) ρ Q) : MW M j pc ls (.int y :: .int x :: st) ρ Q := by
  obtain ⟨hd, rfl⟩ := hd
  exact fun G p l e s m args below meth c H locs rls C D => lv_ixor C.1 C.2.1 hd (k G p l e s m args below meth c H locs rls C D)
theorem w_ishl {x y : Int32} (hd : D0 M pc .ishl 1 nx) (k : MW M j nx ls (.int (x <<< (y &&& 31)) :: st) ρ Q) : MW M j pc ls (.int y :: .int x :: st) ρ Q := by
  obtain ⟨hd, rfl⟩ := hd
  exact fun G p l e s m args below meth c H locs rls C D => lv_ishl C.1 C.2.1 hd (k G p l e s m args below meth c H locs rls C D)
theorem w_ishr {x y : Int32} (hd : D0 M pc .ishr 1 nx) (k : MW M j nx ls (.int (x >>> (y &&& 31)) :: st) ρ Q) : MW M j pc ls (.int y :: .int x :: st) ρ Q := by
  obtain ⟨hd, rfl⟩ := hd
  exact fun G p l e s m args below meth c H locs rls C D => lv_ishr C.1 C.2.1 hd (k G p l e s m args below meth c H locs rls C D)
theorem w_ladd {x y : Int64} (hd : D0 M pc .ladd 1 nx) (k : MW M j nx ls (.long (x + y) :: st) ρ Q) : MW M j pc ls (.long y :: .long x :: st) ρ Q := by
  obtain ⟨hd, rfl⟩ := hd
  exact fun G p l e s m args below meth c H locs rls C D => lv_ladd C.1 C.2.1 hd (k G p l e s m args below meth c H locs rls C D)
theorem w_lsub {x y : Int64} (hd : D0 M pc .lsub 1 nx) (k : MW M j nx ls (.long (x - y) :: st) ρ Q) : MW M j pc ls (.long y :: .long x :: st) ρ Q := by
  obtain ⟨hd, rfl⟩ := hd
  exact fun G p l e s m args below meth c H locs rls C D => lv_lsub C.1 C.2.1 hd (k G p l e s m args below meth c H locs rls C D)
theorem w_lmul {x y : Int64} (hd : D0 M pc .lmul 1 nx) (k : MW M j nx ls (.long (x * y) :: st) ρ Q) : MW M j pc ls (.long y :: .long x :: st) ρ Q := by
  obtain ⟨hd, rfl⟩ := hd
  exact fun G p l e s m args below meth c H locs rls C D => lv_lmul C.1 C.2.1 hd (k G p l e s m args below meth c H locs rls C D)
theorem w_lor {x y : Int64} (hd : D0 M pc .lor 1 nx) (k : MW M j nx ls (.long (x ||| y) :: st) ρ Q) : MW M j pc ls (.long y :: .long x :: st) ρ Q := by
  obtain ⟨hd, rfl⟩ := hd
  exact fun G p l e s m args below meth c H locs rls C D => lv_lor C.1 C.2.1 hd (k G p l e s m args below meth c H locs rls C D)
theorem w_irem {x y : Int32} (hd : D0 M pc .irem 1 nx) (hne : ¬ y = 0) (k : MW M j nx ls (.int (x - x / y * y) :: st) ρ Q) : MW M j pc ls (.int y :: .int x :: st) ρ Q := by
  obtain ⟨hd, rfl⟩ := hd
  exact fun G p l e s m args below meth c H locs rls C D => lv_irem C.1 C.2.1 hd hne (k G p l e s m args below meth c H locs rls C D)
theorem w_lrem {x y : Int64} (hd : D0 M pc .lrem 1 nx) (hne : ¬ y = 0) (k : MW M j nx ls (.long (x - x / y * y) :: st) ρ Q) : MW M j pc ls (.long y :: .long x :: st) ρ Q := by
  obtain ⟨hd, rfl⟩ := hd
  exact fun G p l e s m args below meth c H locs rls C D => lv_lrem C.1 C.2.1 hd hne (k G p l e s m args below meth c H locs rls C D)
theorem w_ldiv {x y : Int64} (hd : D0 M pc .ldiv 1 nx) (hne : ¬ y = 0) (k : MW M j nx ls (.long (x / y) :: st) ρ Q) : MW M j pc ls (.long y :: .long x :: st) ρ Q := by
  obtain ⟨hd, rfl⟩ := hd
  exact fun G p l e s m args below meth c H locs rls C D => lv_ldiv C.1 C.2.1 hd hne (k G p l e s m args below meth c H locs rls C D)
theorem w_iushr {x y : Int32} (hd : D0 M pc .iushr 1 nx) (k : MW M j nx ls (.int ((x.toUInt32 >>> (y.toUInt32 &&& Int32.toUInt32 31)).toInt32) :: st) ρ Q) : MW M j pc ls (.int y :: .int x :: st) ρ Q := by
  obtain ⟨hd, rfl⟩ := hd
  exact fun G p l e s m args below meth c H locs rls C D => lv_iushr C.1 C.2.1 hd rfl (k G p l e s m args below meth c H locs rls C D)
theorem w_lshl {x : Int64} {y : Int32} (hd : D0 M pc .lshl 1 nx) (k : MW M j nx ls (.long (x <<< (y.toInt64 &&& 63)) :: st) ρ Q) : MW M j pc ls (.int y :: .long x :: st) ρ Q := by
  obtain ⟨hd, rfl⟩ := hd
  exact fun G p l e s m args below meth c H locs rls C D => lv_lshl C.1 C.2.1 hd rfl (k G p l e s m args below meth c H locs rls C D)
theorem w_i2l {x : Int32} (hd : D0 M pc .i2l 1 nx) (k : MW M j nx ls (.long x.toInt64 :: st) ρ Q) : MW M j pc ls (.int x :: st) ρ Q := by
  obtain ⟨hd, rfl⟩ := hd
  exact fun G p l e s m args below meth c H locs rls C D => lv_i2l C.1 C.2.1 hd rfl (k G p l e s m args below meth c H locs rls C D)
theorem w_i2b {x : Int32} (hd : D0 M pc .i2b 1 nx) (k : MW M j nx ls (.int x.toInt8.toInt32 :: st) ρ Q) : MW M j pc ls (.int x :: st) ρ Q := by
  obtain ⟨hd, rfl⟩ := hd
  exact fun G p l e s m args below meth c H locs rls C D => lv_i2b C.1 C.2.1 hd rfl (k G p l e s m args below meth c H locs rls C D)
theorem w_i2s {x : Int32} (hd : D0 M pc .i2s 1 nx) (k : MW M j nx ls (.int x.toInt16.toInt32 :: st) ρ Q) : MW M j pc ls (.int x :: st) ρ Q := by
  obtain ⟨hd, rfl⟩ := hd
  exact fun G p l e s m args below meth c H locs rls C D => lv_i2s C.1 C.2.1 hd rfl (k G p l e s m args below meth c H locs rls C D)
theorem w_lcmp {x y : Int64} (hd : D0 M pc .lcmp 1 nx) (k : MW M j nx ls (.int (lg_cmp x y) :: st) ρ Q) : MW M j pc ls (.long y :: .long x :: st) ρ Q := by
  obtain ⟨hd, rfl⟩ := hd
  exact fun G p l e s m args below meth c H locs rls C D => W.lcmp C.1 C.2.1 hd (k G p l e s m args below meth c H locs rls C D)
theorem w_dup {v : Value} (hd : D0 M pc .dup 1 nx) (hc : v.category = 1) (k : MW M j nx ls (v :: v :: st) ρ Q) : MW M j pc ls (v :: st) ρ Q := by
  obtain ⟨hd, rfl⟩ := hd
  exact fun G p l e s m args below meth c H locs rls C D => lv_dup C.1 C.2.1 hd ((rv_cat G v).trans hc) (k G p l e s m args below meth c H locs rls C D)
theorem w_pop {v : Value} (hd : D0 M pc .pop 1 nx) (hc : v.category = 1) (k : MW M j nx ls st ρ Q) : MW M j pc ls (v :: st) ρ Q := by
  obtain ⟨hd, rfl⟩ := hd
  exact fun G p l e s m args below meth c H locs rls C D => lv_pop C.1 C.2.1 hd ((rv_cat G v).trans hc) (k G p l e s m args below meth c H locs rls C D)
theorem w_dup2 {v w : Value} (hd : D0 M pc .dup2 1 nx) (hc : v.category = 1) (hc2 : w.category = 1) (k : MW M j nx ls (v :: w :: v :: w :: st) ρ Q) : MW M j pc ls (v :: w :: st) ρ Q := by
  obtain ⟨hd, rfl⟩ := hd
  exact fun G p l e s m args below meth c H locs rls C D => lv_dup2_11 C.1 C.2.1 hd ((rv_cat G v).trans hc) ((rv_cat G w).trans hc2) (k G p l e s m args below meth c H locs rls C D)
def DLi (M : Mth) (pc i nx : Nat) : Prop := (∃ q : Fin 4, decode (mC M) pc = .ok (.iload_n q, 1) ∧ (q : Nat) = i ∧ pc + 1 = nx) ∨ (decode (mC M) pc = .ok (.iload i, 2) ∧ pc + 2 = nx)
theorem w_il {i : Nat} {x : Int32} (hd : DLi M pc i nx) (hl : lg ls i = some (.int x)) (k : MW M j nx ls (.int x :: st) ρ Q) : MW M j pc ls st ρ Q := by
  rcases hd with ⟨q, hd, hi, rfl⟩ | ⟨hd, rfl⟩
  · exact fun G p l e s m args below meth c H locs rls C D => lv_iload_n C.1 C.2.1 hd hi (lget D hl) (k G p l e s m args below meth c H locs rls C D)
  · exact fun G p l e s m args below meth c H locs rls C D => lv_iload C.1 C.2.1 hd (lget D hl) (k G p l e s m args below meth c H locs rls C D)
def DLl (M : Mth) (pc i nx : Nat) : Prop := (∃ q : Fin 4, decode (mC M) pc = .ok (.lload_n q, 1) ∧ (q : Nat) = i ∧ pc + 1 = nx) ∨ (decode (mC M) pc = .ok (.lload i, 2) ∧ pc + 2 = nx)
theorem w_ll {i : Nat} {x : Int64} (hd : DLl M pc i nx) (hl : lg ls i = some (.long x)) (k : MW M j nx ls (.long x :: st) ρ Q) : MW M j pc ls st ρ Q := by
  rcases hd with ⟨q, hd, hi, rfl⟩ | ⟨hd, rfl⟩
  · exact fun G p l e s m args below meth c H locs rls C D => lv_lload_n C.1 C.2.1 hd hi (lget D hl) (k G p l e s m args below meth c H locs rls C D)
  · exact fun G p l e s m args below meth c H locs rls C D => lv_lload C.1 C.2.1 hd (lget D hl) (k G p l e s m args below meth c H locs rls C D)
def DLa (M : Mth) (pc i nx : Nat) : Prop := (∃ q : Fin 4, decode (mC M) pc = .ok (.aload_n q, 1) ∧ (q : Nat) = i ∧ pc + 1 = nx) ∨ (decode (mC M) pc = .ok (.aload i, 2) ∧ pc + 2 = nx)
theorem w_al {i : Nat} {x : Nat} (hd : DLa M pc i nx) (hl : lg ls i = some (.ref x)) (k : MW M j nx ls (.ref x :: st) ρ Q) : MW M j pc ls st ρ Q := by
  rcases hd with ⟨q, hd, hi, rfl⟩ | ⟨hd, rfl⟩
  · exact fun G p l e s m args below meth c H locs rls C D => lv_aload_n C.1 C.2.1 hd hi (lget D hl) (k G p l e s m args below meth c H locs rls C D)
  · exact fun G p l e s m args below meth c H locs rls C D => lv_aload C.1 C.2.1 hd (lget D hl) (k G p l e s m args below meth c H locs rls C D)
def DSi (M : Mth) (pc i nx : Nat) : Prop := i < mN M ∧ ((∃ q : Fin 4, decode (mC M) pc = .ok (.istore_n q, 1) ∧ (q : Nat) = i ∧ pc + 1 = nx) ∨ (decode (mC M) pc = .ok (.istore i, 2) ∧ pc + 2 = nx))
theorem w_is {i : Nat} {x : Int32} {ls2 : List (Option Value)} (hd : DSi M pc i nx) (hl : lset (lk ls i) i (some (.int x)) = ls2) (k : MW M j nx ls2 st ρ Q) : MW M j pc ls (.int x :: st) ρ Q := by
  subst hl
  rcases hd with ⟨hn, ⟨q, hd, hi, rfl⟩ | ⟨hd, rfl⟩⟩
  · exact fun G p l e s m args below meth c H locs rls C D => by
      obtain ⟨hP, hS, lv, h1, h2⟩ := D
      refine lv_istore_n C.1 C.2.1 hd hi h1 hn rfl (fun rls2 hl2 => ?_)
      exact k G p l e s m args below meth c H locs rls2 C ⟨hP, hS, _, hl2, Lok.st1 h2 i (.int x)⟩
  · exact fun G p l e s m args below meth c H locs rls C D => by
      obtain ⟨hP, hS, lv, h1, h2⟩ := D
      refine lv_istore C.1 C.2.1 hd h1 hn rfl (fun rls2 hl2 => ?_)
      exact k G p l e s m args below meth c H locs rls2 C ⟨hP, hS, _, hl2, Lok.st1 h2 i (.int x)⟩
def DSl (M : Mth) (pc i nx : Nat) : Prop := i + 1 < mN M ∧ ((∃ q : Fin 4, decode (mC M) pc = .ok (.lstore_n q, 1) ∧ (q : Nat) = i ∧ pc + 1 = nx) ∨ (decode (mC M) pc = .ok (.lstore i, 2) ∧ pc + 2 = nx))
theorem w_ls {i : Nat} {x : Int64} {ls2 : List (Option Value)} (hd : DSl M pc i nx) (hl : lset (lset (lk ls i) (i + 1) none) i (some (.long x)) = ls2) (k : MW M j nx ls2 st ρ Q) : MW M j pc ls (.long x :: st) ρ Q := by
  subst hl
  rcases hd with ⟨hn, ⟨q, hd, hi, rfl⟩ | ⟨hd, rfl⟩⟩
  · exact fun G p l e s m args below meth c H locs rls C D => by
      obtain ⟨hP, hS, lv, h1, h2⟩ := D
      refine lv_lstore_n C.1 C.2.1 hd hi h1 hn rfl (fun rls2 hl2 => ?_)
      exact k G p l e s m args below meth c H locs rls2 C ⟨hP, hS, _, hl2, Lok.st2 h2 i (.long x)⟩
  · exact fun G p l e s m args below meth c H locs rls C D => by
      obtain ⟨hP, hS, lv, h1, h2⟩ := D
      refine lv_lstore C.1 C.2.1 hd h1 hn rfl (fun rls2 hl2 => ?_)
      exact k G p l e s m args below meth c H locs rls2 C ⟨hP, hS, _, hl2, Lok.st2 h2 i (.long x)⟩
def DSa (M : Mth) (pc i nx : Nat) : Prop := i < mN M ∧ ((∃ q : Fin 4, decode (mC M) pc = .ok (.astore_n q, 1) ∧ (q : Nat) = i ∧ pc + 1 = nx) ∨ (decode (mC M) pc = .ok (.astore i, 2) ∧ pc + 2 = nx))
theorem w_as {i : Nat} {x : Nat} {ls2 : List (Option Value)} (hd : DSa M pc i nx) (hl : lset (lk ls i) i (some (.ref x)) = ls2) (k : MW M j nx ls2 st ρ Q) : MW M j pc ls (.ref x :: st) ρ Q := by
  subst hl
  rcases hd with ⟨hn, ⟨q, hd, hi, rfl⟩ | ⟨hd, rfl⟩⟩
  · exact fun G p l e s m args below meth c H locs rls C D => by
      obtain ⟨hP, hS, lv, h1, h2⟩ := D
      refine lv_astore_n C.1 C.2.1 hd hi h1 hn rfl (fun rls2 hl2 => ?_)
      exact k G p l e s m args below meth c H locs rls2 C ⟨hP, hS, _, hl2, Lok.st1 h2 i (.ref x)⟩
  · exact fun G p l e s m args below meth c H locs rls C D => by
      obtain ⟨hP, hS, lv, h1, h2⟩ := D
      refine lv_astore C.1 C.2.1 hd h1 hn rfl (fun rls2 hl2 => ?_)
      exact k G p l e s m args below meth c H locs rls2 C ⟨hP, hS, _, hl2, Lok.st1 h2 i (.ref x)⟩
def DIn (M : Mth) (pc i : Nat) (v : Int32) (nx : Nat) : Prop := i < mN M ∧ ∃ n, decode (mC M) pc = .ok (.iinc i n, 3) ∧ Int32.ofInt n = v ∧ pc + 3 = nx
theorem w_iinc {i : Nat} {x v : Int32} {ls2 : List (Option Value)} (hd : DIn M pc i v nx) (hg : lg ls i = some (.int x)) (hl : lset (lk ls i) i (some (.int (x + v))) = ls2) (k : MW M j nx ls2 st ρ Q) : MW M j pc ls st ρ Q := by
  subst hl
  obtain ⟨hn, n, hd, rfl, rfl⟩ := hd
  exact fun G p l e s m args below meth c H locs rls C D => by
    obtain ⟨hP, hS, lv, h1, h2⟩ := D
    obtain ⟨q, hq⟩ := List.getElem?_of_mem (h2 i _ hg)
    refine lv_iinc C.1 C.2.1 hd h1 hq rfl hn rfl (fun rls2 hl2 => ?_)
    exact k G p l e s m args below meth c H locs rls2 C ⟨hP, hS, _, hl2, Lok.st1 h2 i (.int (x + Int32.ofInt n))⟩
def DKi (M : Mth) (pc : Nat) (v : Int32) (nx : Nat) : Prop := (∃ n, decode (mC M) pc = .ok (.iconst n, 1) ∧ Int32.ofInt n = v ∧ pc + 1 = nx) ∨ (∃ n, decode (mC M) pc = .ok (.bipush n, 2) ∧ (Int8.ofInt n).toInt32 = v ∧ pc + 2 = nx) ∨ (∃ n, decode (mC M) pc = .ok (.sipush n, 3) ∧ (Int16.ofInt n).toInt32 = v ∧ pc + 3 = nx) ∨ (∃ q, decode (mC M) pc = .ok (.ldc q, 2) ∧ Cond.constant (mO M) q v ∈ BT ∧ pc + 2 = nx) ∨ (∃ q, decode (mC M) pc = .ok (.ldc_w q, 3) ∧ Cond.constant (mO M) q v ∈ BT ∧ pc + 3 = nx)
theorem w_k {v : Int32} (hd : DKi M pc v nx) (k : MW M j nx ls (.int v :: st) ρ Q) : MW M j pc ls st ρ Q := by
  rcases hd with ⟨n, hd, hv, rfl⟩ | ⟨n, hd, hv, rfl⟩ | ⟨n, hd, hv, rfl⟩ | ⟨n, hd, hv, rfl⟩ | ⟨n, hd, hv, rfl⟩
  · exact fun G p l e s m args below meth c H locs rls C D => lv_iconst C.1 C.2.1 hd hv (k G p l e s m args below meth c H locs rls C D)
  · exact fun G p l e s m args below meth c H locs rls C D => lv_bipush C.1 C.2.1 hd hv (k G p l e s m args below meth c H locs rls C D)
  · exact fun G p l e s m args below meth c H locs rls C D => lv_sipush C.1 C.2.1 hd hv (k G p l e s m args below meth c H locs rls C D)
  · exact fun G p l e s m args below meth c H locs rls C D => lv_ldc C.1 C.2.1 C.2.2.2.2.1 (C.2.2.2.2.2.1 _ hv) hd (k G p l e s m args below meth c H locs rls C D)
  · exact fun G p l e s m args below meth c H locs rls C D => lv_ldcw C.1 C.2.1 C.2.2.2.2.1 (C.2.2.2.2.2.1 _ hv) hd (k G p l e s m args below meth c H locs rls C D)
def DKl (M : Mth) (pc : Nat) (v : Int64) (nx : Nat) : Prop := (∃ n, decode (mC M) pc = .ok (.lconst n, 1) ∧ Int64.ofNat n = v ∧ pc + 1 = nx) ∨ (∃ q, decode (mC M) pc = .ok (.ldc2_w q, 3) ∧ Cond.constantLong (mO M) q v ∈ BT ∧ pc + 3 = nx)
theorem w_kl {v : Int64} (hd : DKl M pc v nx) (k : MW M j nx ls (.long v :: st) ρ Q) : MW M j pc ls st ρ Q := by
  rcases hd with ⟨n, hd, hv, rfl⟩ | ⟨n, hd, hv, rfl⟩
  · exact fun G p l e s m args below meth c H locs rls C D => lv_lconst C.1 C.2.1 hd hv (k G p l e s m args below meth c H locs rls C D)
  · exact fun G p l e s m args below meth c H locs rls C D => lv_ldc2 C.1 C.2.1 C.2.2.2.2.1 (C.2.2.2.2.2.1 _ hv) hd (k G p l e s m args below meth c H locs rls C D)
def DFeq (M : Mth) (pc tgt nx : Nat) : Prop := ∃ off : Int, decode (mC M) pc = .ok (.ifCond .eq off, 3) ∧ (pc : Int) + off = (tgt : Int) ∧ pc + 3 = nx
theorem w_ifeq {tgt : Nat} {x : Int32} (hd : DFeq M pc tgt nx) (kt : x = 0 → MW M j tgt ls st ρ Q) (kf : ¬ x = 0 → MW M j nx ls st ρ Q) : MW M j pc ls (.int x :: st) ρ Q := by
  obtain ⟨off, hd, ht, rfl⟩ := hd
  exact fun G p l e s m args below meth c H locs rls C D => lv_if_eq C.1 C.2.1 hd ht (fun h => kt h G p l e s m args below meth c H locs rls C D) (fun h => kf h G p l e s m args below meth c H locs rls C D)
def DCeq (M : Mth) (pc tgt nx : Nat) : Prop := ∃ off : Int, decode (mC M) pc = .ok (.if_icmp .eq off, 3) ∧ (pc : Int) + off = (tgt : Int) ∧ pc + 3 = nx
theorem w_iceq {tgt : Nat} {x y : Int32} (hd : DCeq M pc tgt nx) (kt : x = y → MW M j tgt ls st ρ Q) (kf : ¬ x = y → MW M j nx ls st ρ Q) : MW M j pc ls (.int y :: .int x :: st) ρ Q := by
  obtain ⟨off, hd, ht, rfl⟩ := hd
  exact fun G p l e s m args below meth c H locs rls C D => lv_icmp_eq C.1 C.2.1 hd ht (fun h => kt h G p l e s m args below meth c H locs rls C D) (fun h => kf h G p l e s m args below meth c H locs rls C D)
def DFne (M : Mth) (pc tgt nx : Nat) : Prop := ∃ off : Int, decode (mC M) pc = .ok (.ifCond .ne off, 3) ∧ (pc : Int) + off = (tgt : Int) ∧ pc + 3 = nx
theorem w_ifne {tgt : Nat} {x : Int32} (hd : DFne M pc tgt nx) (kt : ¬ x = 0 → MW M j tgt ls st ρ Q) (kf : x = 0 → MW M j nx ls st ρ Q) : MW M j pc ls (.int x :: st) ρ Q := by
  obtain ⟨off, hd, ht, rfl⟩ := hd
  exact fun G p l e s m args below meth c H locs rls C D => lv_if_ne C.1 C.2.1 hd ht (fun h => kt h G p l e s m args below meth c H locs rls C D) (fun h => kf h G p l e s m args below meth c H locs rls C D)
def DCne (M : Mth) (pc tgt nx : Nat) : Prop := ∃ off : Int, decode (mC M) pc = .ok (.if_icmp .ne off, 3) ∧ (pc : Int) + off = (tgt : Int) ∧ pc + 3 = nx
theorem w_icne {tgt : Nat} {x y : Int32} (hd : DCne M pc tgt nx) (kt : ¬ x = y → MW M j tgt ls st ρ Q) (kf : x = y → MW M j nx ls st ρ Q) : MW M j pc ls (.int y :: .int x :: st) ρ Q := by
  obtain ⟨off, hd, ht, rfl⟩ := hd
  exact fun G p l e s m args below meth c H locs rls C D => lv_icmp_ne C.1 C.2.1 hd ht (fun h => kt h G p l e s m args below meth c H locs rls C D) (fun h => kf h G p l e s m args below meth c H locs rls C D)
def DFlt (M : Mth) (pc tgt nx : Nat) : Prop := ∃ off : Int, decode (mC M) pc = .ok (.ifCond .lt off, 3) ∧ (pc : Int) + off = (tgt : Int) ∧ pc + 3 = nx
theorem w_iflt {tgt : Nat} {x : Int32} (hd : DFlt M pc tgt nx) (kt : x < 0 → MW M j tgt ls st ρ Q) (kf : ¬ x < 0 → MW M j nx ls st ρ Q) : MW M j pc ls (.int x :: st) ρ Q := by
  obtain ⟨off, hd, ht, rfl⟩ := hd
  exact fun G p l e s m args below meth c H locs rls C D => lv_if_lt C.1 C.2.1 hd ht (fun h => kt h G p l e s m args below meth c H locs rls C D) (fun h => kf h G p l e s m args below meth c H locs rls C D)
def DClt (M : Mth) (pc tgt nx : Nat) : Prop := ∃ off : Int, decode (mC M) pc = .ok (.if_icmp .lt off, 3) ∧ (pc : Int) + off = (tgt : Int) ∧ pc + 3 = nx
theorem w_iclt {tgt : Nat} {x y : Int32} (hd : DClt M pc tgt nx) (kt : x < y → MW M j tgt ls st ρ Q) (kf : ¬ x < y → MW M j nx ls st ρ Q) : MW M j pc ls (.int y :: .int x :: st) ρ Q := by
  obtain ⟨off, hd, ht, rfl⟩ := hd
  exact fun G p l e s m args below meth c H locs rls C D => lv_icmp_lt C.1 C.2.1 hd ht (fun h => kt h G p l e s m args below meth c H locs rls C D) (fun h => kf h G p l e s m args below meth c H locs rls C D)
def DFge (M : Mth) (pc tgt nx : Nat) : Prop := ∃ off : Int, decode (mC M) pc = .ok (.ifCond .ge off, 3) ∧ (pc : Int) + off = (tgt : Int) ∧ pc + 3 = nx
theorem w_ifge {tgt : Nat} {x : Int32} (hd : DFge M pc tgt nx) (kt : 0 ≤ x → MW M j tgt ls st ρ Q) (kf : ¬ 0 ≤ x → MW M j nx ls st ρ Q) : MW M j pc ls (.int x :: st) ρ Q := by
  obtain ⟨off, hd, ht, rfl⟩ := hd
  exact fun G p l e s m args below meth c H locs rls C D => lv_if_ge C.1 C.2.1 hd ht (fun h => kt h G p l e s m args below meth c H locs rls C D) (fun h => kf h G p l e s m args below meth c H locs rls C D)
def DCge (M : Mth) (pc tgt nx : Nat) : Prop := ∃ off : Int, decode (mC M) pc = .ok (.if_icmp .ge off, 3) ∧ (pc : Int) + off = (tgt : Int) ∧ pc + 3 = nx
theorem w_icge {tgt : Nat} {x y : Int32} (hd : DCge M pc tgt nx) (kt : y ≤ x → MW M j tgt ls st ρ Q) (kf : ¬ y ≤ x → MW M j nx ls st ρ Q) : MW M j pc ls (.int y :: .int x :: st) ρ Q := by
  obtain ⟨off, hd, ht, rfl⟩ := hd
  exact fun G p l e s m args below meth c H locs rls C D => lv_icmp_ge C.1 C.2.1 hd ht (fun h => kt h G p l e s m args below meth c H locs rls C D) (fun h => kf h G p l e s m args below meth c H locs rls C D)
def DFgt (M : Mth) (pc tgt nx : Nat) : Prop := ∃ off : Int, decode (mC M) pc = .ok (.ifCond .gt off, 3) ∧ (pc : Int) + off = (tgt : Int) ∧ pc + 3 = nx
theorem w_ifgt {tgt : Nat} {x : Int32} (hd : DFgt M pc tgt nx) (kt : 0 < x → MW M j tgt ls st ρ Q) (kf : ¬ 0 < x → MW M j nx ls st ρ Q) : MW M j pc ls (.int x :: st) ρ Q := by
  obtain ⟨off, hd, ht, rfl⟩ := hd
  exact fun G p l e s m args below meth c H locs rls C D => lv_if_gt C.1 C.2.1 hd ht (fun h => kt h G p l e s m args below meth c H locs rls C D) (fun h => kf h G p l e s m args below meth c H locs rls C D)
def DCgt (M : Mth) (pc tgt nx : Nat) : Prop := ∃ off : Int, decode (mC M) pc = .ok (.if_icmp .gt off, 3) ∧ (pc : Int) + off = (tgt : Int) ∧ pc + 3 = nx
theorem w_icgt {tgt : Nat} {x y : Int32} (hd : DCgt M pc tgt nx) (kt : y < x → MW M j tgt ls st ρ Q) (kf : ¬ y < x → MW M j nx ls st ρ Q) : MW M j pc ls (.int y :: .int x :: st) ρ Q := by
  obtain ⟨off, hd, ht, rfl⟩ := hd
  exact fun G p l e s m args below meth c H locs rls C D => lv_icmp_gt C.1 C.2.1 hd ht (fun h => kt h G p l e s m args below meth c H locs rls C D) (fun h => kf h G p l e s m args below meth c H locs rls C D)
def DFle (M : Mth) (pc tgt nx : Nat) : Prop := ∃ off : Int, decode (mC M) pc = .ok (.ifCond .le off, 3) ∧ (pc : Int) + off = (tgt : Int) ∧ pc + 3 = nx
theorem w_ifle {tgt : Nat} {x : Int32} (hd : DFle M pc tgt nx) (kt : x ≤ 0 → MW M j tgt ls st ρ Q) (kf : ¬ x ≤ 0 → MW M j nx ls st ρ Q) : MW M j pc ls (.int x :: st) ρ Q := by
  obtain ⟨off, hd, ht, rfl⟩ := hd
  exact fun G p l e s m args below meth c H locs rls C D => lv_if_le C.1 C.2.1 hd ht (fun h => kt h G p l e s m args below meth c H locs rls C D) (fun h => kf h G p l e s m args below meth c H locs rls C D)
def DCle (M : Mth) (pc tgt nx : Nat) : Prop := ∃ off : Int, decode (mC M) pc = .ok (.if_icmp .le off, 3) ∧ (pc : Int) + off = (tgt : Int) ∧ pc + 3 = nx
theorem w_icle {tgt : Nat} {x y : Int32} (hd : DCle M pc tgt nx) (kt : x ≤ y → MW M j tgt ls st ρ Q) (kf : ¬ x ≤ y → MW M j nx ls st ρ Q) : MW M j pc ls (.int y :: .int x :: st) ρ Q := by
  obtain ⟨off, hd, ht, rfl⟩ := hd
  exact fun G p l e s m args below meth c H locs rls C D => lv_icmp_le C.1 C.2.1 hd ht (fun h => kt h G p l e s m args below meth c H locs rls C D) (fun h => kf h G p l e s m args below meth c H locs rls C D)
def DG (M : Mth) (pc tgt : Nat) : Prop := ∃ off : Int, decode (mC M) pc = .ok (.goto off, 3) ∧ (pc : Int) + off = (tgt : Int)
theorem w_goto {tgt : Nat} (hd : DG M pc tgt) (k : MW M j tgt ls st ρ Q) : MW M j pc ls st ρ Q := by
  obtain ⟨off, hd, ht⟩ := hd
  exact fun G p l e s m args below meth c H locs rls C D => lv_goto C.1 C.2.1 hd ht (k G p l e s m args below meth c H locs rls C D)
theorem w_tin {dflt lo hi : Int} {offs : Array Int} {len tgt : Nat} {x : Int32} {off : Int} (hd : decode (mC M) pc = .ok (.tableswitch dflt lo hi offs, len)) (h1 : ¬ x.toInt < lo) (h2 : ¬ hi < x.toInt) (ho : offs[(x.toInt - lo).toNat]? = some off) (ht : (pc : Int) + off = (tgt : Int)) (k : MW M j tgt ls st ρ Q) : MW M j pc ls (.int x :: st) ρ Q := 
  fun G p l e s m args below meth c H locs rls C D => lv_tableIn C.1 C.2.1 hd h1 h2 ho ht (k G p l e s m args below meth c H locs rls C D)
theorem w_tout {dflt lo hi : Int} {offs : Array Int} {len tgt : Nat} {x : Int32} (hd : decode (mC M) pc = .ok (.tableswitch dflt lo hi offs, len)) (h : x.toInt < lo ∨ hi < x.toInt) (ht : (pc : Int) + dflt = (tgt : Int)) (k : MW M j tgt ls st ρ Q) : MW M j pc ls (.int x :: st) ρ Q := 
  fun G p l e s m args below meth c H locs rls C D => lv_tableOut C.1 C.2.1 hd h ht (k G p l e s m args below meth c H locs rls C D)
theorem w_lkp {dflt : Int} {ps : Array (Int × Int)} {len tgt : Nat} {x : Int32} {off : Int} (hd : decode (mC M) pc = .ok (.lookupswitch dflt ps, len)) (hp : (ps.toList.zip (ps.toList.drop 1)).all (fun (a, next) => a.1 < next.1) = true) (ho : Op.lookupswitch.offset ps.toList dflt x.toInt = off) (ht : (pc : Int) + off = (tgt : Int)) (k : MW M j tgt ls st ρ Q) : MW M j pc ls (.int x :: st) ρ Q := 
  fun G p l e s m args below meth c H locs rls C D => lv_lookup C.1 C.2.1 hd hp ho ht (k G p l e s m args below meth c H locs rls C D)
def Sh (k : Nat) (s : (Nat × Nat) ⊕ (Nat × List Nat)) : Prop := k < NC ∧ shp k = s
def FLk (own : String) (idx ci slot : Nat) : Prop := ∃ (C : String) (T : u_T) (N : Nat), CL[ci]? = some (C, T, N) ∧ slot < N ∧ Cond.fieldLink own idx (T slot).1 (T slot).2.1 (T slot).2.2.1 ∈ BT ∧ ∀ w ∈ u_ws C T N, w ∈ BT
def FPk (own : String) (idx ci slot : Nat) (ty : FieldType) : Prop := ∃ (C : String) (T : u_T) (N : Nat) (ty0 : Nat → FieldType), CL[ci]? = some (C, T, N) ∧ slot < N ∧ Cond.fieldLink own idx (T slot).1 (T slot).2.1 (T slot).2.2.1 ∈ BT ∧ (∀ w ∈ u_ws C T N, w ∈ BT) ∧ (∀ k, k < N → parseFieldDescriptor (T k).2.2.1 = some (ty0 k)) ∧ (∀ a, a < N → ∀ b, b < N → a ≠ b → (T a).2.1 ≠ (T b).2.1) ∧ (T slot).2.2.2 = false ∧ parseFieldDescriptor (T slot).2.2.1 = some ty
theorem ce_obj {G : Wd} {q ci : Nat} {fs : List Nat} (h : Sh q (.inr (ci, fs))) : (wsO G ρ)[q]? = some (G.2.1 q, .inr (ci, fvs G ρ q 0 fs)) := by
  rw [wsO_at h.1]
  simp [ce, h.2]
theorem ce_ai {G : Wd} {q n : Nat} (h : Sh q (.inl (0, n))) : (wsO G ρ)[q]? = some (G.2.1 q, .inl (G.2.2 0, n, .inl (ρ.1 q))) := by
  rw [wsO_at h.1]
  simp [ce, h.2, arrOf]
theorem ce_al {G : Wd} {q n : Nat} (h : Sh q (.inl (1, n))) : (wsO G ρ)[q]? = some (G.2.1 q, .inl (G.2.2 1, n, .inr (.inl (ρ.2 q)))) := by
  rw [wsO_at h.1]
  simp [ce, h.2, arrOf]
theorem ce_az {G : Wd} {q n : Nat} (h : Sh q (.inl (2, n))) : (wsO G ρ)[q]? = some (G.2.1 q, .inl (G.2.2 2, n, .inl (ρ.1 q))) := by
  rw [wsO_at h.1]
  simp [ce, h.2, arrOf]
theorem ce_ar {G : Wd} {q b n : Nat} (h : Sh q (.inl (b + 3, n))) : (wsO G ρ)[q]? = some (G.2.1 q, .inl (G.2.2 3, n, .inr (.inr (.inr (.inr (fun i => some (G.2.1 (b + i)))))))) := by
  rw [wsO_at h.1]
  simp [ce, h.2, arrOf]
theorem w_get {q idx ci slot f : Nat} {fs : List Nat} {v : Value} (hd : D0 M pc (.getfield idx) 3 nx) (hf : FLk (mO M) idx ci slot) (hs : Sh q (.inr (ci, fs))) (hk : fs[slot]? = some f) (hv : ∀ G : Wd, fv G ρ q slot f = rv G v) (k : MW M j nx ls (v :: st) ρ Q) : MW M j pc ls (.ref q :: st) ρ Q := by
  obtain ⟨hd, rfl⟩ := hd
  obtain ⟨Cn, T, N, h1, h2, h3, h4⟩ := hf
  exact fun G p l e s m args below meth c H locs rls C D => va_get (v := rv G v) C.1 C.2.1 C.2.2.2.2.2.1 h4 C.2.2.2.2.1 C.2.2.2.2.2.2.2.1 D.1 q (ce_obj hs) h1 slot h2 (C.2.2.2.2.2.1 _ h3) (fun _ h => h) (by rw [fvs_get fs 0 slot f hk, Nat.zero_add, hv G]) hd (k G p l e s m args below meth c H locs rls C D)
theorem w_gi {q idx ci slot : Nat} {fs : List Nat} (hd : D0 M pc (.getfield idx) 3 nx) (hf : FLk (mO M) idx ci slot) (hs : Sh q (.inr (ci, fs))) (hk : fs[slot]? = some 0) (k : MW M j nx ls (.int (ρ.1 q slot) :: st) ρ Q) : MW M j pc ls (.ref q :: st) ρ Q := w_get hd hf hs hk (fun _ => rfl) k
theorem w_gl {q idx ci slot : Nat} {fs : List Nat} (hd : D0 M pc (.getfield idx) 3 nx) (hf : FLk (mO M) idx ci slot) (hs : Sh q (.inr (ci, fs))) (hk : fs[slot]? = some 1) (k : MW M j nx ls (.long (ρ.2 q slot) :: st) ρ Q) : MW M j pc ls (.ref q :: st) ρ Q := w_get hd hf hs hk (fun _ => rfl) k
theorem w_gr {q idx ci slot n : Nat} {fs : List Nat} (hd : D0 M pc (.getfield idx) 3 nx) (hf : FLk (mO M) idx ci slot) (hs : Sh q (.inr (ci, fs))) (hk : fs[slot]? = some (n + 2)) (k : MW M j nx ls (.ref n :: st) ρ Q) : MW M j pc ls (.ref q :: st) ρ Q := w_get hd hf hs hk (fun _ => rfl) k
theorem w_pi {q idx ci slot : Nat} {fs : List Nat} {x : Int32} {ty : FieldType} (hd : D0 M pc (.putfield idx) 3 nx) (hf : FPk (mO M) idx ci slot ty) (hs : Sh q (.inr (ci, fs))) (hk : fs[slot]? = some 0) (hn : narrow ty (.int x) = .int x) (hfit : fits ty (.int x) = true) (k : MW M j nx ls st (wI ρ q slot x) Q) : MW M j pc ls (.int x :: .ref q :: st) ρ Q := by
  obtain ⟨hd, rfl⟩ := hd
  obtain ⟨Cn, T, N, ty0, h1, h2, h3, h4, h5, h6, h7, h8⟩ := hf
  exact fun G p l e s m args below meth c H locs rls C D => by
    refine va_put C.1 C.2.1 C.2.2.2.2.2.1 h4 ty0 h5 h6 C.2.2.2.2.1 C.2.2.2.2.2.2.2.1 D.1 (wsO_D C.2.2.2.2.2.2.2.2.1 ρ) D.2.1 q (ce_obj hs) h1 slot h2 (C.2.2.2.2.2.1 _ h3) (fun _ h => h) h7 h8 hn hfit (by rw [fvs_len]; exact (List.getElem?_eq_some_iff.mp hk).1) hd (fun H1 locs1 hP1 hD1 hS1 => ?_)
    have hP1 : va_P G.1 CL ((wsO G ρ).set q (G.2.1 q, .inr (ci, (fvs G ρ q 0 fs).set slot (.int x)))) H1 := hP1
    rw [wsO_set (G := G) (ρ := ρ) (ρ' := wI ρ q slot x) hs.1 (by simp only [ce, hs.2]; rw [fvs_setI fs 0 slot hk, Nat.zero_add]) (fun a ha => ce_congr (wI_ne ha) rfl)] at hP1
    exact k G p l e s m args below meth c H1 locs1 rls C ⟨hP1, hS1, D.2.2⟩
theorem w_pl {q idx ci slot : Nat} {fs : List Nat} {x : Int64} (hd : D0 M pc (.putfield idx) 3 nx) (hf : FPk (mO M) idx ci slot .long) (hs : Sh q (.inr (ci, fs))) (hk : fs[slot]? = some 1) (k : MW M j nx ls st (wL ρ q slot x) Q) : MW M j pc ls (.long x :: .ref q :: st) ρ Q := by
  obtain ⟨hd, rfl⟩ := hd
  obtain ⟨Cn, T, N, ty0, h1, h2, h3, h4, h5, h6, h7, h8⟩ := hf
  exact fun G p l e s m args below meth c H locs rls C D => by
    refine va_put C.1 C.2.1 C.2.2.2.2.2.1 h4 ty0 h5 h6 C.2.2.2.2.1 C.2.2.2.2.2.2.2.1 D.1 (wsO_D C.2.2.2.2.2.2.2.2.1 ρ) D.2.1 q (ce_obj hs) h1 slot h2 (C.2.2.2.2.2.1 _ h3) (fun _ h => h) h7 h8 rfl rfl (by rw [fvs_len]; exact (List.getElem?_eq_some_iff.mp hk).1) hd (fun H1 locs1 hP1 hD1 hS1 => ?_)
    have hP1 : va_P G.1 CL ((wsO G ρ).set q (G.2.1 q, .inr (ci, (fvs G ρ q 0 fs).set slot (.long x)))) H1 := hP1
    rw [wsO_set (G := G) (ρ := ρ) (ρ' := wL ρ q slot x) hs.1 (by simp only [ce, hs.2]; rw [fvs_setL fs 0 slot hk, Nat.zero_add]) (fun a ha => ce_congr rfl (wL_ne ha))] at hP1
    exact k G p l e s m args below meth c H1 locs1 rls C ⟨hP1, hS1, D.2.2⟩
theorem w_iald {q n : Nat} {i : Int32} (hd : D0 M pc .iaload 1 nx) (hs : Sh q (.inl (0, n))) (hin : vp_in i n) (k : MW M j nx ls (.int (ρ.1 q i.toNatClampNeg) :: st) ρ Q) : MW M j pc ls (.int i :: .ref q :: st) ρ Q := by
  obtain ⟨hd, rfl⟩ := hd
  exact fun G p l e s m args below meth c H locs rls C D => va_iald C.1 C.2.1 C.2.2.2.2.2.2.2.1 D.1 q 0 (ce_ai hs) rfl hin hd (k G p l e s m args below meth c H locs rls C D)
theorem w_lald {q n : Nat} {i : Int32} (hd : D0 M pc .laload 1 nx) (hs : Sh q (.inl (1, n))) (hin : vp_in i n) (k : MW M j nx ls (.long (ρ.2 q i.toNatClampNeg) :: st) ρ Q) : MW M j pc ls (.int i :: .ref q :: st) ρ Q := by
  obtain ⟨hd, rfl⟩ := hd
  exact fun G p l e s m args below meth c H locs rls C D => va_lald C.1 C.2.1 C.2.2.2.2.2.2.2.1 D.1 q 1 (ce_al hs) rfl hin hd (k G p l e s m args below meth c H locs rls C D)
theorem w_zald {q n : Nat} {i : Int32} (hd : D0 M pc .baload 1 nx) (hs : Sh q (.inl (2, n))) (hin : vp_in i n) (k : MW M j nx ls (.int (ρ.1 q i.toNatClampNeg) :: st) ρ Q) : MW M j pc ls (.int i :: .ref q :: st) ρ Q := by
  obtain ⟨hd, rfl⟩ := hd
  exact fun G p l e s m args below meth c H locs rls C D => va_zald C.1 C.2.1 C.2.2.2.2.2.2.2.1 D.1 q 2 (ce_az hs) rfl hin hd (k G p l e s m args below meth c H locs rls C D)
theorem w_aald {q b n : Nat} {i : Int32} (hd : D0 M pc .aaload 1 nx) (hs : Sh q (.inl (b + 3, n))) (hin : vp_in i n) (k : MW M j nx ls (.ref (b + i.toNatClampNeg) :: st) ρ Q) : MW M j pc ls (.int i :: .ref q :: st) ρ Q := by
  obtain ⟨hd, rfl⟩ := hd
  exact fun G p l e s m args below meth c H locs rls C D => va_aldq C.1 C.2.1 C.2.2.2.2.2.2.2.1 D.1 q 3 (ce_ar hs) rfl hin hd (k G p l e s m args below meth c H locs rls C D)
theorem w_alen {q n : Nat} (hd : D0 M pc .arraylength 1 nx) (hs : Sh q (.inl (0, n))) (k : MW M j nx ls (.int (nI n) :: st) ρ Q) : MW M j pc ls (.ref q :: st) ρ Q := by
  obtain ⟨hd, rfl⟩ := hd
  exact fun G p l e s m args below meth c H locs rls C D => va_alen C.1 C.2.1 C.2.2.2.2.2.2.2.1 D.1 q 0 (ce_ai hs) rfl rfl hd (k G p l e s m args below meth c H locs rls C D)
theorem w_alenL {q n : Nat} (hd : D0 M pc .arraylength 1 nx) (hs : Sh q (.inl (1, n))) (k : MW M j nx ls (.int (nI n) :: st) ρ Q) : MW M j pc ls (.ref q :: st) ρ Q := by
  obtain ⟨hd, rfl⟩ := hd
  exact fun G p l e s m args below meth c H locs rls C D => va_alen C.1 C.2.1 C.2.2.2.2.2.2.2.1 D.1 q 1 (ce_al hs) rfl rfl hd (k G p l e s m args below meth c H locs rls C D)
theorem w_iast {q n : Nat} {i x : Int32} (hd : D0 M pc .iastore 1 nx) (hs : Sh q (.inl (0, n))) (hin : vp_in i n) (k : MW M j nx ls st (wI ρ q i.toNatClampNeg x) Q) : MW M j pc ls (.int x :: .int i :: .ref q :: st) ρ Q := by
  obtain ⟨hd, rfl⟩ := hd
  exact fun G p l e s m args below meth c H locs rls C D => by
    refine va_iast C.1 C.2.1 C.2.2.2.2.2.2.2.1 D.1 (wsO_D C.2.2.2.2.2.2.2.2.1 ρ) D.2.1 q 0 (ce_ai hs) rfl hin hd (fun H1 locs1 hP1 hD1 hS1 => ?_)
    rw [wsO_set (G := G) (ρ := ρ) (ρ' := wI ρ q i.toNatClampNeg x) hs.1 (by simp only [ce, hs.2, arrOf, wI_upd]) (fun a ha => ce_congr (wI_ne ha) rfl)] at hP1
    exact k G p l e s m args below meth c H1 locs1 rls C ⟨hP1, hS1, D.2.2⟩
theorem w_zast {q n : Nat} {i x : Int32} (hd : D0 M pc .bastore 1 nx) (hs : Sh q (.inl (2, n))) (hin : vp_in i n) (hx : vp_nar .boolean x = x) (k : MW M j nx ls st (wI ρ q i.toNatClampNeg x) Q) : MW M j pc ls (.int x :: .int i :: .ref q :: st) ρ Q := by
  obtain ⟨hd, rfl⟩ := hd
  exact fun G p l e s m args below meth c H locs rls C D => by
    refine va_zast C.1 C.2.1 C.2.2.2.2.2.2.2.1 D.1 (wsO_D C.2.2.2.2.2.2.2.2.1 ρ) D.2.1 q 2 (ce_az hs) rfl hin hd (fun H1 locs1 hP1 hD1 hS1 => ?_)
    rw [wsO_set (G := G) (ρ := ρ) (ρ' := wI ρ q i.toNatClampNeg x) hs.1 (by simp only [ce, hs.2, arrOf, wI_upd, hx]) (fun a ha => ce_congr (wI_ne ha) rfl)] at hP1
    exact k G p l e s m args below meth c H1 locs1 rls C ⟨hP1, hS1, D.2.2⟩
theorem w_last {q n : Nat} {i : Int32} {x : Int64} (hd : D0 M pc .lastore 1 nx) (hs : Sh q (.inl (1, n))) (hin : vp_in i n) (k : MW M j nx ls st (wL ρ q i.toNatClampNeg x) Q) : MW M j pc ls (.long x :: .int i :: .ref q :: st) ρ Q := by
  obtain ⟨hd, rfl⟩ := hd
  exact fun G p l e s m args below meth c H locs rls C D => by
    refine va_last C.1 C.2.1 C.2.2.2.2.2.2.2.1 D.1 (wsO_D C.2.2.2.2.2.2.2.2.1 ρ) D.2.1 q 1 (ce_al hs) rfl hin hd (fun H1 locs1 hP1 hD1 hS1 => ?_)
    rw [wsO_set (G := G) (ρ := ρ) (ρ' := wL ρ q i.toNatClampNeg x) hs.1 (by simp only [ce, hs.2, arrOf, wL_upd]) (fun a ha => ce_congr rfl (wL_ne ha))] at hP1
    exact k G p l e s m args below meth c H1 locs1 rls C ⟨hP1, hS1, D.2.2⟩
theorem w_iret {x : Int32} (hd : D0 M pc .ireturn 1 nx) (hr : mR M = some .int) (q : Q (some (.int x)) ρ) : MW M j pc ls [.int x] ρ Q := fun G p l e s m args below meth c H locs rls C D => W.iret C.1 C.2.1 (C.2.2.2.1.trans hr) (fun t ht hW => ⟨⟨_, ρ, rfl, q, by rw [ht]; exact D.1⟩, D.2.1.F ht⟩) D.2.1.2.2 hd.1 C.2.2.2.2.2.2.1
theorem w_zret {x : Int32} (hd : D0 M pc .ireturn 1 nx) (hr : mR M = some .boolean) (hx : narrow .boolean (.int x) = .int x) (q : Q (some (.int x)) ρ) : MW M j pc ls [.int x] ρ Q := fun G p l e s m args below meth c H locs rls C D => W.zret C.1 C.2.1 (C.2.2.2.1.trans hr) hx (fun t ht hW => ⟨⟨_, ρ, rfl, q, by rw [ht]; exact D.1⟩, D.2.1.F ht⟩) D.2.1.2.2 hd.1 C.2.2.2.2.2.2.1
theorem w_lret {x : Int64} (hd : D0 M pc .lreturn 1 nx) (hr : mR M = some .long) (q : Q (some (.long x)) ρ) : MW M j pc ls [.long x] ρ Q := fun G p l e s m args below meth c H locs rls C D => W.lret C.1 C.2.1 (C.2.2.2.1.trans hr) (fun t ht hW => ⟨⟨_, ρ, rfl, q, by rw [ht]; exact D.1⟩, D.2.1.F ht⟩) D.2.1.2.2 hd.1 C.2.2.2.2.2.2.1
theorem w_ret (hd : D0 M pc .return_ 1 nx) (hr : mR M = none) (q : Q none ρ) : MW M j pc ls [] ρ Q := fun G p l e s m args below meth c H locs rls C D => W.vret C.1 C.2.1 (C.2.2.2.1.trans hr) (fun t ht hW => ⟨⟨none, ρ, rfl, q, by rw [ht]; exact D.1⟩, D.2.1.F ht⟩) D.2.1.2.2 hd.1 C.2.2.2.2.2.2.1
def lsub : List (Option Value) → List (Option Value) → Prop
  | [], _ => True
  | _ :: _, [] => False
  | none :: a, _ :: b => lsub a b
  | some v :: a, w :: b => w = some v ∧ lsub a b
theorem lsub_lg : ∀ (a b : List (Option Value)), lsub a b → ∀ i v, lg a i = some v → lg b i = some v
  | [], _, _, i, v, h => by simp [lg] at h
  | _ :: _, [], hs, _, _, _ => hs.elim
  | none :: a, _ :: b, hs, 0, v, h => by simp [lg] at h
  | none :: a, _ :: b, hs, i + 1, v, h => lsub_lg a b hs i v h
  | some u :: a, w :: b, hs, 0, v, h => by simp only [lg] at h ⊢; rw [hs.1]; exact h
  | some u :: a, w :: b, hs, i + 1, v, h => lsub_lg a b hs.2 i v h
theorem w_weak {ls2 : List (Option Value)} (h : lsub ls2 ls) (k : MW M j pc ls2 st ρ Q) : MW M j pc ls st ρ Q := fun G p l e s m args below meth c H locs rls C D => by
    obtain ⟨hP, hS, lv, h1, h2⟩ := D
    exact k G p l e s m args below meth c H locs rls C ⟨hP, hS, lv, h1, fun i v hi => h2 i v (lsub_lg _ _ h i v hi)⟩
theorem w_mono {Q2 : Option Value → Rho → Prop} (h : ∀ r ρ, Q r ρ → Q2 r ρ) (k : MW M j pc ls st ρ Q) : MW M j pc ls st ρ Q2 := fun G p l e s m args below meth c H locs rls C D => by
    intro T hT X
    obtain ⟨t, a, o, b1, b2, b3, b4⟩ := k G p l e s m args below meth c H locs rls C D T hT X
    exact ⟨t, a, o, b1, b2, QC_mono h b3, b4⟩
theorem w_run {i : Nat} {as rest : List Value} {st0 : List Value} {Q2 : Option Value → Rho → Prop} {G : Wd} {p : Program} {l : Launch} {e : Env} {s : State} {m : MethodId} {args a : Array Value} {below : List Frame} {meth : Method} {c : Code} {H : Heap} {locs : List Loc} {rls : Array Slot} (C : Cx M G p s m args meth c) (D : Dy M G ρ s H locs rls ls)
    (hr : va_Run p l e (rmL j) s m args below meth c H locs 0 0 0 0 (F0 m pc rls st0) (rest.map (rv G)) (QC G Q2 a) (AG G)) (k : ∀ r ρ2, Q2 r ρ2 → MW M j (pc + 3) ls (r.toList ++ rest) ρ2 Q) : W p l e (rmL j) s m args below meth c H locs 0 0 (MQ below (QC G Q) args s 0 0 (AG G)) (F0 m pc rls st0) := by
  intro T hT X
  obtain ⟨v, st₀, t, T', L, h0, X', hL, e1, e2, ⟨⟨r, ρ2, hv, hQ, hP2⟩, hF⟩, go⟩ := hr T hT X
  have hv : v = r.map (rv G) := by cases hv; rfl
  subst hv
  have hS2 : va_S (AG G) s.heap T'.heap (locs ++ L) := ⟨Nat.le_trans D.2.1.1 (by rw [e1, ← h0]; exact hF.1), fun q h1 h2 => by rw [e1, hF.2 q (by rw [h0]; exact Nat.lt_of_lt_of_le h1 D.2.1.1) h2, h0]; exact D.2.1.2.1 q h1 h2, fun q hq => (List.mem_append.mp hq).elim (D.2.1.2.2 q) (hL q)⟩
  obtain ⟨t2, a1, b1⟩ := k r ρ2 hQ G p l e s m args below meth c T'.heap (locs ++ L) rls C ⟨by rw [e1]; exact hP2, hS2, D.2.2⟩ T' rfl X'
  refine ⟨t2, go t2 ?_, b1⟩
  cases r with
  | none => exact a1
  | some r => exact a1
theorem cat_rv {G : Wd} (rest : List Value) : ((rest.map (rv G)).map fun v => v.category) = rest.map fun v => v.category := by
  simp [List.map_map, Function.comp_def, rv_cat]
def SLk (M M2 : Mth) (idx n : Nat) : Prop := Cond.methodLink (mO M) idx (mY M2) ∈ BT ∧ Cond.static (mY M2) ∈ BT ∧ Cond.initialized (mY M2).cls ∈ BT ∧ Cond.code (mY M2) (mC M2) (mN M2) (mR M2) ∈ BT ∧ ((mY M2).cls ≠ "java/lang/invoke/MethodHandle" ∧ (mY M2).cls ≠ "java/lang/invoke/VarHandle") ∧ (parseMethodDescriptor (mY M2).desc).map (fun d => d.parameters.length) = some n ∧ mN M2 ≤ 21
def VLk (M M2 : Mth) (idx ci n : Nat) : Prop := Cond.methodLink (mO M) idx (mY M2) ∈ BT ∧ Cond.instanceMethod (mY M2) ∈ BT ∧ Cond.selects (mY M2).cls (mY M2) (mY M2) ∈ BT ∧ Cond.initialized (mY M2).cls ∈ BT ∧ Cond.code (mY M2) (mC M2) (mN M2) (mR M2) ∈ BT ∧ ((mY M2).cls ≠ "java/lang/invoke/MethodHandle" ∧ (mY M2).cls ≠ "java/lang/invoke/VarHandle") ∧ (parseMethodDescriptor (mY M2).desc).map (fun d => d.parameters.length) = some n ∧ mN M2 ≤ 21 ∧ ∃ T N, CL[ci]? = some ((mY M2).cls, T, N)
theorem rm_ok {i : Nat} (h : i < j) : (rmL i).frames + 1 ≤ (rmL j).frames := h
theorem rm_lo {i n : Nat} (h : i < j) (hn : n ≤ 21) : 8 + (n + 11) + (rmL i).locals ≤ (rmL j).locals := by
  show 8 + (n + 11) + 40 * i ≤ 40 * j
  omega
theorem len_of {d : String} {n : Nat} (h : (parseMethodDescriptor d).map (fun d => d.parameters.length) = some n) : ∀ sig, parseMethodDescriptor d = some sig → n = sig.parameters.length := fun sig hs => by
  rw [hs] at h
  exact (Option.some.inj h).symm
theorem PC_at {G : Wd} {as : List Value} {p : Program} {s : State} {m : MethodId} {args : Array Value} {meth : Method} {c : Code} {H : Heap} {locs : List Loc} {rls : Array Slot} (C : Cx M G p s m args meth c) (D : Dy M G ρ s H locs rls ls) : ∀ U : State, U.heap = H → s.WarmedH U.vm → PC G as ρ (as.map (rv G)).toArray U := fun U hU hW =>
  ⟨rfl, va_K.moved hW.alike C.2.2.2.2.2.2.2.1, by rw [hU]; exact D.1, va_Nw.warmM hW C.2.2.2.2.2.2.2.2.2⟩
theorem rls_size {G : Wd} {s : State} {H : Heap} {locs : List Loc} {rls : Array Slot} (D : Dy M G ρ s H locs rls ls) : rls.size = mN M := by
  obtain ⟨-, -, lv, h1, -⟩ := D
  exact h1.1
theorem w_cS {M2 : Mth} {idx n i : Nat} {as rest stk : List Value} {Q2 : Option Value → Rho → Prop} (hd : D0 M pc (.invokestatic idx) 3 nx) (hl : SLk M M2 idx n) (hi : i < j) (hC : CallOK i M2 as ρ Q2) (hn : as.length = n) (hs : stk = as.reverse ++ rest) (hw : (rest.map fun v => v.category).sum ≤ 8) (k : ∀ r ρ2, Q2 r ρ2 → MW M j nx ls (r.toList ++ rest) ρ2 Q) : MW M j pc ls stk ρ Q := by
  subst hs
  obtain ⟨hd, rfl⟩ := hd
  obtain ⟨l1, l2, l3, l4, l5, l6, l7⟩ := hl
  exact fun G p l e s m args below meth c H locs rls C D => by
    have B := C.2.2.2.2.2.1
    rw [List.map_append, List.map_reverse]
    exact w_run (i := i) (as := as) C D (va_runS (n := n) (As := as.map (rv G)) ⟨C.1, C.2.1, C.2.2.1, C.2.2.2.2.1, B⟩ (hC l G C.2.2.2.2.2.2.2.2.1) ⟨⟨rfl, rfl, rm_ok hi, rm_lo hi l7, pay_in B (goodBT l4), List.mem_cons_self, B _ l4, B _ l3, l5, len_of l6, B _ l1⟩, B _ l2⟩ ⟨PC_blind G as ρ, PC_at C D⟩ rfl (by rw [List.length_map]; exact hn) (rls_size D) rfl (lv_room (by rw [cat_rv]; exact hw)) hd ⟨Nat.le_refl _, Nat.le_refl _⟩) k
theorem w_cSN {n i : Nat} {as rest stk : List Value} {Q2 : Option Value → Rho → Prop} {M2 : Mth} (hO : mO M = "TurningVillage$Land") (hY : mY M2 = yX7_within) (hd : D0 M pc (.invokestatic 81) 3 nx) (l2 : Cond.static (mY M2) ∈ BT) (l3 : Cond.initialized (mY M2).cls ∈ BT) (l4 : Cond.code (mY M2) (mC M2) (mN M2) (mR M2) ∈ BT) (l6 : (parseMethodDescriptor (mY M2).desc).map (fun d => d.parameters.length) = some n) (l7 : mN M2 ≤ 21) (l5 : (mY M2).cls ≠ "java/lang/invoke/MethodHandle" ∧ (mY M2).cls ≠ "java/lang/invoke/VarHandle") (hi : i < j) (hC : CallOK i M2 as ρ Q2) (hn : as.length = n) (hs : stk = as.reverse ++ rest) (hw : (rest.map fun v => v.category).sum ≤ 8) (k : ∀ r ρ2, Q2 r ρ2 → MW M j nx ls (r.toList ++ rest) ρ2 Q) : MW M j pc ls stk ρ Q := by
  subst hs
  obtain ⟨hd, rfl⟩ := hd
  exact fun G p l e s m args below meth c H locs rls C D => by
    have B := C.2.2.2.2.2.1
    have hN : va_Nw (.methodLinkNest (mO M) 81 (mY M2) "TurningVillage") s := by rw [hO, hY]; exact C.2.2.2.2.2.2.2.2.2
    rw [List.map_append, List.map_reverse]
    exact w_run (i := i) (as := as) C D (va_runSN (n := n) (As := as.map (rv G)) ⟨C.1, C.2.1, C.2.2.1, C.2.2.2.2.1, B⟩ (hC l G C.2.2.2.2.2.2.2.2.1) ⟨va_cnB n B (goodBT l4) rfl rfl rfl hN (B _ l3) ⟨l5.1, l5.2, l6⟩ ⟨rm_ok hi, rm_lo hi l7⟩, B _ l2, trivial⟩ ⟨PC_blind G as ρ, PC_at C D⟩ rfl (by rw [List.length_map]; exact hn) (rls_size D) rfl (lv_room (by rw [cat_rv]; exact hw)) hd ⟨Nat.le_refl _, Nat.le_refl _⟩) k
theorem w_cV {M2 : Mth} {idx ci n i q : Nat} {fs : List Nat} {as rest stk : List Value} {Q2 : Option Value → Rho → Prop} (hd : D0 M pc (.invokevirtual idx) 3 nx) (hl : VLk M M2 idx ci n) (hq : Sh q (.inr (ci, fs))) (hi : i < j) (hC : CallOK i M2 (.ref q :: as) ρ Q2) (hn : as.length = n) (hs : stk = as.reverse ++ .ref q :: rest) (hw : (rest.map fun v => v.category).sum ≤ 8) (k : ∀ r ρ2, Q2 r ρ2 → MW M j nx ls (r.toList ++ rest) ρ2 Q) : MW M j pc ls stk ρ Q := by
  subst hs
  obtain ⟨hd, rfl⟩ := hd
  obtain ⟨l1, l2, l3, l4, l5, l6, l7, l8, T, N, l9⟩ := hl
  exact fun G p l e s m args below meth c H locs rls C D => by
    have B := C.2.2.2.2.2.1
    rw [List.map_append, List.map_reverse]
    exact w_run (i := i) (as := as) C D (va_runV (n := n) (b := G.2.1 q) (As := as.map (rv G)) ⟨C.1, C.2.1, C.2.2.1, C.2.2.2.2.1, B⟩ (hC l G C.2.2.2.2.2.2.2.2.1) ⟨⟨rfl, rfl, rm_ok hi, rm_lo hi l8, pay_in B (goodBT l5), List.mem_cons_self, B _ l5, B _ l4, l6, len_of l7, B _ l1⟩, B _ l2, B _ l3⟩ ⟨PC_blind G _ ρ, va_recv C.2.2.2.2.2.2.2.1 D.1 l9 (ce_obj hq), PC_at C D⟩ rfl (by rw [List.length_map]; exact hn) (rls_size D) rfl (lv_room (by rw [cat_rv]; exact hw)) hd ⟨Nat.le_refl _, Nat.le_refl _⟩) k
theorem CallOK.mono {M2 : Mth} {i : Nat} {as : List Value} {Q2 Q3 : Option Value → Rho → Prop} (h : CallOK i M2 as ρ Q2) (hq : ∀ r ρ2, Q2 r ρ2 → Q3 r ρ2) : CallOK i M2 as ρ Q3 := by
  intro l G hG p e ha hc hk s m args below hf h1 h2 h3
  obtain ⟨k, o, a1, a2, a3, a4, a5⟩ := h l G hG p e ha hc hk s m args below hf h1 h2 h3
  exact ⟨k, o, a1, a2, a3, QC_mono hq a4, a5⟩
theorem w_cSf {M2 : Mth} {idx n i : Nat} {as rest stk : List Value} {v : Value} {ρ1 : Rho} (hd : D0 M pc (.invokestatic idx) 3 nx) (hl : SLk M M2 idx n) (hi : i < j) (hC : CallOK i M2 as ρ (fun r ρ2 => r = some v ∧ ρ2 = ρ1)) (hn : as.length = n) (hs : stk = as.reverse ++ rest) (hw : (rest.map fun v => v.category).sum ≤ 8) (k : MW M j nx ls (v :: rest) ρ1 Q) : MW M j pc ls stk ρ Q := w_cS hd hl hi hC hn hs hw (fun r ρ2 h => by obtain ⟨rfl, rfl⟩ := h; exact k)
theorem w_cSv {M2 : Mth} {idx n i : Nat} {as rest stk : List Value} {ρ1 : Rho} (hd : D0 M pc (.invokestatic idx) 3 nx) (hl : SLk M M2 idx n) (hi : i < j) (hC : CallOK i M2 as ρ (fun r ρ2 => r = none ∧ ρ2 = ρ1)) (hn : as.length = n) (hs : stk = as.reverse ++ rest) (hw : (rest.map fun v => v.category).sum ≤ 8) (k : MW M j nx ls rest ρ1 Q) : MW M j pc ls stk ρ Q := w_cS hd hl hi hC hn hs hw (fun r ρ2 h => by obtain ⟨rfl, rfl⟩ := h; exact k)
theorem w_cSr {M2 : Mth} {idx n i : Nat} {as rest stk : List Value} {B : Value → Rho → Prop} (hd : D0 M pc (.invokestatic idx) 3 nx) (hl : SLk M M2 idx n) (hi : i < j) (hC : CallOK i M2 as ρ (fun r ρ2 => ∃ v, r = some v ∧ B v ρ2)) (hn : as.length = n) (hs : stk = as.reverse ++ rest) (hw : (rest.map fun v => v.category).sum ≤ 8) (k : ∀ v ρ2, B v ρ2 → MW M j nx ls (v :: rest) ρ2 Q) : MW M j pc ls stk ρ Q := w_cS hd hl hi hC hn hs hw (fun r ρ2 h => by obtain ⟨v, rfl, h⟩ := h; exact k v ρ2 h)
theorem w_cSu {M2 : Mth} {idx n i : Nat} {as rest stk : List Value} {B : Rho → Prop} (hd : D0 M pc (.invokestatic idx) 3 nx) (hl : SLk M M2 idx n) (hi : i < j) (hC : CallOK i M2 as ρ (fun r ρ2 => r = none ∧ B ρ2)) (hn : as.length = n) (hs : stk = as.reverse ++ rest) (hw : (rest.map fun v => v.category).sum ≤ 8) (k : ∀ ρ2, B ρ2 → MW M j nx ls rest ρ2 Q) : MW M j pc ls stk ρ Q := w_cS hd hl hi hC hn hs hw (fun r ρ2 h => by obtain ⟨rfl, h⟩ := h; exact k ρ2 h)
theorem w_cVf {M2 : Mth} {idx ci n i q : Nat} {fs : List Nat} {as rest stk : List Value} {v : Value} {ρ1 : Rho} (hd : D0 M pc (.invokevirtual idx) 3 nx) (hl : VLk M M2 idx ci n) (hq : Sh q (.inr (ci, fs))) (hi : i < j) (hC : CallOK i M2 (.ref q :: as) ρ (fun r ρ2 => r = some v ∧ ρ2 = ρ1)) (hn : as.length = n) (hs : stk = as.reverse ++ .ref q :: rest) (hw : (rest.map fun v => v.category).sum ≤ 8) (k : MW M j nx ls (v :: rest) ρ1 Q) : MW M j pc ls stk ρ Q := w_cV hd hl hq hi hC hn hs hw (fun r ρ2 h => by obtain ⟨rfl, rfl⟩ := h; exact k)
theorem w_cVv {M2 : Mth} {idx ci n i q : Nat} {fs : List Nat} {as rest stk : List Value} {ρ1 : Rho} (hd : D0 M pc (.invokevirtual idx) 3 nx) (hl : VLk M M2 idx ci n) (hq : Sh q (.inr (ci, fs))) (hi : i < j) (hC : CallOK i M2 (.ref q :: as) ρ (fun r ρ2 => r = none ∧ ρ2 = ρ1)) (hn : as.length = n) (hs : stk = as.reverse ++ .ref q :: rest) (hw : (rest.map fun v => v.category).sum ≤ 8) (k : MW M j nx ls rest ρ1 Q) : MW M j pc ls stk ρ Q := w_cV hd hl hq hi hC hn hs hw (fun r ρ2 h => by obtain ⟨rfl, rfl⟩ := h; exact k)
theorem w_cVr {M2 : Mth} {idx ci n i q : Nat} {fs : List Nat} {as rest stk : List Value} {B : Value → Rho → Prop} (hd : D0 M pc (.invokevirtual idx) 3 nx) (hl : VLk M M2 idx ci n) (hq : Sh q (.inr (ci, fs))) (hi : i < j) (hC : CallOK i M2 (.ref q :: as) ρ (fun r ρ2 => ∃ v, r = some v ∧ B v ρ2)) (hn : as.length = n) (hs : stk = as.reverse ++ .ref q :: rest) (hw : (rest.map fun v => v.category).sum ≤ 8) (k : ∀ v ρ2, B v ρ2 → MW M j nx ls (v :: rest) ρ2 Q) : MW M j pc ls stk ρ Q := w_cV hd hl hq hi hC hn hs hw (fun r ρ2 h => by obtain ⟨v, rfl, h⟩ := h; exact k v ρ2 h)
theorem w_cVu {M2 : Mth} {idx ci n i q : Nat} {fs : List Nat} {as rest stk : List Value} {B : Rho → Prop} (hd : D0 M pc (.invokevirtual idx) 3 nx) (hl : VLk M M2 idx ci n) (hq : Sh q (.inr (ci, fs))) (hi : i < j) (hC : CallOK i M2 (.ref q :: as) ρ (fun r ρ2 => r = none ∧ B ρ2)) (hn : as.length = n) (hs : stk = as.reverse ++ .ref q :: rest) (hw : (rest.map fun v => v.category).sum ≤ 8) (k : ∀ ρ2, B ρ2 → MW M j nx ls rest ρ2 Q) : MW M j pc ls stk ρ Q := w_cV hd hl hq hi hC hn hs hw (fun r ρ2 h => by obtain ⟨rfl, h⟩ := h; exact k ρ2 h)
def b2i (c : Prop) [Decidable c] : Int32 := if c then 1 else 0
theorem b2i_nar (c : Prop) [Decidable c] : narrow .boolean (.int (b2i c)) = .int (b2i c) := by
  unfold b2i
  split <;> rfl
theorem b2i_vp (c : Prop) [Decidable c] : vp_nar .boolean (b2i c) = b2i c := by
  unfold b2i
  split <;> rfl
theorem b2i_0 {c : Prop} [Decidable c] : b2i c = 0 ↔ ¬ c := by
  unfold b2i
  split <;> simp_all
theorem b2i_t {c : Prop} [Decidable c] (h : c) : b2i c = 1 := if_pos h
theorem b2i_f {c : Prop} [Decidable c] (h : ¬ c) : b2i c = 0 := if_neg h
theorem w_ifeqB {tgt : Nat} {c : Prop} [Decidable c] (hd : DFeq M pc tgt nx) (kt : ¬ c → MW M j tgt ls st ρ Q) (kf : c → MW M j nx ls st ρ Q) : MW M j pc ls (.int (b2i c) :: st) ρ Q := w_ifeq hd (fun h => kt (b2i_0.mp h)) (fun h => kf (Decidable.byContradiction fun q => h (b2i_0.mpr q)))
theorem w_ifneB {tgt : Nat} {c : Prop} [Decidable c] (hd : DFne M pc tgt nx) (kt : c → MW M j tgt ls st ρ Q) (kf : ¬ c → MW M j nx ls st ρ Q) : MW M j pc ls (.int (b2i c) :: st) ρ Q := w_ifne hd (fun h => kt (Decidable.byContradiction fun q => h (b2i_0.mpr q))) (fun h => kf (b2i_0.mp h))
theorem w_eqS {st2 : List Value} (h : st = st2) (k : MW M j pc ls st2 ρ Q) : MW M j pc ls st ρ Q := h ▸ k
theorem w_eqR {ρ2 : Rho} (h : ρ = ρ2) (k : MW M j pc ls st ρ2 Q) : MW M j pc ls st ρ Q := h ▸ k
