theorem bt1038 : Cond.classLink RL 7 RX7 ∈ BT := bt_of (in_t1 (List.mem_of_getElem? (i := 14) rfl)) rfl
theorem bt1039 : Cond.instantiable RX7 9 ∈ BT := bt_of (in_t1 (List.mem_of_getElem? (i := 15) rfl)) rfl
theorem nk_L_7 : NWk RL 7 7 9 [.null, .null, .null, .null, .null, .null, .null, .null, .int 0] := ⟨RX7, TX7, tyX7, rfl, bt1038, bt1039, bt187, iB_X7, tyX7_ok, fun j hj => by
  match j, hj with
  | 0, _ => rfl
  | 1, _ => rfl
  | 2, _ => rfl
  | 3, _ => rfl
  | 4, _ => rfl
  | 5, _ => rfl
  | 6, _ => rfl
  | 7, _ => rfl
  | 8, _ => rfl
  | n + 9, h => exact absurd h (by omega)⟩
theorem bt1040 : Cond.classLink RL 10 RX8 ∈ BT := bt_of (in_t4 (List.mem_of_getElem? (i := 15) rfl)) rfl
theorem bt1041 : Cond.instantiable RX8 30 ∈ BT := bt_of (in_t4 (List.mem_of_getElem? (i := 16) rfl)) rfl
theorem nk_L_10 : NWk RL 10 8 30 [.int 0, .null, .null, .null, .int 0, .null, .null, .int 0, .null, .null, .null, .null, .int 0, .null, .null, .null, .null, .null, .null, .null, .null, .null, .null, .null, .null, .null, .null, .null, .null, .int 0] := ⟨RX8, TX8, tyX8, rfl, bt1040, bt1041, bt527, iB_X8, tyX8_ok, fun j hj => by
  match j, hj with
  | 0, _ => rfl
  | 1, _ => rfl
  | 2, _ => rfl
  | 3, _ => rfl
  | 4, _ => rfl
  | 5, _ => rfl
  | 6, _ => rfl
  | 7, _ => rfl
  | 8, _ => rfl
  | 9, _ => rfl
  | 10, _ => rfl
  | 11, _ => rfl
  | 12, _ => rfl
  | 13, _ => rfl
  | 14, _ => rfl
  | 15, _ => rfl
  | 16, _ => rfl
  | 17, _ => rfl
  | 18, _ => rfl
  | 19, _ => rfl
  | 20, _ => rfl
  | 21, _ => rfl
  | 22, _ => rfl
  | 23, _ => rfl
  | 24, _ => rfl
  | 25, _ => rfl
  | 26, _ => rfl
  | 27, _ => rfl
  | 28, _ => rfl
  | 29, _ => rfl
  | n + 30, h => exact absurd h (by omega)⟩
theorem bt1042 : Cond.methodLink RL 9 yX7_init ∈ BT := bt_of (in_t1 (List.mem_of_getElem? (i := 16) rfl)) rfl
theorem bt1043 : Cond.instanceMethod yX7_init ∈ BT := bt_of (in_t1 (List.mem_of_getElem? (i := 17) rfl)) rfl
theorem bt1044 : Cond.code yX7_init cX7_init 2 none ∈ BT := bt_of (in_t1 (List.mem_of_getElem? (i := 18) rfl)) rfl
theorem bt1045 : Cond.methodLink RL 12 yX8_init ∈ BT := bt_of (in_t4 (List.mem_of_getElem? (i := 17) rfl)) rfl
theorem bt1046 : Cond.instanceMethod yX8_init ∈ BT := bt_of (in_t4 (List.mem_of_getElem? (i := 18) rfl)) rfl
theorem bt1047 : Cond.code yX8_init cX8_init 2 none ∈ BT := bt_of (in_t4 (List.mem_of_getElem? (i := 19) rfl)) rfl
/-- a constructor's call in the law's body -/
theorem cw_init {p : Program} {l : Launch} {e : Env} {R : Room} {s : State} {m : MethodId} {args : Array Value} {below : List Frame} {meth : Method} {c : Code} {H : Heap} {locs : List Loc} {cs sl : Nat} {Z : State → Prop} {pc nL : Nat} {cc : ByteArray} {rls : Array Slot} {own : String} {st : List Value} {D : va_G} {ct : Nat → ClassId} {M2 : Mth} {R2 : Room} {idx ci q : Nat} {fs : List Value} {Q2 : (Nat → ClassId) → Nat → va_W → Prop} {wr : va_W} {A : Nat → Prop}
    (C : CallFix p m c cc nL s args BT own) (hK : va_K D CL (tyC ct) s) (hN : NW s) (hA : ∀ q, s.heap.size ≤ q → A q) (hP : va_P D CL (wr ++ [(q, ob ci fs)]) H) (hDD : va_D A (wr ++ [(q, ob ci fs)])) (hS : va_S A s.heap H locs) (hsz : rls.size = nL)
    (hd : decode cc pc = .ok (.invokespecial idx, 3)) (h1 : Cond.methodLink own idx (mY M2) ∈ BT) (l2 : Cond.instanceMethod (mY M2) ∈ BT) (l3 : Cond.initialized (mY M2).cls ∈ BT) (l4 : Cond.code (mY M2) (mC M2) (mN M2) none ∈ BT) (l5 : mR M2 = none) (l6 : (mY M2).name = "<init>") (l7 : (mY M2).cls ≠ "java/lang/invoke/MethodHandle" ∧ (mY M2).cls ≠ "java/lang/invoke/VarHandle") (l8 : (parseMethodDescriptor (mY M2).desc).map (fun d => d.parameters.length) = some 0)
    (hok : InitOK M2 R2 ci fs Q2) (hR : R2.frames + 1 ≤ R.frames ∧ 8 + (mN M2 + 11) + R2.locals ≤ R.locals) (hw : (st.map fun v => v.category).sum ≤ 8) (hc : cs + R2.cells ≤ R.cells ∧ sl + R2.slots ≤ R.slots)
    (k : ∀ (w1 : va_W) (H1 : Heap) (locs1 : List Loc), Q2 ct q w1 → va_P D CL (wr ++ w1) H1 → va_D A (wr ++ w1) → va_S A s.heap H1 locs1 → W p l e R s m args below meth c H1 locs1 (cs + R2.cells) (sl + R2.slots) Z (F0 m (pc + 3) rls st)) : W p l e R s m args below meth c H locs cs sl Z (F0 m pc rls (.ref q :: st)) := by
  have B := C.2.2.2.2
  have eC : [wr.length].map (fun i => (wr ++ [(q, ob ci fs)])[i]?) = [(q, ob ci fs)].map some := by simp
  have hPc : va_P D CL [(q, ob ci fs)] H := hP.sub [wr.length] (by simp)
  have hDc : va_D A [(q, ob ci fs)] := hDD.sub [wr.length] rfl eC
  have hFc := va_free (wc := [(q, ob ci fs)]) hDD hS hA [wr.length] eC
  have hgood : GoodIn BT (wsM M2) := goodBT (by rw [l5]; exact l4)
  have hws : wsM M2 = Cond.code (mY M2) (mC M2) (mN M2) none :: BT := by unfold wsM; rw [l5]
  have hpre : PreS s H (va_Pc [.ref q] (fun U => U.heap.size = H.size ∧ va_P D CL [(q, ob ci fs)] U.heap ∧ va_K D CL (tyC ct) U ∧ va_D (fun _ => True) [(q, ob ci fs)] ∧ NW U)) (.ref q :: []) := ⟨ipre_blind D ct q H.size ci fs, fun U hU hW => ⟨rfl, by rw [hU], by rw [hU]; exact hPc, va_K.moved hW.alike hK, hDc.weaken (fun _ _ _ _ => trivial), NW.warm hW hN⟩⟩
  have hrun : va_Run p l e R s m args below meth c H locs cs sl R2.cells R2.slots (F0 m pc rls (.ref q :: st)) st (va_Qv (Q2 ct q) (IB D ct (va_A [(q, ob ci fs)] H.size)) (va_A [(q, ob ci fs)] H.size) [.ref q].toArray) (va_A [(q, ob ci fs)] H.size) :=
    va_runI (As := []) (rest := st) C (hok l D ct q H.size) (cwI 0 B hgood hws rfl rfl (B _ l3) (B _ h1) (B _ l2) l6 ⟨l7.1, l7.2, l8⟩ hR) hpre rfl rfl hsz rfl (lv_room hw) hd hc
  refine va_callv hrun hS (fun q _ h => hFc q h) hFc (fun w1 t H1 locs1 ht hvm hw1 hB hz1 hk1 hS1 => ?_)
  obtain ⟨hP1, hK1, hD1⟩ := hB
  rw [ht] at hP1
  obtain ⟨hP2, hD2⟩ := va_join (wr := wr) (w1 := w1) hP hDD [wr.length] (List.range' 0 wr.length) eC (sub_pre wr _) (nd_range _ _) (fun i hi => by have := List.mem_range'_1.mp hi; simp; omega) hk1 hFc hP1 hD1
  exact k w1 H1 locs1 hw1 hP2 hD2 hS1
