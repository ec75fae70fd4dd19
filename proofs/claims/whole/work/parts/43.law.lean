/-! THE CLAIM OUT OF ONE WALK OF THE LAW'S BODY. Your part is whole_start (and what it stands on); all else here is the same for every law, but numbers. -/
def R_law : String := "TurningVillageLaw"
def lw_P (b : Addr) (xs : List Int32) (args : Array Value) (s : State) : Prop := args = #[.ref b] ∧ s.IntsAt b xs ∧ xs.length ≤ 4096 ∧ (Jvm.Cond.and given_1 narrow_1).before args s = true
def lw_Q (_ : Array Value) (s : State) (o : Outcome) (t : State) : Prop := o = .returned (some (.int 1)) ∧ Framed s o t [] 600000 7302250
def lw_Z (below : List Frame) (a : Array Value) (s : State) : State → Prop := fun t => ∃ o, t.status = .running ∧ Ended t below o ∧ lw_Q a s o t
/-- the law's own end, with 1 on the stack, nothing written that was there before, its room as the claim has it -/
theorem lw_ret {p : Program} {l : Launch} {e : Env} {s : State} {m : MethodId} {below : List Frame} {meth : Method} {c : Code} {b : Nat} (hx : p.tables.exec = Jvm.exec) (hb : c.code = code) (hr : meth.sig.returnType = ret) (hlocks : meth.locks = false) {pc : Nat} {H : Heap} {ls : Array Slot} (hdg : decode code pc = .ok (.ireturn, 1)) : W p l e room_1 s m #[Value.ref b] below meth c H [] 600000 7302250 (lw_Z below #[Value.ref b] s) (F0 m pc ls [.int 1]) := by
  intro T hT X
  obtain ⟨fs, hret, hrun, hended, hW, hframe⟩ := X.leave (v := some (.int 1)) (hlocks := hlocks) (fun h => by rw [hr] at h; cases h)
  have hmeth' : T.vm.method? m = some meth := X.method'
  refine ⟨T.setFrames fs, ?_, .returned (some (.int 1)), hrun, hended, rfl, ⟨_, rfl⟩, hW, hframe⟩
  jvm_step X.here [X.here.top, hx, hb, hdg, hmeth', hr, ret, narrow_b1]
  (try refine ⟨rfl, ?_⟩); (try refine ⟨rfl, ?_⟩)
  first | (intro acts; rw [hret _ acts rfl rfl rfl]) | rw [hret _ _ rfl rfl rfl]
  exact Steps.refl _
/-- what holds at the law's entry: the machine, the code, the tables' words (any of lw_tbl by 'hts w (by decide +kernel)'), the script of L ints xs at the cell b, what the Statement gives of the start (any of its parts by flat_of_before) -/
def lw_At (p : Program) (s : State) (m : MethodId) (meth : Method) (c : Code) (b L : Nat) (xs : Nat → Int32) : Prop :=
  p.tables.exec = Jvm.exec ∧ c.code = code ∧ meth.sig.returnType = ret ∧ c.maxLocals = 4 ∧ s.vm.findClass R_law = some m.cls ∧ (∀ w ∈ lw_tbl, w.before #[Value.ref b] s = true) ∧ va_X b L xs s s.heap ∧ b < s.heap.size ∧ meth.locks = false ∧ (Jvm.Cond.and given_1 narrow_1).before #[Value.ref b] s = true
/-! THE LAW'S OWN BODY -/
def mLaw : Mth := (yL_law, code, 4, some .boolean, RL)
def LC (G : Wd) (p : Program) (s : State) (m : MethodId) (meth : Method) (c : Code) (L : Nat) (xs : Nat → Int32) : Prop := lw_At p s m meth c (G.2.1 73) L xs ∧ va_K G.1 CL (tyO G) s ∧ Gd G ∧ (∀ k, k < NC → s.heap.size ≤ G.2.1 k) ∧ va_Nw nestW s
def LW (L : Nat) (xs : Nat → Int32) (pc : Nat) (ls : List (Option Value)) (st : List Value) (ρ : Rho) : Prop :=
  ∀ (G : Wd) (p : Program) (l : Launch) (e : Env) (s : State) (m : MethodId) (below : List Frame) (meth : Method) (c : Code) (H : Heap) (locs : List Loc) (rls : Array Slot), LC G p s m meth c L xs → va_P G.1 CL (wsO G ρ) H → va_S (fun q => s.heap.size ≤ q) s.heap H locs → (∃ lv, lv_has rls 4 lv ∧ Lok G ls lv) → W p l e room_1 s m #[.ref (G.2.1 73)] below meth c H locs 73 2504 (lw_Z below #[.ref (G.2.1 73)] s) (F0 m pc rls (st.map (rv G)))
theorem llget {G : Wd} {ls : List (Option Value)} {rls : Array Slot} {i : Nat} {v : Value} (h : ∃ lv, lv_has rls 4 lv ∧ Lok G ls lv) (hg : lg ls i = some v) : rls[i]? = some (.val (rv G v)) := by
  obtain ⟨lv, h1, h2⟩ := h
  exact h1.2.2 _ (h2 i v hg)
theorem LC.bt {G : Wd} {p : Program} {s : State} {m : MethodId} {meth : Method} {c : Code} {L : Nat} {xs : Nat → Int32} (C : LC G p s m meth c L xs) : ∀ w ∈ BT, w.before #[.ref (G.2.1 73)] s = true := fun w hw => C.1.2.2.2.2.2.1 w (bt_in hw)
section
variable {L : Nat} {xs : Nat → Int32} {pc nx : Nat} {ls : List (Option Value)} {st : List Value} {ρ : Rho}
theorem l_al {i x : Nat} (hd : DLa mLaw pc i nx) (hg : lg ls i = some (.ref x)) (k : LW L xs nx ls (.ref x :: st) ρ) : LW L xs pc ls st ρ := by
  rcases hd with ⟨q, hd, hi, rfl⟩ | ⟨hd, rfl⟩
  · exact fun G p l e s m below meth c H locs rls C hP hS hl => lv_aload_n C.1.1 C.1.2.1 hd hi (llget hl hg) (k G p l e s m below meth c H locs rls C hP hS hl)
  · exact fun G p l e s m below meth c H locs rls C hP hS hl => lv_aload C.1.1 C.1.2.1 hd (llget hl hg) (k G p l e s m below meth c H locs rls C hP hS hl)
theorem l_il {i : Nat} {x : Int32} (hd : DLi mLaw pc i nx) (hg : lg ls i = some (.int x)) (k : LW L xs nx ls (.int x :: st) ρ) : LW L xs pc ls st ρ := by
  rcases hd with ⟨q, hd, hi, rfl⟩ | ⟨hd, rfl⟩
  · exact fun G p l e s m below meth c H locs rls C hP hS hl => lv_iload_n C.1.1 C.1.2.1 hd hi (llget hl hg) (k G p l e s m below meth c H locs rls C hP hS hl)
  · exact fun G p l e s m below meth c H locs rls C hP hS hl => lv_iload C.1.1 C.1.2.1 hd (llget hl hg) (k G p l e s m below meth c H locs rls C hP hS hl)
theorem l_k {v : Int32} (hd : DKi mLaw pc v nx) (k : LW L xs nx ls (.int v :: st) ρ) : LW L xs pc ls st ρ := by
  rcases hd with ⟨n, hd, hv, rfl⟩ | ⟨n, hd, hv, rfl⟩ | ⟨n, hd, hv, rfl⟩ | ⟨n, hd, hv, rfl⟩ | ⟨n, hd, hv, rfl⟩
  · exact fun G p l e s m below meth c H locs rls C hP hS hl => lv_iconst C.1.1 C.1.2.1 hd hv (k G p l e s m below meth c H locs rls C hP hS hl)
  · exact fun G p l e s m below meth c H locs rls C hP hS hl => lv_bipush C.1.1 C.1.2.1 hd hv (k G p l e s m below meth c H locs rls C hP hS hl)
  · exact fun G p l e s m below meth c H locs rls C hP hS hl => lv_sipush C.1.1 C.1.2.1 hd hv (k G p l e s m below meth c H locs rls C hP hS hl)
  · exact fun G p l e s m below meth c H locs rls C hP hS hl => lv_ldc C.1.1 C.1.2.1 C.1.2.2.2.2.1 (C.bt _ hv) hd (k G p l e s m below meth c H locs rls C hP hS hl)
  · exact fun G p l e s m below meth c H locs rls C hP hS hl => lv_ldcw C.1.1 C.1.2.1 C.1.2.2.2.2.1 (C.bt _ hv) hd (k G p l e s m below meth c H locs rls C hP hS hl)
theorem l_iadd {a b : Nat} (hd : D0 mLaw pc .iadd 1 nx) (k : LW L xs nx ls (.int (nI (a + b)) :: st) ρ) : LW L xs pc ls (.int (nI b) :: .int (nI a) :: st) ρ := by
  obtain ⟨hd, rfl⟩ := hd
  rw [← nI_add] at k
  exact fun G p l e s m below meth c H locs rls C hP hS hl => lv_iadd C.1.1 C.1.2.1 hd (k G p l e s m below meth c H locs rls C hP hS hl)
theorem l_isub {x y : Int32} (hd : D0 mLaw pc .isub 1 nx) (k : LW L xs nx ls (.int (x - y) :: st) ρ) : LW L xs pc ls (.int y :: .int x :: st) ρ := by
  obtain ⟨hd, rfl⟩ := hd
  exact fun G p l e s m below meth c H locs rls C hP hS hl => lv_isub C.1.1 C.1.2.1 hd (k G p l e s m below meth c H locs rls C hP hS hl)
theorem l_iand {x y : Int32} (hd : D0 mLaw pc .iand 1 nx) (k : LW L xs nx ls (.int (x &&& y) :: st) ρ) : LW L xs pc ls (.int y :: .int x :: st) ρ := by
  obtain ⟨hd, rfl⟩ := hd
  exact fun G p l e s m below meth c H locs rls C hP hS hl => lv_iand C.1.1 C.1.2.1 hd (k G p l e s m below meth c H locs rls C hP hS hl)
theorem l_lcmp {x y : Int64} (hd : D0 mLaw pc .lcmp 1 nx) (k : LW L xs nx ls (.int (lg_cmp x y) :: st) ρ) : LW L xs pc ls (.long y :: .long x :: st) ρ := by
  obtain ⟨hd, rfl⟩ := hd
  exact fun G p l e s m below meth c H locs rls C hP hS hl => W.lcmp C.1.1 C.1.2.1 hd (k G p l e s m below meth c H locs rls C hP hS hl)
theorem l_icgt {tgt : Nat} {x y : Int32} (hd : DCgt mLaw pc tgt nx) (kt : y < x → LW L xs tgt ls st ρ) (kf : ¬ y < x → LW L xs nx ls st ρ) : LW L xs pc ls (.int y :: .int x :: st) ρ := by
  obtain ⟨off, hd, ht, rfl⟩ := hd
  exact fun G p l e s m below meth c H locs rls C hP hS hl => lv_icmp_gt C.1.1 C.1.2.1 hd ht (fun h => kt h G p l e s m below meth c H locs rls C hP hS hl) (fun h => kf h G p l e s m below meth c H locs rls C hP hS hl)
theorem l_same {tgt : Nat} {x : Int32} (hd : DCeq mLaw pc tgt nx) (k : LW L xs tgt ls st ρ) : LW L xs pc ls (.int x :: .int x :: st) ρ := by
  obtain ⟨off, hd, ht, rfl⟩ := hd
  exact fun G p l e s m below meth c H locs rls C hP hS hl => lv_icmp_eq C.1.1 C.1.2.1 hd ht (fun _ => k G p l e s m below meth c H locs rls C hP hS hl) (fun h => absurd rfl h)
theorem cmp_self (x : Int64) : lg_cmp x x = 0 := by
  unfold lg_cmp
  rw [if_neg (fun h => Int64.lt_irrefl h), if_pos rfl]
theorem l_sameL {tgt : Nat} {x : Int64} (hd : DFeq mLaw pc tgt nx) (k : LW L xs tgt ls st ρ) : LW L xs pc ls (.int (lg_cmp x x) :: st) ρ := by
  obtain ⟨off, hd, ht, rfl⟩ := hd
  exact fun G p l e s m below meth c H locs rls C hP hS hl => lv_if_eq C.1.1 C.1.2.1 hd ht (fun _ => k G p l e s m below meth c H locs rls C hP hS hl) (fun h => absurd (cmp_self x) h)
theorem l_goto {tgt : Nat} (hd : DG mLaw pc tgt) (k : LW L xs tgt ls st ρ) : LW L xs pc ls st ρ := by
  obtain ⟨off, hd, ht⟩ := hd
  exact fun G p l e s m below meth c H locs rls C hP hS hl => lv_goto C.1.1 C.1.2.1 hd ht (k G p l e s m below meth c H locs rls C hP hS hl)
theorem l_iinc {i a b : Nat} {ls2 : List (Option Value)} (hd : DIn mLaw pc i (nI b) nx) (hg : lg ls i = some (.int (nI a))) (hl : lset (lk ls i) i (some (.int (nI (a + b)))) = ls2) (k : LW L xs nx ls2 st ρ) : LW L xs pc ls st ρ := by
  subst hl
  obtain ⟨hn, n, hd, hb, rfl⟩ := hd
  exact fun G p l e s m below meth c H locs rls C hP hS hl => by
    obtain ⟨lv, h1, h2⟩ := hl
    obtain ⟨q, hq⟩ := List.getElem?_of_mem (h2 i _ hg)
    refine lv_iinc C.1.1 C.1.2.1 hd h1 hq rfl hn rfl (fun rls2 hl2 => ?_)
    rw [hb, nI_add] at hl2
    exact k G p l e s m below meth c H locs rls2 C hP hS ⟨_, hl2, Lok.st1 h2 i (.int (nI (a + b)))⟩
theorem l_tin {dflt lo hi : Int} {offs : Array Int} {len tgt : Nat} {x : Int32} {off : Int} (hd : decode (mC mLaw) pc = .ok (.tableswitch dflt lo hi offs, len)) (h1 : ¬ x.toInt < lo) (h2 : ¬ hi < x.toInt) (ho : offs[(x.toInt - lo).toNat]? = some off) (ht : (pc : Int) + off = (tgt : Int)) (k : LW L xs tgt ls st ρ) : LW L xs pc ls (.int x :: st) ρ :=
  fun G p l e s m below meth c H locs rls C hP hS hl => lv_tableIn C.1.1 C.1.2.1 hd h1 h2 ho ht (k G p l e s m below meth c H locs rls C hP hS hl)
theorem l_tout {dflt lo hi : Int} {offs : Array Int} {len tgt : Nat} {x : Int32} (hd : decode (mC mLaw) pc = .ok (.tableswitch dflt lo hi offs, len)) (h : x.toInt < lo ∨ hi < x.toInt) (ht : (pc : Int) + dflt = (tgt : Int)) (k : LW L xs tgt ls st ρ) : LW L xs pc ls (.int x :: st) ρ :=
  fun G p l e s m below meth c H locs rls C hP hS hl => lv_tableOut C.1.1 C.1.2.1 hd h ht (k G p l e s m below meth c H locs rls C hP hS hl)
theorem l_slen (hd : D0 mLaw pc .arraylength 1 nx) (k : LW L xs nx ls (.int (nI L) :: st) ρ) : LW L xs pc ls (.ref 73 :: st) ρ := by
  obtain ⟨hd, rfl⟩ := hd
  exact fun G p l e s m below meth c H locs rls C hP hS hl => va_slen C.1.1 C.1.2.1 C.1.2.2.2.2.2.2.1 C.1.2.2.2.2.2.2.2.1 (Nat.not_le.mpr C.1.2.2.2.2.2.2.2.1) hS hd (k G p l e s m below meth c H locs rls C hP hS hl)
theorem l_sld {j : Nat} (hd : D0 mLaw pc .iaload 1 nx) (hj : j < L) (hL : L ≤ 4096) (k : LW L xs nx ls (.int (xs j) :: st) ρ) : LW L xs pc ls (.int (nI j) :: .ref 73 :: st) ρ := by
  obtain ⟨hd, rfl⟩ := hd
  exact fun G p l e s m below meth c H locs rls C hP hS hl => va_sld C.1.1 C.1.2.1 C.1.2.2.2.2.2.2.1 C.1.2.2.2.2.2.2.2.1 (Nat.not_le.mpr C.1.2.2.2.2.2.2.2.1) hS (vp_in_nI hj (by omega)) hd (by
    rw [nI_clamp (by omega)]
    exact k G p l e s m below meth c H locs rls C hP hS hl)
theorem l_ret (hd : D0 mLaw pc .ireturn 1 nx) : LW L xs pc ls [.int (nI 1)] ρ := fun G p l e s m below meth c H locs rls C hP hS hl =>
  va_forget (fun q hq => hS.2.2 q hq) (W.widen (k := 600000) (n := 7302250) (by decide) (by decide) (lw_ret C.1.1 C.1.2.1 C.1.2.2.1 C.1.2.2.2.2.2.2.2.2.1 hd.1))
theorem l_run {i : Nat} {rest : List Value} {st0 : List Value} {Q2 : Option Value → Rho → Prop} {G : Wd} {p : Program} {l : Launch} {e : Env} {s : State} {m : MethodId} {a : Array Value} {below : List Frame} {meth : Method} {c : Code} {H : Heap} {locs : List Loc} {rls : Array Slot} (C : LC G p s m meth c L xs) (hS : va_S (fun q => s.heap.size ≤ q) s.heap H locs) (hl : ∃ lv, lv_has rls 4 lv ∧ Lok G ls lv)
    (hr : va_Run p l e room_1 s m #[.ref (G.2.1 73)] below meth c H locs 73 2504 0 0 (F0 m pc rls st0) (rest.map (rv G)) (QC G Q2 a) (AG G)) (k : ∀ r ρ2, Q2 r ρ2 → LW L xs (pc + 3) ls (r.toList ++ rest) ρ2) : W p l e room_1 s m #[.ref (G.2.1 73)] below meth c H locs 73 2504 (lw_Z below #[.ref (G.2.1 73)] s) (F0 m pc rls st0) := by
  have hAG : ∀ q, AG G q → s.heap.size ≤ q := fun q h => by obtain ⟨k, h1, rfl⟩ := h; exact C.2.2.2.1 k h1
  intro T hT X
  obtain ⟨v, st₀, t, T', L', h0, X', hL, e1, e2, ⟨⟨r, ρ2, hv, hQ, hP2⟩, hF⟩, go⟩ := hr T hT X
  have hv : v = r.map (rv G) := by cases hv; rfl
  subst hv
  have hS2 : va_S (fun q => s.heap.size ≤ q) s.heap T'.heap (locs ++ L') := ⟨Nat.le_trans hS.1 (by rw [e1, ← h0]; exact hF.1), fun q h1 h2 => by rw [e1, hF.2 q (by rw [h0]; exact Nat.lt_of_lt_of_le h1 hS.1) (fun z => h2 (hAG q z)), h0]; exact hS.2.1 q h1 h2, fun q hq => (List.mem_append.mp hq).elim (hS.2.2 q) (fun z => hAG _ (hL q z))⟩
  obtain ⟨t2, a1, b1⟩ := k r ρ2 hQ G p l e s m below meth c T'.heap (locs ++ L') rls C (by rw [e1]; exact hP2) hS2 hl T' rfl X'
  refine ⟨t2, go t2 ?_, b1⟩
  cases r with
  | none => exact a1
  | some r => exact a1
theorem l_call {M2 : Mth} {idx ci n i q : Nat} {fs : List Nat} {as rest stk : List Value} {B : Value → Rho → Prop} (hd : D0 mLaw pc (.invokevirtual idx) 3 nx) (hl : VLk mLaw M2 idx ci n) (hq : Sh q (.inr (ci, fs))) (hi : i ≤ 8) (hC : CallOK i M2 (.ref q :: as) ρ (fun r ρ2 => ∃ v, r = some v ∧ B v ρ2)) (hn : as.length = n) (hs : stk = as.reverse ++ .ref q :: rest) (hw : (rest.map fun v => v.category).sum ≤ 8) (k : ∀ v ρ2, B v ρ2 → LW L xs nx ls (v :: rest) ρ2) : LW L xs pc ls stk ρ := by
  subst hs
  obtain ⟨hd, rfl⟩ := hd
  obtain ⟨l1, l2, l3, l4, l5, l6, l7, l8, T, N, l9⟩ := hl
  exact fun G p l e s m below meth c H locs rls C hP hS hll => by
    have Bt := C.bt
    have hsz : rls.size = 4 := by obtain ⟨lv, h1, -⟩ := hll; exact h1.1
    rw [List.map_append, List.map_reverse]
    exact l_run (i := i) C hS hll (va_runV (n := n) (b := G.2.1 q) (As := as.map (rv G)) ⟨C.1.1, C.1.2.1, C.1.2.2.2.1, C.1.2.2.2.2.1, Bt⟩ (hC l G C.2.2.1) ⟨⟨rfl, rfl, (show i + 1 ≤ 10 by omega), (show 8 + (mN M2 + 11) + 40 * i ≤ 390 by omega), pay_in Bt (goodBT l5), List.mem_cons_self, Bt _ l5, Bt _ l4, l6, len_of l7, Bt _ l1⟩, Bt _ l2, Bt _ l3⟩ ⟨PC_blind G _ ρ, va_recv C.2.1 hP l9 (ce_obj hq), fun U hU hW => ⟨rfl, va_K.moved hW.alike C.2.1, by rw [hU]; exact hP, va_Nw.warmM hW C.2.2.2.2⟩⟩ rfl (by rw [List.length_map]; exact hn) hsz rfl (lv_room (by rw [cat_rv]; exact hw)) hd ⟨by decide, by decide⟩) (fun r ρ2 h => by obtain ⟨v, rfl, h⟩ := h; exact k v ρ2 h)
end
/-! what a side keeps over a call of the other -/
theorem MInv.eqM {σ : Sg} {ρ ρ2 : Rho} (h : MInv σ ρ) (f : EqM ρ ρ2) : MInv σ ρ2 := by
  refine ⟨h.1, fun a ha b => ?_, fun a ha b => ?_, fun b hb => ?_⟩
  · rw [(f a (by revert ha; simp only [mNs, List.mem_cons, List.not_mem_nil, or_false]; omega)).1]; exact h.2.1 a ha b
  · rw [(f a (by revert ha; simp only [mZs, List.mem_cons, List.not_mem_nil, or_false]; omega)).1]; exact h.2.2.1 a ha b
  · rw [(f 47 (by decide)).1]; exact h.2.2.2 b hb
theorem CInv.eqC {σ : Sg} {ρ ρ2 : Rho} (h : CInv σ ρ) (f : EqC ρ ρ2) : CInv σ ρ2 := by
  have ne : ∀ a, a < 47 → ρ2.1 a = ρ.1 a := fun a ha => (f a ha).1
  refine ⟨⟨h.1.1, fun q hq i => ?_, fun q hq i => ?_, fun q hq => ?_, fun t ht => ?_, ?_⟩, ?_, fun d hd => ?_⟩
  · rw [ne q.1 (by rcases mN_in hq with e | e | e | e | e | e | e <;> cases e <;> decide)]; exact h.1.2.1 q hq i
  · rw [ne q.1 (by rcases mZ_in hq with e | e <;> cases e <;> decide)]; exact h.1.2.2.1 q hq i
  · rw [ne q.1 (by rcases mS_in hq with e | e | e | e | e | e | e <;> cases e <;> decide)]; exact h.1.2.2.2.1 q hq
  · rw [ne (39 + t) (by omega), ne (43 + t) (by omega)]; exact h.1.2.2.2.2.1 t ht
  · exact ⟨by rw [ne 35 (by decide)]; exact h.1.2.2.2.2.2.1, by rw [(f 37 (by decide)).2]; exact h.1.2.2.2.2.2.2⟩
  · exact h.2.1.same rfl rfl (fun k hk => (f k (by revert hk; simp only [List.mem_cons, List.not_mem_nil, or_false]; omega)).1) (by rw [ne 1 (by decide)]) (by rw [ne 1 (by decide)])
  · rw [ne 15 (by decide)]; exact h.2.2 d hd
