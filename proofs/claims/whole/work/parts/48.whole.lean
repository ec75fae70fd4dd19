set_option maxHeartbeats 4000000 in
set_option maxRecDepth 100000 in
theorem whole_start {p : Program} {e : Env} {s : State} {m : MethodId} {below : List Frame} {meth : Method} {c : Code} (l : Launch) (hflags : l.flags = flags0) {b L : Nat} {xs : Nat → Int32} (hL : L ≤ 4096) (C0 : lw_At p s m meth c b L xs) : W p l e room_1 s m #[Value.ref b] below meth c s.heap [] 0 0 (lw_Z below #[Value.ref b] s) (entryFrame m ([Value.ref b] : List Value).toArray 4) := by
  obtain ⟨hx, hb, hr, hml, hown, hts, hX, hbl, hlocks, hgv⟩ := id C0
  have B : ∀ w ∈ BT, w.before #[Value.ref b] s = true := fun w hw => hts w (bt_in hw)
  obtain ⟨cc0, i0, k0⟩ := u_known (C := RX0) (T := TX0) (N := 2) (n := 2) B iB_X0 (B _ bt750)
  obtain ⟨cc1, i1, k1⟩ := u_known (C := RX1) (T := TX1) (N := 12) (n := 12) B iB_X1 (B _ bt746)
  obtain ⟨cc2, i2, k2⟩ := u_known (C := RX2) (T := TX2) (N := 9) (n := 9) B iB_X2 (B _ bt763)
  obtain ⟨cc3, i3, k3⟩ := u_known (C := RX3) (T := TX3) (N := 11) (n := 11) B iB_X3 (B _ bt742)
  obtain ⟨cc4, i4, k4⟩ := u_known (C := RX4) (T := TX4) (N := 4) (n := 4) B iB_X4 (B _ bt768)
  obtain ⟨cc5, i5, k5⟩ := u_known (C := RX5) (T := TX5) (N := 5) (n := 5) B iB_X5 (B _ bt758)
  obtain ⟨cc6, i6, k6⟩ := u_known (C := RX6) (T := TX6) (N := 2) (n := 2) B iB_X6 (B _ bt754)
  obtain ⟨cc7, i7, k7⟩ := u_known (C := RX7) (T := TX7) (N := 9) (n := 9) B iB_X7 (B _ bt1039)
  obtain ⟨cc8, i8, k8⟩ := u_known (C := RX8) (T := TX8) (N := 30) (n := 30) B iB_X8 (B _ bt1041)
  obtain ⟨D, hKc⟩ : ∃ D : va_G, ∀ (k : Nat) (q : vw_C), CL[k]? = some q → u_Kn s q.1 q.2.1 q.2.2 (D.1 k) (D.2 k) := by
    refine ⟨(fun k => [cc0, cc1, cc2, cc3, cc4, cc5, cc6, cc7, cc8].getD k cc0, fun k => [i0, i1, i2, i3, i4, i5, i6, i7, i8].getD k i0), ?_⟩
    intro k q hq
    match k, hq with
    | 0, hq => cases hq; exact k0
    | 1, hq => cases hq; exact k1
    | 2, hq => cases hq; exact k2
    | 3, hq => cases hq; exact k3
    | 4, hq => cases hq; exact k4
    | 5, hq => cases hq; exact k5
    | 6, hq => cases hq; exact k6
    | 7, hq => cases hq; exact k7
    | 8, hq => cases hq; exact k8
    | k + 9, hq => simp [CL] at hq
  obtain ⟨a0, kA0, cm0, f0, g0, e0⟩ := Cond.arrayClass_spec (B (.arrayClass .int) bt733)
  obtain ⟨a1, kA1, cm1, f1, g1, e1⟩ := Cond.arrayClass_spec (B (.arrayClass .long) bt731)
  obtain ⟨a2, kA2, cm2, f2, g2, e2⟩ := Cond.arrayClass_spec (B (.arrayClass .boolean) bt772)
  have hAO : va_AO RX4 s := va_AO.of (hts (.arrayOver (.object RX4)) (in_t1 (List.mem_of_getElem? (i := 218) rfl)))
  obtain ⟨cm3, a3, kA3, f3, -, g3, e3, d3⟩ := Cond.arrayOver_spec hAO
  obtain ⟨ct, hct⟩ : ∃ ct : Nat → ClassId, ct = fun k => [a0, a1, a2, a3].getD k a0 := ⟨_, rfl⟩
  have hK : va_K D CL (tyC ct) s := by
    refine ⟨hKc, fun k q hq => ?_⟩
    subst hct
    match k, hq with
    | 0, hq => cases hq; exact ⟨fun n z => ⟨(fun k h => by cases h), kA0, g0, cm0, e0⟩, f0⟩
    | 1, hq => cases hq; exact ⟨fun n z => ⟨(fun k h => by cases h), kA1, g1, cm1, e1⟩, f1⟩
    | 2, hq => cases hq; exact ⟨fun n z => ⟨(fun k h => by cases h), kA2, g2, cm2, e2⟩, f2⟩
    | 3, hq => cases hq; exact ⟨fun n z => ⟨(fun k h => by cases h), kA3, g3, cm3, e3⟩, kA3, cm3, g3, e3, f3, d3⟩
    | k + 4, hq => simp [tyC] at hq
  have hNW : NW s := by
    refine ⟨fun q hq => ?_, hAO⟩
    simp only [nestL, List.mem_cons, List.not_mem_nil, or_false] at hq
    rcases hq with rfl | rfl | rfl | rfl | rfl
    · exact va_Nw.of rfl (hts _ (in_t1 (List.mem_of_getElem? (i := 24) rfl)))
    · exact va_Nw.of rfl (hts _ (in_t1 (List.mem_of_getElem? (i := 77) rfl)))
    · exact va_Nw.of rfl (hts _ (in_t1 (List.mem_of_getElem? (i := 127) rfl)))
    · exact va_Nw.of rfl (hts _ (in_t1 (List.mem_of_getElem? (i := 143) rfl)))
    · exact va_Nw.of rfl (hts _ (in_t1 (List.mem_of_getElem? (i := 220) rfl)))
  have hNs : va_Nw nestW s := va_Nw.of rfl (hts _ (in_t2 (List.mem_of_getElem? (i := 74) rfl)))
  have hA : ∀ q : Nat, s.heap.size ≤ q → (fun q : Nat => s.heap.size ≤ q) q := fun _ h => h
  have hS : va_S (fun q : Nat => s.heap.size ≤ q) s.heap s.heap [] := va_S.rf
  have hP : va_P D CL [] s.heap := fun k q h => by simp at h
  have hD : va_D (fun q : Nat => s.heap.size ≤ q) [] := ⟨fun i j p q h => by simp at h, fun k q h => by simp at h⟩
  have hl := lv_entry ([.ref b]) (n := 4) (Nat.le_of_ble_eq_true rfl)
  rw [lg_entry_eq]
  generalize (lg_sl ([.ref b]) ++ List.replicate (4 - (lg_sl ([.ref b])).length) Slot.unset).toArray = ls at hl ⊢
  have hl : lv_has ls 4 [(0, .ref b)] := hl
  have hown : s.vm.findClass RL = some m.cls := hown
  obtain ⟨Cnx, Tx, tyx, n1, n2, n3, n4, n5, n6, n7⟩ := nk_L_7
  refine va_new (D := D) hx hb B n5 tyx n6 hown (B _ n2) (B _ n3) (B _ n4) hK hP hD hS hA n1 n7 (Nat.le_of_ble_eq_true rfl) (Nat.le_of_ble_eq_true rfl) dlw_0 (fun x H hP hD hS => ?_)
  clear n1 n2 n3 n4 n5 n6 n7
  refine lv_dup hx hb dlw_3 rfl ?_
  refine cw_init (M2 := mX7_init) (D := D) (ct := ct) (wr := []) ⟨hx, hb, hml, hown, B⟩ hK hNW hA hP hD hS hl.1 dlw_4 bt1042 bt1043 bt187 bt1044 rfl rfl ⟨by decide +kernel, by decide +kernel⟩ (by decide +kernel) ci_X7 ⟨by decide, by decide⟩ (Nat.le_of_ble_eq_true rfl) ⟨Nat.le_of_ble_eq_true rfl, Nat.le_of_ble_eq_true rfl⟩ (fun w1 H1 locs1 hw1 hP1 hD1 hS1 => ?_)
  obtain ⟨u, rfl⟩ := hw1
  clear hP hD hS
  have hP := hP1
  have hD := hD1
  have hS := hS1
  clear hP1 hD1 hS1
  generalize H1 = H at hP hS ⊢
  have hP : va_P D CL (qX7 ct x u) H := hP
  have hD : va_D (fun q : Nat => s.heap.size ≤ q) (qX7 ct x u) := hD
  refine lv_astore_n (lv' := [(1, .ref x), (0, .ref b)]) hx hb dlw_7 rfl hl (by decide) rfl (fun ls hl => ?_)
  obtain ⟨Cny, Ty, tyy, n1, n2, n3, n4, n5, n6, n7⟩ := nk_L_10
  refine va_new (D := D) hx hb B n5 tyy n6 hown (B _ n2) (B _ n3) (B _ n4) hK hP hD hS hA n1 n7 (Nat.le_of_ble_eq_true rfl) (Nat.le_of_ble_eq_true rfl) dlw_8 (fun y H hP hD hS => ?_)
  clear n1 n2 n3 n4 n5 n6 n7
  refine lv_dup hx hb dlw_11 rfl ?_
  refine cw_init (M2 := mX8_init) (D := D) (ct := ct) (wr := qX7 ct x u) ⟨hx, hb, hml, hown, B⟩ hK hNW hA hP hD hS hl.1 dlw_12 bt1045 bt1046 bt527 bt1047 rfl rfl ⟨by decide +kernel, by decide +kernel⟩ (by decide +kernel) ci_X8 ⟨by decide, by decide⟩ (Nat.le_of_ble_eq_true rfl) ⟨Nat.le_of_ble_eq_true rfl, Nat.le_of_ble_eq_true rfl⟩ (fun w1 H1 locs1 hw1 hP1 hD1 hS1 => ?_)
  obtain ⟨v, rfl⟩ := hw1
  clear hP hD hS
  have hP := hP1
  have hD := hD1
  have hS := hS1
  clear hP1 hD1 hS1
  generalize H1 = H at hP hS ⊢
  refine lv_astore_n (lv' := [(2, .ref y), (1, .ref x), (0, .ref b)]) hx hb dlw_15 rfl hl (by decide) rfl (fun ls hl => ?_)
  refine lv_iconst (v := nI 0) hx hb (show decode code 16 = .ok (.iconst 0, 1) by decide +kernel) (by decide) ?_
  refine lv_istore_n (lv' := [(3, .int (nI 0)), (2, .ref y), (1, .ref x), (0, .ref b)]) hx hb dlw_17 rfl hl (by decide) rfl (fun ls hl => ?_)
  refine W.widen (k := 73) (n := 2504) (by decide) (by decide) ?_
  have hG := st_G (D := D) (b := b) hD
  exact law_loop hL (L + 1) 0 ρ0 σ0 (Nat.zero_le _) (by omega) c0 m0 (D, adr0 x u y v b, ct) p l e s m below meth c _ _ ls ⟨C0, hK, hG.1, hG.2, hNs⟩ (st_P hP) hS ⟨_, hl, fun i v h => by
    match i, h with
    | 0, h => cases h; exact List.mem_of_getElem? (i := 3) rfl
    | 1, h => cases h; exact List.mem_of_getElem? (i := 2) rfl
    | 2, h => cases h; exact List.mem_of_getElem? (i := 1) rfl
    | 3, h => cases h; exact List.mem_of_getElem? (i := 0) rfl
    | i + 4, h => cases h⟩
set_option maxHeartbeats 4000000 in
theorem lw_walk (l : Launch) (hflags : l.flags = flags0) (b : Addr) (xs : List Int32) : MetFree l x (headSpec (Jvm.Cond.code x code maxLocals ret :: tables_1) room_1) (lw_P b xs) (fun _ _ _ _ _ => True) lw_Q := by
  refine MetFree.of_bodyS (code := code) (maxLocals := maxLocals) (ret := ret) (by decide) ?_ ?_
  · intro args s m h hn
    obtain ⟨meth, c, h1, h2, h3, h4, h5, h6, -, -⟩ := Cond.code_spec hn (atoms_spec (ws := Jvm.Cond.code x code maxLocals ret :: tables_1) h _ List.mem_cons_self)
    exact ⟨meth, c, h1, h2, h3, h4, h5, h6⟩
  · intro p e s m args below meth c s₁ B hml0 hP _
    obtain ⟨rfl, hx, hbd, hgv⟩ := hP
    obtain ⟨scr, harrAt, hlist, hof, hsmall⟩ := hx
    obtain ⟨hcb, hkn, -, -⟩ := State.arrayAt?_spec harrAt
    have hown : s.vm.findClass R_law = some m.cls := findClass_of_methodNamed B.named
    have hts0 : ∀ c ∈ (Jvm.Cond.code x code maxLocals ret :: tables_1), c.before #[Value.ref b] s = true := atoms_spec (ws := Jvm.Cond.code x code maxLocals ret :: tables_1) B.pre
    have hts : ∀ w ∈ lw_tbl, w.before #[Value.ref b] s = true := k2_hts_sels lw_privs (fun w hw => hts0 w (List.mem_cons_of_mem _ hw)) lw_privs_ok
    have hml : c.maxLocals = 4 := B.maxLocals_eq (hts0 _ List.mem_cons_self)
    have X₀ : Stand p l e room_1 s m #[Value.ref b] below meth c s₁ [] 0 0 := Stand.of_body B
    have hh0 : s₁.heap = s.heap := by rw [B.state]; rfl
    have hsz : scr.slots.size = xs.length := by rw [← Array.length_toList, hlist, List.length_map]
    have hval : ∀ j : Nat, j < xs.length → scr.slots[j]? = some (.int (xs.getD j 0)) := fun j hj => by
      rw [← Array.getElem?_toList, hlist]
      simp [hj]
    have hbl : b < s.heap.size := (Array.getElem?_eq_some_iff.mp hcb).1
    have hX : va_X b xs.length (fun j => xs.getD j 0) s s.heap := ⟨scr, hcb, hof, hkn, hsz, hval⟩
    have K : W p l e room_1 s m #[Value.ref b] below meth c s₁.heap [] 0 0 (lw_Z below #[Value.ref b] s) (entryFrame m ([Value.ref b] : List Value).toArray 4) := by
      rw [hh0]
      exact whole_start l hflags hbd ⟨B.exec, B.bytes, B.returns, hml, hown, hts, hX, hbl, B.notSynchronized, hgv⟩
    obtain ⟨t, a1, o, b1, b2, b3⟩ := K s₁ rfl X₀
    exact ⟨t, o, a1, b1, b2, b3⟩
theorem lw_pre_spec {args : Array Value} {s : State} (h : (Jvm.Cond.and given_1 narrow_1).before args s = true) (hr : rest_1_c.before args s = true) : ∃ (b : Addr) (xs : List Int32), lw_P b xs args s := by
  have hs := flat_of_before _ h
  have hq := flat_of_before _ hr
  have hc : (Cond.count 1).before args s = true := hs _ (by decide +kernel)
  have harr : (Cond.arrayOf (.arg 0) .int).before args s = true := hs _ (by decide +kernel)
  have hle : (Cond.le (.length (.arg 0)) (.int 4096)).before args s = true := hs _ (by decide +kernel)
  have hlen : (Cond.isInt (.length (.arg 0))).before args s = true := hq _ (by decide +kernel)
  have hall : (Cond.all (.arg 0) (.isInt (.elem (.arg 0) (.index 0)))).before args s = true := hq _ (by decide +kernel)
  obtain ⟨b, xs, hb, hx⟩ := State.ints_of_pre rfl harr hlen hall
  have hsm : xs.length < 2 ^ 31 := hx.choose_spec.2.2.2
  have hev : (Term.length (.arg 0)).eval args s none [] s = some (.int xs.length.toInt32) := hx.length_eval hb
  have hv := Cond.le_ints hev (show (Term.int 4096).eval args s none [] s = some (.int 4096) from rfl)
  have hd : xs.length.toInt32 ≤ 4096 := by
    simpa [Cond.before, Cond.holds, hv] using hle
  have hN : xs.length ≤ 4096 := (Int32.ofNat_le_ofNat hsm (by decide)).mp (show Int32.ofNat xs.length ≤ Int32.ofNat 4096 from hd)
  exact ⟨b, xs, Cond.one_arg hc (show args[0]? = some (.ref b) from hb), hx, hN, h⟩
theorem lw_comes (l : Launch) (hflags : l.flags = flags0) : Comes l x (Jvm.Cond.code x code maxLocals ret :: tables_1) room_1 (fun tb e args s => Calls_1 tb e args s ∧ rest_1 tb e args s ∧ Pre_1 tb e args s)
    (fun _ _ args s o t => lw_Q args s o t) := by
  intro p e ha hc hk s m args below hf hfit hheap happ hpre
  obtain ⟨b, xs, hP⟩ := lw_pre_spec hpre.2.2 hpre.2.1
  obtain ⟨k, o, h1, h2, h3, hQ⟩ := lw_walk l hflags b xs p e ha hc hk s m args below hf ((Spec.applies_iff_loose hf).mp happ).1 hP trivial
  exact ⟨k, o, h1, h2, h3, hQ⟩
theorem lw_frame {s t : State} {o : Outcome} {args : Array Value} (h : Framed s o t [] 600000 7302250) :
    Framed s o t (fieldLocs frame_1_writes args s ++ arrayLocs frame_1_arrays args s ++ staticLocs frame_1_statics s) 600000 7302250 := h
theorem lw_limb (L : Cond) (hL : ∀ (args : Array Value) (s t : State), L.after args s (.returned (some (.int 1))) t = true) :
    ArmFor flags0 classFile x code maxLocals ret World_1 tables_1 room_1 Calls_1 rest_1 Pre_1
      (fun tb e a s o t => postC L tb e a s o t ∧ Framed s o t (fieldLocs frame_1_writes a s ++ arrayLocs frame_1_arrays a s ++ staticLocs frame_1_statics s) 600000 7302250) := by
  intro l hflags _ _ p e ha hc hk s m args below hf hfit hheap happ hpre
  obtain ⟨k, o, h1, h2, h3, rfl, hF⟩ := lw_comes l hflags p e ha hc hk s m args below hf hfit hheap happ hpre
  exact ⟨k, _, h1, h2, h3, hL args s _, lw_frame hF⟩
theorem i_vc : Claimed_1_1 ∧ Claimed_1_2 := ⟨lw_limb limb_1_1 (fun args s t => by simp [limb_1_1, Cond.after, Cond.holds, Cond.value]), lw_limb limb_1_2 (fun args s t => Cond.after_iff.mpr (by
  first | (rw [show limb_1_2 = Cond.eq .result (.int 1) from rfl, Cond.eq_ints (x := 1) (y := 1) rfl rfl]; simp; done) | (simp [limb_1_2, Cond.value, Term.eval]; done)))⟩
