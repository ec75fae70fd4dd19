def rmX0 : Room := { frames := 1, cells := 1, slots := 8, locals := 20 }
def qX0 (ct : Nat → ClassId) (h0 : Nat) (u : Nat → Nat) : va_W := [(h0, ob 0 [.ref (u 0), .long (lN 1)]), ((u 0), aL ct 8 (fun _ => 0))]
set_option maxRecDepth 100000 in
set_option maxHeartbeats 4000000 in
theorem ci_X0 : InitOK mX0_init rmX0 0 [.null, .long 0] (fun ct h0 w => ∃ u : Nat → Nat, w = qX0 ct h0 u) := by
  refine init_of (by decide +kernel) rfl (by decide) rfl rfl (fun D ct h0 => ?_)
  show IW mX0_init rmX0 D ct 0 [some (.ref h0)] [] [(h0, ob 0 [.null, .long 0])] 0 0 _
  refine i_al dX0_init_0 rfl ?_
  refine i_obj dX0_init_1 ⟨bt728, bt729, bt730⟩ ⟨by decide, by decide⟩ (by decide) ?_
  refine i_al dX0_init_4 rfl ?_
  refine i_k dX0_init_5 ?_
  refine i_newL dX0_init_7 bt731 (by decide) (Nat.le_of_ble_eq_true rfl) (Nat.le_of_ble_eq_true rfl) (fun q1 => ?_)
  refine i_ws (ws2 := [(h0, ob 0 [.null, .long 0]), (q1, aL ct 8 (fun _ => 0))]) rfl ?_
  refine i_putF (q0 := 0) (ws2 := [(h0, ob 0 [.ref q1, .long 0]), (q1, aL ct 8 (fun _ => 0))]) dX0_init_9 ff_X0_9 rfl rfl rfl (Nat.le_of_ble_eq_true rfl) rfl ?_
  refine i_al dX0_init_12 rfl ?_
  refine i_kl dX0_init_13 ?_
  refine i_put (q0 := 0) (ws2 := [(h0, ob 0 [.ref q1, .long (lN 1)]), (q1, aL ct 8 (fun _ => 0))]) dX0_init_14 fp_X0_15 rfl rfl rfl (Nat.le_of_ble_eq_true rfl) rfl ?_
  exact i_ret dX0_init_17 rfl rfl ⟨fun i => [q1].getD i 0, rfl⟩
def rmX1 : Room := { frames := 1, cells := 7, slots := 356, locals := 20 }
def qX1 (ct : Nat → ClassId) (h0 : Nat) (u : Nat → Nat) : va_W := [(h0, ob 1 [.int (nI 0), .ref (u 0), .ref (u 1), .ref (u 2), .ref (u 3), .int (nI 0), .int (nI 999), .int (nI 0), .int (nI 0), .ref (u 4), .ref (u 5), .ref (u 6)]), ((u 0), aI ct 60 (fun _ => 0)), ((u 1), aI ct 60 (fun _ => 0)), ((u 2), aI ct 60 (fun _ => 0)), ((u 3), aI ct 60 (fun _ => 0)), ((u 4), aI ct 100 (fun _ => 0)), ((u 5), aI ct 8 (fun _ => 0)), ((u 6), aI ct 8 (fun _ => 0))]
set_option maxRecDepth 100000 in
set_option maxHeartbeats 4000000 in
theorem ci_X1 : InitOK mX1_init rmX1 1 [.int 0, .null, .null, .null, .null, .int 0, .int 0, .int 0, .int 0, .null, .null, .null] (fun ct h0 w => ∃ u : Nat → Nat, w = qX1 ct h0 u) := by
  refine init_of (by decide +kernel) rfl (by decide) rfl rfl (fun D ct h0 => ?_)
  show IW mX1_init rmX1 D ct 0 [some (.ref h0)] [] [(h0, ob 1 [.int 0, .null, .null, .null, .null, .int 0, .int 0, .int 0, .int 0, .null, .null, .null])] 0 0 _
  refine i_al dX1_init_0 rfl ?_
  refine i_obj dX1_init_1 ⟨bt732, bt729, bt730⟩ ⟨by decide, by decide⟩ (by decide) ?_
  refine i_al dX1_init_4 rfl ?_
  refine i_k dX1_init_5 ?_
  refine i_put (q0 := 0) (ws2 := [(h0, ob 1 [.int (nI 0), .null, .null, .null, .null, .int 0, .int 0, .int 0, .int 0, .null, .null, .null])]) dX1_init_6 fp_X1_9 rfl rfl rfl (Nat.le_of_ble_eq_true rfl) rfl ?_
  refine i_al dX1_init_9 rfl ?_
  refine i_k dX1_init_10 ?_
  refine i_newI dX1_init_12 bt733 (by decide) (Nat.le_of_ble_eq_true rfl) (Nat.le_of_ble_eq_true rfl) (fun q1 => ?_)
  refine i_ws (ws2 := [(h0, ob 1 [.int (nI 0), .null, .null, .null, .null, .int 0, .int 0, .int 0, .int 0, .null, .null, .null]), (q1, aI ct 60 (fun _ => 0))]) rfl ?_
  refine i_putF (q0 := 0) (ws2 := [(h0, ob 1 [.int (nI 0), .ref q1, .null, .null, .null, .int 0, .int 0, .int 0, .int 0, .null, .null, .null]), (q1, aI ct 60 (fun _ => 0))]) dX1_init_14 ff_X1_15 rfl rfl rfl (Nat.le_of_ble_eq_true rfl) rfl ?_
  refine i_al dX1_init_17 rfl ?_
  refine i_k dX1_init_18 ?_
  refine i_newI dX1_init_20 bt733 (by decide) (Nat.le_of_ble_eq_true rfl) (Nat.le_of_ble_eq_true rfl) (fun q2 => ?_)
  refine i_ws (ws2 := [(h0, ob 1 [.int (nI 0), .ref q1, .null, .null, .null, .int 0, .int 0, .int 0, .int 0, .null, .null, .null]), (q1, aI ct 60 (fun _ => 0)), (q2, aI ct 60 (fun _ => 0))]) rfl ?_
  refine i_putF (q0 := 0) (ws2 := [(h0, ob 1 [.int (nI 0), .ref q1, .ref q2, .null, .null, .int 0, .int 0, .int 0, .int 0, .null, .null, .null]), (q1, aI ct 60 (fun _ => 0)), (q2, aI ct 60 (fun _ => 0))]) dX1_init_22 ff_X1_19 rfl rfl rfl (Nat.le_of_ble_eq_true rfl) rfl ?_
  refine i_al dX1_init_25 rfl ?_
  refine i_k dX1_init_26 ?_
  refine i_newI dX1_init_28 bt733 (by decide) (Nat.le_of_ble_eq_true rfl) (Nat.le_of_ble_eq_true rfl) (fun q3 => ?_)
  refine i_ws (ws2 := [(h0, ob 1 [.int (nI 0), .ref q1, .ref q2, .null, .null, .int 0, .int 0, .int 0, .int 0, .null, .null, .null]), (q1, aI ct 60 (fun _ => 0)), (q2, aI ct 60 (fun _ => 0)), (q3, aI ct 60 (fun _ => 0))]) rfl ?_
  refine i_putF (q0 := 0) (ws2 := [(h0, ob 1 [.int (nI 0), .ref q1, .ref q2, .ref q3, .null, .int 0, .int 0, .int 0, .int 0, .null, .null, .null]), (q1, aI ct 60 (fun _ => 0)), (q2, aI ct 60 (fun _ => 0)), (q3, aI ct 60 (fun _ => 0))]) dX1_init_30 ff_X1_22 rfl rfl rfl (Nat.le_of_ble_eq_true rfl) rfl ?_
  refine i_al dX1_init_33 rfl ?_
  refine i_k dX1_init_34 ?_
  refine i_newI dX1_init_36 bt733 (by decide) (Nat.le_of_ble_eq_true rfl) (Nat.le_of_ble_eq_true rfl) (fun q4 => ?_)
  refine i_ws (ws2 := [(h0, ob 1 [.int (nI 0), .ref q1, .ref q2, .ref q3, .null, .int 0, .int 0, .int 0, .int 0, .null, .null, .null]), (q1, aI ct 60 (fun _ => 0)), (q2, aI ct 60 (fun _ => 0)), (q3, aI ct 60 (fun _ => 0)), (q4, aI ct 60 (fun _ => 0))]) rfl ?_
  refine i_putF (q0 := 0) (ws2 := [(h0, ob 1 [.int (nI 0), .ref q1, .ref q2, .ref q3, .ref q4, .int 0, .int 0, .int 0, .int 0, .null, .null, .null]), (q1, aI ct 60 (fun _ => 0)), (q2, aI ct 60 (fun _ => 0)), (q3, aI ct 60 (fun _ => 0)), (q4, aI ct 60 (fun _ => 0))]) dX1_init_38 ff_X1_25 rfl rfl rfl (Nat.le_of_ble_eq_true rfl) rfl ?_
  refine i_al dX1_init_41 rfl ?_
  refine i_k dX1_init_42 ?_
  refine i_put (q0 := 0) (ws2 := [(h0, ob 1 [.int (nI 0), .ref q1, .ref q2, .ref q3, .ref q4, .int (nI 0), .int 0, .int 0, .int 0, .null, .null, .null]), (q1, aI ct 60 (fun _ => 0)), (q2, aI ct 60 (fun _ => 0)), (q3, aI ct 60 (fun _ => 0)), (q4, aI ct 60 (fun _ => 0))]) dX1_init_43 fp_X1_28 rfl rfl rfl (Nat.le_of_ble_eq_true rfl) rfl ?_
  refine i_al dX1_init_46 rfl ?_
  refine i_k dX1_init_47 ?_
  refine i_put (q0 := 0) (ws2 := [(h0, ob 1 [.int (nI 0), .ref q1, .ref q2, .ref q3, .ref q4, .int (nI 0), .int (nI 999), .int 0, .int 0, .null, .null, .null]), (q1, aI ct 60 (fun _ => 0)), (q2, aI ct 60 (fun _ => 0)), (q3, aI ct 60 (fun _ => 0)), (q4, aI ct 60 (fun _ => 0))]) dX1_init_50 fp_X1_31 rfl rfl rfl (Nat.le_of_ble_eq_true rfl) rfl ?_
  refine i_al dX1_init_53 rfl ?_
  refine i_k dX1_init_54 ?_
  refine i_put (q0 := 0) (ws2 := [(h0, ob 1 [.int (nI 0), .ref q1, .ref q2, .ref q3, .ref q4, .int (nI 0), .int (nI 999), .int (nI 0), .int 0, .null, .null, .null]), (q1, aI ct 60 (fun _ => 0)), (q2, aI ct 60 (fun _ => 0)), (q3, aI ct 60 (fun _ => 0)), (q4, aI ct 60 (fun _ => 0))]) dX1_init_55 fp_X1_34 rfl rfl rfl (Nat.le_of_ble_eq_true rfl) rfl ?_
  refine i_al dX1_init_58 rfl ?_
  refine i_k dX1_init_59 ?_
  refine i_put (q0 := 0) (ws2 := [(h0, ob 1 [.int (nI 0), .ref q1, .ref q2, .ref q3, .ref q4, .int (nI 0), .int (nI 999), .int (nI 0), .int (nI 0), .null, .null, .null]), (q1, aI ct 60 (fun _ => 0)), (q2, aI ct 60 (fun _ => 0)), (q3, aI ct 60 (fun _ => 0)), (q4, aI ct 60 (fun _ => 0))]) dX1_init_60 fp_X1_37 rfl rfl rfl (Nat.le_of_ble_eq_true rfl) rfl ?_
  refine i_al dX1_init_63 rfl ?_
  refine i_k dX1_init_64 ?_
  refine i_newI dX1_init_66 bt733 (by decide) (Nat.le_of_ble_eq_true rfl) (Nat.le_of_ble_eq_true rfl) (fun q5 => ?_)
  refine i_ws (ws2 := [(h0, ob 1 [.int (nI 0), .ref q1, .ref q2, .ref q3, .ref q4, .int (nI 0), .int (nI 999), .int (nI 0), .int (nI 0), .null, .null, .null]), (q1, aI ct 60 (fun _ => 0)), (q2, aI ct 60 (fun _ => 0)), (q3, aI ct 60 (fun _ => 0)), (q4, aI ct 60 (fun _ => 0)), (q5, aI ct 100 (fun _ => 0))]) rfl ?_
  refine i_putF (q0 := 0) (ws2 := [(h0, ob 1 [.int (nI 0), .ref q1, .ref q2, .ref q3, .ref q4, .int (nI 0), .int (nI 999), .int (nI 0), .int (nI 0), .ref q5, .null, .null]), (q1, aI ct 60 (fun _ => 0)), (q2, aI ct 60 (fun _ => 0)), (q3, aI ct 60 (fun _ => 0)), (q4, aI ct 60 (fun _ => 0)), (q5, aI ct 100 (fun _ => 0))]) dX1_init_68 ff_X1_40 rfl rfl rfl (Nat.le_of_ble_eq_true rfl) rfl ?_
  refine i_al dX1_init_71 rfl ?_
  refine i_k dX1_init_72 ?_
  refine i_newI dX1_init_74 bt733 (by decide) (Nat.le_of_ble_eq_true rfl) (Nat.le_of_ble_eq_true rfl) (fun q6 => ?_)
  refine i_ws (ws2 := [(h0, ob 1 [.int (nI 0), .ref q1, .ref q2, .ref q3, .ref q4, .int (nI 0), .int (nI 999), .int (nI 0), .int (nI 0), .ref q5, .null, .null]), (q1, aI ct 60 (fun _ => 0)), (q2, aI ct 60 (fun _ => 0)), (q3, aI ct 60 (fun _ => 0)), (q4, aI ct 60 (fun _ => 0)), (q5, aI ct 100 (fun _ => 0)), (q6, aI ct 8 (fun _ => 0))]) rfl ?_
  refine i_putF (q0 := 0) (ws2 := [(h0, ob 1 [.int (nI 0), .ref q1, .ref q2, .ref q3, .ref q4, .int (nI 0), .int (nI 999), .int (nI 0), .int (nI 0), .ref q5, .ref q6, .null]), (q1, aI ct 60 (fun _ => 0)), (q2, aI ct 60 (fun _ => 0)), (q3, aI ct 60 (fun _ => 0)), (q4, aI ct 60 (fun _ => 0)), (q5, aI ct 100 (fun _ => 0)), (q6, aI ct 8 (fun _ => 0))]) dX1_init_76 ff_X1_43 rfl rfl rfl (Nat.le_of_ble_eq_true rfl) rfl ?_
  refine i_al dX1_init_79 rfl ?_
  refine i_k dX1_init_80 ?_
  refine i_newI dX1_init_82 bt733 (by decide) (Nat.le_of_ble_eq_true rfl) (Nat.le_of_ble_eq_true rfl) (fun q7 => ?_)
  refine i_ws (ws2 := [(h0, ob 1 [.int (nI 0), .ref q1, .ref q2, .ref q3, .ref q4, .int (nI 0), .int (nI 999), .int (nI 0), .int (nI 0), .ref q5, .ref q6, .null]), (q1, aI ct 60 (fun _ => 0)), (q2, aI ct 60 (fun _ => 0)), (q3, aI ct 60 (fun _ => 0)), (q4, aI ct 60 (fun _ => 0)), (q5, aI ct 100 (fun _ => 0)), (q6, aI ct 8 (fun _ => 0)), (q7, aI ct 8 (fun _ => 0))]) rfl ?_
  refine i_putF (q0 := 0) (ws2 := [(h0, ob 1 [.int (nI 0), .ref q1, .ref q2, .ref q3, .ref q4, .int (nI 0), .int (nI 999), .int (nI 0), .int (nI 0), .ref q5, .ref q6, .ref q7]), (q1, aI ct 60 (fun _ => 0)), (q2, aI ct 60 (fun _ => 0)), (q3, aI ct 60 (fun _ => 0)), (q4, aI ct 60 (fun _ => 0)), (q5, aI ct 100 (fun _ => 0)), (q6, aI ct 8 (fun _ => 0)), (q7, aI ct 8 (fun _ => 0))]) dX1_init_84 ff_X1_46 rfl rfl rfl (Nat.le_of_ble_eq_true rfl) rfl ?_
  exact i_ret dX1_init_87 rfl rfl ⟨fun i => [q1, q2, q3, q4, q5, q6, q7].getD i 0, rfl⟩
def rmX2 : Room := { frames := 1, cells := 5, slots := 55, locals := 20 }
def qX2 (ct : Nat → ClassId) (h0 : Nat) (u : Nat → Nat) : va_W := [(h0, ob 2 [.ref (u 0), .ref (u 1), .ref (u 2), .ref (u 3), .ref (u 4), .int (nI 0), .int (-1), .int (nI 0), .int (nI 0)]), ((u 0), aI ct 8 (upd (upd (upd (upd (upd (upd (upd (upd (fun _ => 0) 0 (-1)) 1 (-1)) 2 (-1)) 3 (-1)) 4 (-1)) 5 (-1)) 6 (-1)) 7 (-1))), ((u 1), aL ct 8 (fun _ => 0)), ((u 2), aI ct 13 (fun _ => 0)), ((u 3), aI ct 13 (fun _ => 0)), ((u 4), aL ct 13 (fun _ => 0))]
set_option maxRecDepth 100000 in
set_option maxHeartbeats 4000000 in
theorem ci_X2 : InitOK mX2_init rmX2 2 [.null, .null, .null, .null, .null, .int 0, .int 0, .int 0, .int 0] (fun ct h0 w => ∃ u : Nat → Nat, w = qX2 ct h0 u) := by
  refine init_of (by decide +kernel) rfl (by decide) rfl rfl (fun D ct h0 => ?_)
  show IW mX2_init rmX2 D ct 0 [some (.ref h0), none] [] [(h0, ob 2 [.null, .null, .null, .null, .null, .int 0, .int 0, .int 0, .int 0])] 0 0 _
  refine i_al dX2_init_0 rfl ?_
  refine i_obj dX2_init_1 ⟨bt734, bt729, bt730⟩ ⟨by decide, by decide⟩ (by decide) ?_
  refine i_al dX2_init_4 rfl ?_
  refine i_k dX2_init_5 ?_
  refine i_newI dX2_init_7 bt733 (by decide) (Nat.le_of_ble_eq_true rfl) (Nat.le_of_ble_eq_true rfl) (fun q1 => ?_)
  refine i_ws (ws2 := [(h0, ob 2 [.null, .null, .null, .null, .null, .int 0, .int 0, .int 0, .int 0]), (q1, aI ct 8 (fun _ => 0))]) rfl ?_
  refine i_putF (q0 := 0) (ws2 := [(h0, ob 2 [.ref q1, .null, .null, .null, .null, .int 0, .int 0, .int 0, .int 0]), (q1, aI ct 8 (fun _ => 0))]) dX2_init_9 ff_X2_9 rfl rfl rfl (Nat.le_of_ble_eq_true rfl) rfl ?_
  refine i_al dX2_init_12 rfl ?_
  refine i_k dX2_init_13 ?_
  refine i_newL dX2_init_15 bt731 (by decide) (Nat.le_of_ble_eq_true rfl) (Nat.le_of_ble_eq_true rfl) (fun q2 => ?_)
  refine i_ws (ws2 := [(h0, ob 2 [.ref q1, .null, .null, .null, .null, .int 0, .int 0, .int 0, .int 0]), (q1, aI ct 8 (fun _ => 0)), (q2, aL ct 8 (fun _ => 0))]) rfl ?_
  refine i_putF (q0 := 0) (ws2 := [(h0, ob 2 [.ref q1, .ref q2, .null, .null, .null, .int 0, .int 0, .int 0, .int 0]), (q1, aI ct 8 (fun _ => 0)), (q2, aL ct 8 (fun _ => 0))]) dX2_init_17 ff_X2_15 rfl rfl rfl (Nat.le_of_ble_eq_true rfl) rfl ?_
  refine i_al dX2_init_20 rfl ?_
  refine i_k dX2_init_21 ?_
  refine i_newI dX2_init_23 bt733 (by decide) (Nat.le_of_ble_eq_true rfl) (Nat.le_of_ble_eq_true rfl) (fun q3 => ?_)
  refine i_ws (ws2 := [(h0, ob 2 [.ref q1, .ref q2, .null, .null, .null, .int 0, .int 0, .int 0, .int 0]), (q1, aI ct 8 (fun _ => 0)), (q2, aL ct 8 (fun _ => 0)), (q3, aI ct 13 (fun _ => 0))]) rfl ?_
  refine i_putF (q0 := 0) (ws2 := [(h0, ob 2 [.ref q1, .ref q2, .ref q3, .null, .null, .int 0, .int 0, .int 0, .int 0]), (q1, aI ct 8 (fun _ => 0)), (q2, aL ct 8 (fun _ => 0)), (q3, aI ct 13 (fun _ => 0))]) dX2_init_25 ff_X2_19 rfl rfl rfl (Nat.le_of_ble_eq_true rfl) rfl ?_
  refine i_al dX2_init_28 rfl ?_
  refine i_k dX2_init_29 ?_
  refine i_newI dX2_init_31 bt733 (by decide) (Nat.le_of_ble_eq_true rfl) (Nat.le_of_ble_eq_true rfl) (fun q4 => ?_)
  refine i_ws (ws2 := [(h0, ob 2 [.ref q1, .ref q2, .ref q3, .null, .null, .int 0, .int 0, .int 0, .int 0]), (q1, aI ct 8 (fun _ => 0)), (q2, aL ct 8 (fun _ => 0)), (q3, aI ct 13 (fun _ => 0)), (q4, aI ct 13 (fun _ => 0))]) rfl ?_
  refine i_putF (q0 := 0) (ws2 := [(h0, ob 2 [.ref q1, .ref q2, .ref q3, .ref q4, .null, .int 0, .int 0, .int 0, .int 0]), (q1, aI ct 8 (fun _ => 0)), (q2, aL ct 8 (fun _ => 0)), (q3, aI ct 13 (fun _ => 0)), (q4, aI ct 13 (fun _ => 0))]) dX2_init_33 ff_X2_22 rfl rfl rfl (Nat.le_of_ble_eq_true rfl) rfl ?_
  refine i_al dX2_init_36 rfl ?_
  refine i_k dX2_init_37 ?_
  refine i_newL dX2_init_39 bt731 (by decide) (Nat.le_of_ble_eq_true rfl) (Nat.le_of_ble_eq_true rfl) (fun q5 => ?_)
  refine i_ws (ws2 := [(h0, ob 2 [.ref q1, .ref q2, .ref q3, .ref q4, .null, .int 0, .int 0, .int 0, .int 0]), (q1, aI ct 8 (fun _ => 0)), (q2, aL ct 8 (fun _ => 0)), (q3, aI ct 13 (fun _ => 0)), (q4, aI ct 13 (fun _ => 0)), (q5, aL ct 13 (fun _ => 0))]) rfl ?_
  refine i_putF (q0 := 0) (ws2 := [(h0, ob 2 [.ref q1, .ref q2, .ref q3, .ref q4, .ref q5, .int 0, .int 0, .int 0, .int 0]), (q1, aI ct 8 (fun _ => 0)), (q2, aL ct 8 (fun _ => 0)), (q3, aI ct 13 (fun _ => 0)), (q4, aI ct 13 (fun _ => 0)), (q5, aL ct 13 (fun _ => 0))]) dX2_init_41 ff_X2_25 rfl rfl rfl (Nat.le_of_ble_eq_true rfl) rfl ?_
  refine i_al dX2_init_44 rfl ?_
  refine i_k dX2_init_45 ?_
  refine i_put (q0 := 0) (ws2 := [(h0, ob 2 [.ref q1, .ref q2, .ref q3, .ref q4, .ref q5, .int (nI 0), .int 0, .int 0, .int 0]), (q1, aI ct 8 (fun _ => 0)), (q2, aL ct 8 (fun _ => 0)), (q3, aI ct 13 (fun _ => 0)), (q4, aI ct 13 (fun _ => 0)), (q5, aL ct 13 (fun _ => 0))]) dX2_init_46 fp_X2_28 rfl rfl rfl (Nat.le_of_ble_eq_true rfl) rfl ?_
  refine i_al dX2_init_49 rfl ?_
  refine i_k dX2_init_50 ?_
  refine i_put (q0 := 0) (ws2 := [(h0, ob 2 [.ref q1, .ref q2, .ref q3, .ref q4, .ref q5, .int (nI 0), .int (-1), .int 0, .int 0]), (q1, aI ct 8 (fun _ => 0)), (q2, aL ct 8 (fun _ => 0)), (q3, aI ct 13 (fun _ => 0)), (q4, aI ct 13 (fun _ => 0)), (q5, aL ct 13 (fun _ => 0))]) dX2_init_51 fp_X2_32 rfl rfl rfl (Nat.le_of_ble_eq_true rfl) rfl ?_
  refine i_al dX2_init_54 rfl ?_
  refine i_k dX2_init_55 ?_
  refine i_put (q0 := 0) (ws2 := [(h0, ob 2 [.ref q1, .ref q2, .ref q3, .ref q4, .ref q5, .int (nI 0), .int (-1), .int (nI 0), .int 0]), (q1, aI ct 8 (fun _ => 0)), (q2, aL ct 8 (fun _ => 0)), (q3, aI ct 13 (fun _ => 0)), (q4, aI ct 13 (fun _ => 0)), (q5, aL ct 13 (fun _ => 0))]) dX2_init_56 fp_X2_35 rfl rfl rfl (Nat.le_of_ble_eq_true rfl) rfl ?_
  refine i_al dX2_init_59 rfl ?_
  refine i_k dX2_init_60 ?_
  refine i_put (q0 := 0) (ws2 := [(h0, ob 2 [.ref q1, .ref q2, .ref q3, .ref q4, .ref q5, .int (nI 0), .int (-1), .int (nI 0), .int (nI 0)]), (q1, aI ct 8 (fun _ => 0)), (q2, aL ct 8 (fun _ => 0)), (q3, aI ct 13 (fun _ => 0)), (q4, aI ct 13 (fun _ => 0)), (q5, aL ct 13 (fun _ => 0))]) dX2_init_61 fp_X2_38 rfl rfl rfl (Nat.le_of_ble_eq_true rfl) rfl ?_
  refine i_k dX2_init_64 ?_
  refine i_is (ls2 := [some (.ref h0), some (.int (nI 0))]) dX2_init_65 rfl ?_
  refine i_il dX2_init_66 rfl ?_
  refine i_k dX2_init_67 ?_
  refine i_geN dX2_init_69 (by decide) (by decide) (by decide) ?_
  refine i_al dX2_init_72 rfl ?_
  refine i_get (q0 := 0) dX2_init_73 fl_X2_9 rfl rfl ?_
  refine i_il dX2_init_76 rfl ?_
  refine i_k dX2_init_77 ?_
  refine i_iast (q0 := 1) (ws2 := [(h0, ob 2 [.ref q1, .ref q2, .ref q3, .ref q4, .ref q5, .int (nI 0), .int (-1), .int (nI 0), .int (nI 0)]), (q1, aI ct 8 (upd (fun _ => 0) 0 (-1))), (q2, aL ct 8 (fun _ => 0)), (q3, aI ct 13 (fun _ => 0)), (q4, aI ct 13 (fun _ => 0)), (q5, aL ct 13 (fun _ => 0))]) dX2_init_78 rfl (by decide) (by decide) rfl ?_
  refine i_iinc (a := 0) (b := 1) (ls2 := [some (.ref h0), some (.int (nI 1))]) dX2_init_79 rfl rfl ?_
  refine i_goto dX2_init_82 ?_
  refine i_il dX2_init_66 rfl ?_
  refine i_k dX2_init_67 ?_
  refine i_geN dX2_init_69 (by decide) (by decide) (by decide) ?_
  refine i_al dX2_init_72 rfl ?_
  refine i_get (q0 := 0) dX2_init_73 fl_X2_9 rfl rfl ?_
  refine i_il dX2_init_76 rfl ?_
  refine i_k dX2_init_77 ?_
  refine i_iast (q0 := 1) (ws2 := [(h0, ob 2 [.ref q1, .ref q2, .ref q3, .ref q4, .ref q5, .int (nI 0), .int (-1), .int (nI 0), .int (nI 0)]), (q1, aI ct 8 (upd (upd (fun _ => 0) 0 (-1)) 1 (-1))), (q2, aL ct 8 (fun _ => 0)), (q3, aI ct 13 (fun _ => 0)), (q4, aI ct 13 (fun _ => 0)), (q5, aL ct 13 (fun _ => 0))]) dX2_init_78 rfl (by decide) (by decide) rfl ?_
  refine i_iinc (a := 1) (b := 1) (ls2 := [some (.ref h0), some (.int (nI 2))]) dX2_init_79 rfl rfl ?_
  refine i_goto dX2_init_82 ?_
  refine i_il dX2_init_66 rfl ?_
  refine i_k dX2_init_67 ?_
  refine i_geN dX2_init_69 (by decide) (by decide) (by decide) ?_
  refine i_al dX2_init_72 rfl ?_
  refine i_get (q0 := 0) dX2_init_73 fl_X2_9 rfl rfl ?_
  refine i_il dX2_init_76 rfl ?_
  refine i_k dX2_init_77 ?_
  refine i_iast (q0 := 1) (ws2 := [(h0, ob 2 [.ref q1, .ref q2, .ref q3, .ref q4, .ref q5, .int (nI 0), .int (-1), .int (nI 0), .int (nI 0)]), (q1, aI ct 8 (upd (upd (upd (fun _ => 0) 0 (-1)) 1 (-1)) 2 (-1))), (q2, aL ct 8 (fun _ => 0)), (q3, aI ct 13 (fun _ => 0)), (q4, aI ct 13 (fun _ => 0)), (q5, aL ct 13 (fun _ => 0))]) dX2_init_78 rfl (by decide) (by decide) rfl ?_
  refine i_iinc (a := 2) (b := 1) (ls2 := [some (.ref h0), some (.int (nI 3))]) dX2_init_79 rfl rfl ?_
  refine i_goto dX2_init_82 ?_
  refine i_il dX2_init_66 rfl ?_
  refine i_k dX2_init_67 ?_
  refine i_geN dX2_init_69 (by decide) (by decide) (by decide) ?_
  refine i_al dX2_init_72 rfl ?_
  refine i_get (q0 := 0) dX2_init_73 fl_X2_9 rfl rfl ?_
  refine i_il dX2_init_76 rfl ?_
  refine i_k dX2_init_77 ?_
  refine i_iast (q0 := 1) (ws2 := [(h0, ob 2 [.ref q1, .ref q2, .ref q3, .ref q4, .ref q5, .int (nI 0), .int (-1), .int (nI 0), .int (nI 0)]), (q1, aI ct 8 (upd (upd (upd (upd (fun _ => 0) 0 (-1)) 1 (-1)) 2 (-1)) 3 (-1))), (q2, aL ct 8 (fun _ => 0)), (q3, aI ct 13 (fun _ => 0)), (q4, aI ct 13 (fun _ => 0)), (q5, aL ct 13 (fun _ => 0))]) dX2_init_78 rfl (by decide) (by decide) rfl ?_
  refine i_iinc (a := 3) (b := 1) (ls2 := [some (.ref h0), some (.int (nI 4))]) dX2_init_79 rfl rfl ?_
  refine i_goto dX2_init_82 ?_
  refine i_il dX2_init_66 rfl ?_
  refine i_k dX2_init_67 ?_
  refine i_geN dX2_init_69 (by decide) (by decide) (by decide) ?_
  refine i_al dX2_init_72 rfl ?_
  refine i_get (q0 := 0) dX2_init_73 fl_X2_9 rfl rfl ?_
  refine i_il dX2_init_76 rfl ?_
  refine i_k dX2_init_77 ?_
  refine i_iast (q0 := 1) (ws2 := [(h0, ob 2 [.ref q1, .ref q2, .ref q3, .ref q4, .ref q5, .int (nI 0), .int (-1), .int (nI 0), .int (nI 0)]), (q1, aI ct 8 (upd (upd (upd (upd (upd (fun _ => 0) 0 (-1)) 1 (-1)) 2 (-1)) 3 (-1)) 4 (-1))), (q2, aL ct 8 (fun _ => 0)), (q3, aI ct 13 (fun _ => 0)), (q4, aI ct 13 (fun _ => 0)), (q5, aL ct 13 (fun _ => 0))]) dX2_init_78 rfl (by decide) (by decide) rfl ?_
  refine i_iinc (a := 4) (b := 1) (ls2 := [some (.ref h0), some (.int (nI 5))]) dX2_init_79 rfl rfl ?_
  refine i_goto dX2_init_82 ?_
  refine i_il dX2_init_66 rfl ?_
  refine i_k dX2_init_67 ?_
  refine i_geN dX2_init_69 (by decide) (by decide) (by decide) ?_
  refine i_al dX2_init_72 rfl ?_
  refine i_get (q0 := 0) dX2_init_73 fl_X2_9 rfl rfl ?_
  refine i_il dX2_init_76 rfl ?_
  refine i_k dX2_init_77 ?_
  refine i_iast (q0 := 1) (ws2 := [(h0, ob 2 [.ref q1, .ref q2, .ref q3, .ref q4, .ref q5, .int (nI 0), .int (-1), .int (nI 0), .int (nI 0)]), (q1, aI ct 8 (upd (upd (upd (upd (upd (upd (fun _ => 0) 0 (-1)) 1 (-1)) 2 (-1)) 3 (-1)) 4 (-1)) 5 (-1))), (q2, aL ct 8 (fun _ => 0)), (q3, aI ct 13 (fun _ => 0)), (q4, aI ct 13 (fun _ => 0)), (q5, aL ct 13 (fun _ => 0))]) dX2_init_78 rfl (by decide) (by decide) rfl ?_
  refine i_iinc (a := 5) (b := 1) (ls2 := [some (.ref h0), some (.int (nI 6))]) dX2_init_79 rfl rfl ?_
  refine i_goto dX2_init_82 ?_
  refine i_il dX2_init_66 rfl ?_
  refine i_k dX2_init_67 ?_
  refine i_geN dX2_init_69 (by decide) (by decide) (by decide) ?_
  refine i_al dX2_init_72 rfl ?_
  refine i_get (q0 := 0) dX2_init_73 fl_X2_9 rfl rfl ?_
  refine i_il dX2_init_76 rfl ?_
  refine i_k dX2_init_77 ?_
  refine i_iast (q0 := 1) (ws2 := [(h0, ob 2 [.ref q1, .ref q2, .ref q3, .ref q4, .ref q5, .int (nI 0), .int (-1), .int (nI 0), .int (nI 0)]), (q1, aI ct 8 (upd (upd (upd (upd (upd (upd (upd (fun _ => 0) 0 (-1)) 1 (-1)) 2 (-1)) 3 (-1)) 4 (-1)) 5 (-1)) 6 (-1))), (q2, aL ct 8 (fun _ => 0)), (q3, aI ct 13 (fun _ => 0)), (q4, aI ct 13 (fun _ => 0)), (q5, aL ct 13 (fun _ => 0))]) dX2_init_78 rfl (by decide) (by decide) rfl ?_
  refine i_iinc (a := 6) (b := 1) (ls2 := [some (.ref h0), some (.int (nI 7))]) dX2_init_79 rfl rfl ?_
  refine i_goto dX2_init_82 ?_
  refine i_il dX2_init_66 rfl ?_
  refine i_k dX2_init_67 ?_
  refine i_geN dX2_init_69 (by decide) (by decide) (by decide) ?_
  refine i_al dX2_init_72 rfl ?_
  refine i_get (q0 := 0) dX2_init_73 fl_X2_9 rfl rfl ?_
  refine i_il dX2_init_76 rfl ?_
  refine i_k dX2_init_77 ?_
  refine i_iast (q0 := 1) (ws2 := [(h0, ob 2 [.ref q1, .ref q2, .ref q3, .ref q4, .ref q5, .int (nI 0), .int (-1), .int (nI 0), .int (nI 0)]), (q1, aI ct 8 (upd (upd (upd (upd (upd (upd (upd (upd (fun _ => 0) 0 (-1)) 1 (-1)) 2 (-1)) 3 (-1)) 4 (-1)) 5 (-1)) 6 (-1)) 7 (-1))), (q2, aL ct 8 (fun _ => 0)), (q3, aI ct 13 (fun _ => 0)), (q4, aI ct 13 (fun _ => 0)), (q5, aL ct 13 (fun _ => 0))]) dX2_init_78 rfl (by decide) (by decide) rfl ?_
  refine i_iinc (a := 7) (b := 1) (ls2 := [some (.ref h0), some (.int (nI 8))]) dX2_init_79 rfl rfl ?_
  refine i_goto dX2_init_82 ?_
  refine i_il dX2_init_66 rfl ?_
  refine i_k dX2_init_67 ?_
  refine i_geY dX2_init_69 (by decide) (by decide) (by decide) ?_
  exact i_ret dX2_init_85 rfl rfl ⟨fun i => [q1, q2, q3, q4, q5].getD i 0, rfl⟩
def rmX3 : Room := { frames := 1, cells := 8, slots := 100, locals := 20 }
def qX3 (ct : Nat → ClassId) (h0 : Nat) (u : Nat → Nat) : va_W := [(h0, ob 3 [.ref (u 0), .int (nI 0), .int (nI 0), .ref (u 1), .ref (u 2), .ref (u 3), .int (nI 0), .ref (u 4), .ref (u 5), .ref (u 6), .ref (u 7)]), ((u 0), aI ct 60 (fun _ => 0)), ((u 1), aI ct 8 (fun _ => 0)), ((u 2), aI ct 8 (fun _ => 0)), ((u 3), aI ct 8 (fun _ => 0)), ((u 4), aI ct 4 (fun _ => 0)), ((u 5), aI ct 4 (fun _ => 0)), ((u 6), aI ct 4 (fun _ => 0)), ((u 7), aI ct 4 (fun _ => 0))]
set_option maxRecDepth 100000 in
set_option maxHeartbeats 4000000 in
theorem ci_X3 : InitOK mX3_init rmX3 3 [.null, .int 0, .int 0, .null, .null, .null, .int 0, .null, .null, .null, .null] (fun ct h0 w => ∃ u : Nat → Nat, w = qX3 ct h0 u) := by
  refine init_of (by decide +kernel) rfl (by decide) rfl rfl (fun D ct h0 => ?_)
  show IW mX3_init rmX3 D ct 0 [some (.ref h0)] [] [(h0, ob 3 [.null, .int 0, .int 0, .null, .null, .null, .int 0, .null, .null, .null, .null])] 0 0 _
  refine i_al dX3_init_0 rfl ?_
  refine i_obj dX3_init_1 ⟨bt735, bt729, bt730⟩ ⟨by decide, by decide⟩ (by decide) ?_
  refine i_al dX3_init_4 rfl ?_
  refine i_k dX3_init_5 ?_
  refine i_newI dX3_init_7 bt733 (by decide) (Nat.le_of_ble_eq_true rfl) (Nat.le_of_ble_eq_true rfl) (fun q1 => ?_)
  refine i_ws (ws2 := [(h0, ob 3 [.null, .int 0, .int 0, .null, .null, .null, .int 0, .null, .null, .null, .null]), (q1, aI ct 60 (fun _ => 0))]) rfl ?_
  refine i_putF (q0 := 0) (ws2 := [(h0, ob 3 [.ref q1, .int 0, .int 0, .null, .null, .null, .int 0, .null, .null, .null, .null]), (q1, aI ct 60 (fun _ => 0))]) dX3_init_9 ff_X3_9 rfl rfl rfl (Nat.le_of_ble_eq_true rfl) rfl ?_
  refine i_al dX3_init_12 rfl ?_
  refine i_k dX3_init_13 ?_
  refine i_put (q0 := 0) (ws2 := [(h0, ob 3 [.ref q1, .int (nI 0), .int 0, .null, .null, .null, .int 0, .null, .null, .null, .null]), (q1, aI ct 60 (fun _ => 0))]) dX3_init_14 fp_X3_15 rfl rfl rfl (Nat.le_of_ble_eq_true rfl) rfl ?_
  refine i_al dX3_init_17 rfl ?_
  refine i_k dX3_init_18 ?_
  refine i_put (q0 := 0) (ws2 := [(h0, ob 3 [.ref q1, .int (nI 0), .int (nI 0), .null, .null, .null, .int 0, .null, .null, .null, .null]), (q1, aI ct 60 (fun _ => 0))]) dX3_init_19 fp_X3_19 rfl rfl rfl (Nat.le_of_ble_eq_true rfl) rfl ?_
  refine i_al dX3_init_22 rfl ?_
  refine i_k dX3_init_23 ?_
  refine i_newI dX3_init_25 bt733 (by decide) (Nat.le_of_ble_eq_true rfl) (Nat.le_of_ble_eq_true rfl) (fun q2 => ?_)
  refine i_ws (ws2 := [(h0, ob 3 [.ref q1, .int (nI 0), .int (nI 0), .null, .null, .null, .int 0, .null, .null, .null, .null]), (q1, aI ct 60 (fun _ => 0)), (q2, aI ct 8 (fun _ => 0))]) rfl ?_
  refine i_putF (q0 := 0) (ws2 := [(h0, ob 3 [.ref q1, .int (nI 0), .int (nI 0), .ref q2, .null, .null, .int 0, .null, .null, .null, .null]), (q1, aI ct 60 (fun _ => 0)), (q2, aI ct 8 (fun _ => 0))]) dX3_init_27 ff_X3_22 rfl rfl rfl (Nat.le_of_ble_eq_true rfl) rfl ?_
  refine i_al dX3_init_30 rfl ?_
  refine i_k dX3_init_31 ?_
  refine i_newI dX3_init_33 bt733 (by decide) (Nat.le_of_ble_eq_true rfl) (Nat.le_of_ble_eq_true rfl) (fun q3 => ?_)
  refine i_ws (ws2 := [(h0, ob 3 [.ref q1, .int (nI 0), .int (nI 0), .ref q2, .null, .null, .int 0, .null, .null, .null, .null]), (q1, aI ct 60 (fun _ => 0)), (q2, aI ct 8 (fun _ => 0)), (q3, aI ct 8 (fun _ => 0))]) rfl ?_
  refine i_putF (q0 := 0) (ws2 := [(h0, ob 3 [.ref q1, .int (nI 0), .int (nI 0), .ref q2, .ref q3, .null, .int 0, .null, .null, .null, .null]), (q1, aI ct 60 (fun _ => 0)), (q2, aI ct 8 (fun _ => 0)), (q3, aI ct 8 (fun _ => 0))]) dX3_init_35 ff_X3_25 rfl rfl rfl (Nat.le_of_ble_eq_true rfl) rfl ?_
  refine i_al dX3_init_38 rfl ?_
  refine i_k dX3_init_39 ?_
  refine i_newI dX3_init_41 bt733 (by decide) (Nat.le_of_ble_eq_true rfl) (Nat.le_of_ble_eq_true rfl) (fun q4 => ?_)
  refine i_ws (ws2 := [(h0, ob 3 [.ref q1, .int (nI 0), .int (nI 0), .ref q2, .ref q3, .null, .int 0, .null, .null, .null, .null]), (q1, aI ct 60 (fun _ => 0)), (q2, aI ct 8 (fun _ => 0)), (q3, aI ct 8 (fun _ => 0)), (q4, aI ct 8 (fun _ => 0))]) rfl ?_
  refine i_putF (q0 := 0) (ws2 := [(h0, ob 3 [.ref q1, .int (nI 0), .int (nI 0), .ref q2, .ref q3, .ref q4, .int 0, .null, .null, .null, .null]), (q1, aI ct 60 (fun _ => 0)), (q2, aI ct 8 (fun _ => 0)), (q3, aI ct 8 (fun _ => 0)), (q4, aI ct 8 (fun _ => 0))]) dX3_init_43 ff_X3_28 rfl rfl rfl (Nat.le_of_ble_eq_true rfl) rfl ?_
  refine i_al dX3_init_46 rfl ?_
  refine i_k dX3_init_47 ?_
  refine i_put (q0 := 0) (ws2 := [(h0, ob 3 [.ref q1, .int (nI 0), .int (nI 0), .ref q2, .ref q3, .ref q4, .int (nI 0), .null, .null, .null, .null]), (q1, aI ct 60 (fun _ => 0)), (q2, aI ct 8 (fun _ => 0)), (q3, aI ct 8 (fun _ => 0)), (q4, aI ct 8 (fun _ => 0))]) dX3_init_48 fp_X3_31 rfl rfl rfl (Nat.le_of_ble_eq_true rfl) rfl ?_
  refine i_al dX3_init_51 rfl ?_
  refine i_k dX3_init_52 ?_
  refine i_newI dX3_init_53 bt733 (by decide) (Nat.le_of_ble_eq_true rfl) (Nat.le_of_ble_eq_true rfl) (fun q5 => ?_)
  refine i_ws (ws2 := [(h0, ob 3 [.ref q1, .int (nI 0), .int (nI 0), .ref q2, .ref q3, .ref q4, .int (nI 0), .null, .null, .null, .null]), (q1, aI ct 60 (fun _ => 0)), (q2, aI ct 8 (fun _ => 0)), (q3, aI ct 8 (fun _ => 0)), (q4, aI ct 8 (fun _ => 0)), (q5, aI ct 4 (fun _ => 0))]) rfl ?_
  refine i_putF (q0 := 0) (ws2 := [(h0, ob 3 [.ref q1, .int (nI 0), .int (nI 0), .ref q2, .ref q3, .ref q4, .int (nI 0), .ref q5, .null, .null, .null]), (q1, aI ct 60 (fun _ => 0)), (q2, aI ct 8 (fun _ => 0)), (q3, aI ct 8 (fun _ => 0)), (q4, aI ct 8 (fun _ => 0)), (q5, aI ct 4 (fun _ => 0))]) dX3_init_55 ff_X3_34 rfl rfl rfl (Nat.le_of_ble_eq_true rfl) rfl ?_
  refine i_al dX3_init_58 rfl ?_
  refine i_k dX3_init_59 ?_
  refine i_newI dX3_init_60 bt733 (by decide) (Nat.le_of_ble_eq_true rfl) (Nat.le_of_ble_eq_true rfl) (fun q6 => ?_)
  refine i_ws (ws2 := [(h0, ob 3 [.ref q1, .int (nI 0), .int (nI 0), .ref q2, .ref q3, .ref q4, .int (nI 0), .ref q5, .null, .null, .null]), (q1, aI ct 60 (fun _ => 0)), (q2, aI ct 8 (fun _ => 0)), (q3, aI ct 8 (fun _ => 0)), (q4, aI ct 8 (fun _ => 0)), (q5, aI ct 4 (fun _ => 0)), (q6, aI ct 4 (fun _ => 0))]) rfl ?_
  refine i_putF (q0 := 0) (ws2 := [(h0, ob 3 [.ref q1, .int (nI 0), .int (nI 0), .ref q2, .ref q3, .ref q4, .int (nI 0), .ref q5, .ref q6, .null, .null]), (q1, aI ct 60 (fun _ => 0)), (q2, aI ct 8 (fun _ => 0)), (q3, aI ct 8 (fun _ => 0)), (q4, aI ct 8 (fun _ => 0)), (q5, aI ct 4 (fun _ => 0)), (q6, aI ct 4 (fun _ => 0))]) dX3_init_62 ff_X3_37 rfl rfl rfl (Nat.le_of_ble_eq_true rfl) rfl ?_
  refine i_al dX3_init_65 rfl ?_
  refine i_k dX3_init_66 ?_
  refine i_newI dX3_init_67 bt733 (by decide) (Nat.le_of_ble_eq_true rfl) (Nat.le_of_ble_eq_true rfl) (fun q7 => ?_)
  refine i_ws (ws2 := [(h0, ob 3 [.ref q1, .int (nI 0), .int (nI 0), .ref q2, .ref q3, .ref q4, .int (nI 0), .ref q5, .ref q6, .null, .null]), (q1, aI ct 60 (fun _ => 0)), (q2, aI ct 8 (fun _ => 0)), (q3, aI ct 8 (fun _ => 0)), (q4, aI ct 8 (fun _ => 0)), (q5, aI ct 4 (fun _ => 0)), (q6, aI ct 4 (fun _ => 0)), (q7, aI ct 4 (fun _ => 0))]) rfl ?_
  refine i_putF (q0 := 0) (ws2 := [(h0, ob 3 [.ref q1, .int (nI 0), .int (nI 0), .ref q2, .ref q3, .ref q4, .int (nI 0), .ref q5, .ref q6, .ref q7, .null]), (q1, aI ct 60 (fun _ => 0)), (q2, aI ct 8 (fun _ => 0)), (q3, aI ct 8 (fun _ => 0)), (q4, aI ct 8 (fun _ => 0)), (q5, aI ct 4 (fun _ => 0)), (q6, aI ct 4 (fun _ => 0)), (q7, aI ct 4 (fun _ => 0))]) dX3_init_69 ff_X3_40 rfl rfl rfl (Nat.le_of_ble_eq_true rfl) rfl ?_
  refine i_al dX3_init_72 rfl ?_
  refine i_k dX3_init_73 ?_
  refine i_newI dX3_init_74 bt733 (by decide) (Nat.le_of_ble_eq_true rfl) (Nat.le_of_ble_eq_true rfl) (fun q8 => ?_)
  refine i_ws (ws2 := [(h0, ob 3 [.ref q1, .int (nI 0), .int (nI 0), .ref q2, .ref q3, .ref q4, .int (nI 0), .ref q5, .ref q6, .ref q7, .null]), (q1, aI ct 60 (fun _ => 0)), (q2, aI ct 8 (fun _ => 0)), (q3, aI ct 8 (fun _ => 0)), (q4, aI ct 8 (fun _ => 0)), (q5, aI ct 4 (fun _ => 0)), (q6, aI ct 4 (fun _ => 0)), (q7, aI ct 4 (fun _ => 0)), (q8, aI ct 4 (fun _ => 0))]) rfl ?_
  refine i_putF (q0 := 0) (ws2 := [(h0, ob 3 [.ref q1, .int (nI 0), .int (nI 0), .ref q2, .ref q3, .ref q4, .int (nI 0), .ref q5, .ref q6, .ref q7, .ref q8]), (q1, aI ct 60 (fun _ => 0)), (q2, aI ct 8 (fun _ => 0)), (q3, aI ct 8 (fun _ => 0)), (q4, aI ct 8 (fun _ => 0)), (q5, aI ct 4 (fun _ => 0)), (q6, aI ct 4 (fun _ => 0)), (q7, aI ct 4 (fun _ => 0)), (q8, aI ct 4 (fun _ => 0))]) dX3_init_76 ff_X3_43 rfl rfl rfl (Nat.le_of_ble_eq_true rfl) rfl ?_
  exact i_ret dX3_init_79 rfl rfl ⟨fun i => [q1, q2, q3, q4, q5, q6, q7, q8].getD i 0, rfl⟩
def rmX4 : Room := { frames := 1, cells := 1, slots := 60, locals := 20 }
def qX4 (ct : Nat → ClassId) (h0 : Nat) (u : Nat → Nat) : va_W := [(h0, ob 4 [.int (nI 1), .int (nI 0), .int (nI 0), .ref (u 0)]), ((u 0), aI ct 60 (fun _ => 0))]
set_option maxRecDepth 100000 in
set_option maxHeartbeats 4000000 in
theorem ci_X4 : InitOK mX4_init rmX4 4 [.int 0, .int 0, .int 0, .null] (fun ct h0 w => ∃ u : Nat → Nat, w = qX4 ct h0 u) := by
  refine init_of (by decide +kernel) rfl (by decide) rfl rfl (fun D ct h0 => ?_)
  show IW mX4_init rmX4 D ct 0 [some (.ref h0)] [] [(h0, ob 4 [.int 0, .int 0, .int 0, .null])] 0 0 _
  refine i_al dX4_init_0 rfl ?_
  refine i_obj dX4_init_1 ⟨bt737, bt729, bt730⟩ ⟨by decide, by decide⟩ (by decide) ?_
  refine i_al dX4_init_4 rfl ?_
  refine i_k dX4_init_5 ?_
  refine i_put (q0 := 0) (ws2 := [(h0, ob 4 [.int (nI 1), .int 0, .int 0, .null])]) dX4_init_6 fp_X4_9 rfl rfl rfl (Nat.le_of_ble_eq_true rfl) rfl ?_
  refine i_al dX4_init_9 rfl ?_
  refine i_k dX4_init_10 ?_
  refine i_put (q0 := 0) (ws2 := [(h0, ob 4 [.int (nI 1), .int (nI 0), .int 0, .null])]) dX4_init_11 fp_X4_15 rfl rfl rfl (Nat.le_of_ble_eq_true rfl) rfl ?_
  refine i_al dX4_init_14 rfl ?_
  refine i_k dX4_init_15 ?_
  refine i_put (q0 := 0) (ws2 := [(h0, ob 4 [.int (nI 1), .int (nI 0), .int (nI 0), .null])]) dX4_init_16 fp_X4_19 rfl rfl rfl (Nat.le_of_ble_eq_true rfl) rfl ?_
  refine i_al dX4_init_19 rfl ?_
  refine i_k dX4_init_20 ?_
  refine i_newI dX4_init_22 bt733 (by decide) (Nat.le_of_ble_eq_true rfl) (Nat.le_of_ble_eq_true rfl) (fun q1 => ?_)
  refine i_ws (ws2 := [(h0, ob 4 [.int (nI 1), .int (nI 0), .int (nI 0), .null]), (q1, aI ct 60 (fun _ => 0))]) rfl ?_
  refine i_putF (q0 := 0) (ws2 := [(h0, ob 4 [.int (nI 1), .int (nI 0), .int (nI 0), .ref q1]), (q1, aI ct 60 (fun _ => 0))]) dX4_init_24 ff_X4_22 rfl rfl rfl (Nat.le_of_ble_eq_true rfl) rfl ?_
  exact i_ret dX4_init_27 rfl rfl ⟨fun i => [q1].getD i 0, rfl⟩
def rmX5 : Room := { frames := 1, cells := 5, slots := 376, locals := 20 }
def qX5 (ct : Nat → ClassId) (h0 : Nat) (u : Nat → Nat) : va_W := [(h0, ob 5 [.ref (u 0), .ref (u 1), .ref (u 2), .ref (u 3), .ref (u 4)]), ((u 0), aI ct 8 (upd (upd (upd (upd (upd (upd (upd (upd (fun _ => 0) 0 (nI 0)) 1 (nI 1)) 2 (nI 2)) 3 (nI 3)) 4 (nI 4)) 5 (nI 5)) 6 (nI 6)) 7 (nI 7))), ((u 1), aI ct 40 (fun _ => 0)), ((u 2), aI ct 64 (fun _ => 0)), ((u 3), aI ct 256 (fun _ => 0)), ((u 4), aI ct 8 (fun _ => 0))]
set_option maxRecDepth 100000 in
set_option maxHeartbeats 4000000 in
theorem ci_X5 : InitOK mX5_init rmX5 5 [.null, .null, .null, .null, .null] (fun ct h0 w => ∃ u : Nat → Nat, w = qX5 ct h0 u) := by
  refine init_of (by decide +kernel) rfl (by decide) rfl rfl (fun D ct h0 => ?_)
  show IW mX5_init rmX5 D ct 0 [some (.ref h0), none] [] [(h0, ob 5 [.null, .null, .null, .null, .null])] 0 0 _
  refine i_al dX5_init_0 rfl ?_
  refine i_obj dX5_init_1 ⟨bt738, bt729, bt730⟩ ⟨by decide, by decide⟩ (by decide) ?_
  refine i_al dX5_init_4 rfl ?_
  refine i_k dX5_init_5 ?_
  refine i_newI dX5_init_7 bt733 (by decide) (Nat.le_of_ble_eq_true rfl) (Nat.le_of_ble_eq_true rfl) (fun q1 => ?_)
  refine i_ws (ws2 := [(h0, ob 5 [.null, .null, .null, .null, .null]), (q1, aI ct 8 (fun _ => 0))]) rfl ?_
  refine i_putF (q0 := 0) (ws2 := [(h0, ob 5 [.ref q1, .null, .null, .null, .null]), (q1, aI ct 8 (fun _ => 0))]) dX5_init_9 ff_X5_9 rfl rfl rfl (Nat.le_of_ble_eq_true rfl) rfl ?_
  refine i_al dX5_init_12 rfl ?_
  refine i_k dX5_init_13 ?_
  refine i_newI dX5_init_15 bt733 (by decide) (Nat.le_of_ble_eq_true rfl) (Nat.le_of_ble_eq_true rfl) (fun q2 => ?_)
  refine i_ws (ws2 := [(h0, ob 5 [.ref q1, .null, .null, .null, .null]), (q1, aI ct 8 (fun _ => 0)), (q2, aI ct 40 (fun _ => 0))]) rfl ?_
  refine i_putF (q0 := 0) (ws2 := [(h0, ob 5 [.ref q1, .ref q2, .null, .null, .null]), (q1, aI ct 8 (fun _ => 0)), (q2, aI ct 40 (fun _ => 0))]) dX5_init_17 ff_X5_15 rfl rfl rfl (Nat.le_of_ble_eq_true rfl) rfl ?_
  refine i_al dX5_init_20 rfl ?_
  refine i_k dX5_init_21 ?_
  refine i_newI dX5_init_23 bt733 (by decide) (Nat.le_of_ble_eq_true rfl) (Nat.le_of_ble_eq_true rfl) (fun q3 => ?_)
  refine i_ws (ws2 := [(h0, ob 5 [.ref q1, .ref q2, .null, .null, .null]), (q1, aI ct 8 (fun _ => 0)), (q2, aI ct 40 (fun _ => 0)), (q3, aI ct 64 (fun _ => 0))]) rfl ?_
  refine i_putF (q0 := 0) (ws2 := [(h0, ob 5 [.ref q1, .ref q2, .ref q3, .null, .null]), (q1, aI ct 8 (fun _ => 0)), (q2, aI ct 40 (fun _ => 0)), (q3, aI ct 64 (fun _ => 0))]) dX5_init_25 ff_X5_18 rfl rfl rfl (Nat.le_of_ble_eq_true rfl) rfl ?_
  refine i_al dX5_init_28 rfl ?_
  refine i_k dX5_init_29 ?_
  refine i_newI dX5_init_32 bt733 (by decide) (Nat.le_of_ble_eq_true rfl) (Nat.le_of_ble_eq_true rfl) (fun q4 => ?_)
  refine i_ws (ws2 := [(h0, ob 5 [.ref q1, .ref q2, .ref q3, .null, .null]), (q1, aI ct 8 (fun _ => 0)), (q2, aI ct 40 (fun _ => 0)), (q3, aI ct 64 (fun _ => 0)), (q4, aI ct 256 (fun _ => 0))]) rfl ?_
  refine i_putF (q0 := 0) (ws2 := [(h0, ob 5 [.ref q1, .ref q2, .ref q3, .ref q4, .null]), (q1, aI ct 8 (fun _ => 0)), (q2, aI ct 40 (fun _ => 0)), (q3, aI ct 64 (fun _ => 0)), (q4, aI ct 256 (fun _ => 0))]) dX5_init_34 ff_X5_21 rfl rfl rfl (Nat.le_of_ble_eq_true rfl) rfl ?_
  refine i_al dX5_init_37 rfl ?_
  refine i_k dX5_init_38 ?_
  refine i_newI dX5_init_40 bt733 (by decide) (Nat.le_of_ble_eq_true rfl) (Nat.le_of_ble_eq_true rfl) (fun q5 => ?_)
  refine i_ws (ws2 := [(h0, ob 5 [.ref q1, .ref q2, .ref q3, .ref q4, .null]), (q1, aI ct 8 (fun _ => 0)), (q2, aI ct 40 (fun _ => 0)), (q3, aI ct 64 (fun _ => 0)), (q4, aI ct 256 (fun _ => 0)), (q5, aI ct 8 (fun _ => 0))]) rfl ?_
  refine i_putF (q0 := 0) (ws2 := [(h0, ob 5 [.ref q1, .ref q2, .ref q3, .ref q4, .ref q5]), (q1, aI ct 8 (fun _ => 0)), (q2, aI ct 40 (fun _ => 0)), (q3, aI ct 64 (fun _ => 0)), (q4, aI ct 256 (fun _ => 0)), (q5, aI ct 8 (fun _ => 0))]) dX5_init_42 ff_X5_24 rfl rfl rfl (Nat.le_of_ble_eq_true rfl) rfl ?_
  refine i_k dX5_init_45 ?_
  refine i_is (ls2 := [some (.ref h0), some (.int (nI 0))]) dX5_init_46 rfl ?_
  refine i_il dX5_init_47 rfl ?_
  refine i_k dX5_init_48 ?_
  refine i_geN dX5_init_50 (by decide) (by decide) (by decide) ?_
  refine i_al dX5_init_53 rfl ?_
  refine i_get (q0 := 0) dX5_init_54 fl_X5_9 rfl rfl ?_
  refine i_il dX5_init_57 rfl ?_
  refine i_il dX5_init_58 rfl ?_
  refine i_iast (q0 := 1) (ws2 := [(h0, ob 5 [.ref q1, .ref q2, .ref q3, .ref q4, .ref q5]), (q1, aI ct 8 (upd (fun _ => 0) 0 (nI 0))), (q2, aI ct 40 (fun _ => 0)), (q3, aI ct 64 (fun _ => 0)), (q4, aI ct 256 (fun _ => 0)), (q5, aI ct 8 (fun _ => 0))]) dX5_init_59 rfl (by decide) (by decide) rfl ?_
  refine i_iinc (a := 0) (b := 1) (ls2 := [some (.ref h0), some (.int (nI 1))]) dX5_init_60 rfl rfl ?_
  refine i_goto dX5_init_63 ?_
  refine i_il dX5_init_47 rfl ?_
  refine i_k dX5_init_48 ?_
  refine i_geN dX5_init_50 (by decide) (by decide) (by decide) ?_
  refine i_al dX5_init_53 rfl ?_
  refine i_get (q0 := 0) dX5_init_54 fl_X5_9 rfl rfl ?_
  refine i_il dX5_init_57 rfl ?_
  refine i_il dX5_init_58 rfl ?_
  refine i_iast (q0 := 1) (ws2 := [(h0, ob 5 [.ref q1, .ref q2, .ref q3, .ref q4, .ref q5]), (q1, aI ct 8 (upd (upd (fun _ => 0) 0 (nI 0)) 1 (nI 1))), (q2, aI ct 40 (fun _ => 0)), (q3, aI ct 64 (fun _ => 0)), (q4, aI ct 256 (fun _ => 0)), (q5, aI ct 8 (fun _ => 0))]) dX5_init_59 rfl (by decide) (by decide) rfl ?_
  refine i_iinc (a := 1) (b := 1) (ls2 := [some (.ref h0), some (.int (nI 2))]) dX5_init_60 rfl rfl ?_
  refine i_goto dX5_init_63 ?_
  refine i_il dX5_init_47 rfl ?_
  refine i_k dX5_init_48 ?_
  refine i_geN dX5_init_50 (by decide) (by decide) (by decide) ?_
  refine i_al dX5_init_53 rfl ?_
  refine i_get (q0 := 0) dX5_init_54 fl_X5_9 rfl rfl ?_
  refine i_il dX5_init_57 rfl ?_
  refine i_il dX5_init_58 rfl ?_
  refine i_iast (q0 := 1) (ws2 := [(h0, ob 5 [.ref q1, .ref q2, .ref q3, .ref q4, .ref q5]), (q1, aI ct 8 (upd (upd (upd (fun _ => 0) 0 (nI 0)) 1 (nI 1)) 2 (nI 2))), (q2, aI ct 40 (fun _ => 0)), (q3, aI ct 64 (fun _ => 0)), (q4, aI ct 256 (fun _ => 0)), (q5, aI ct 8 (fun _ => 0))]) dX5_init_59 rfl (by decide) (by decide) rfl ?_
  refine i_iinc (a := 2) (b := 1) (ls2 := [some (.ref h0), some (.int (nI 3))]) dX5_init_60 rfl rfl ?_
  refine i_goto dX5_init_63 ?_
  refine i_il dX5_init_47 rfl ?_
  refine i_k dX5_init_48 ?_
  refine i_geN dX5_init_50 (by decide) (by decide) (by decide) ?_
  refine i_al dX5_init_53 rfl ?_
  refine i_get (q0 := 0) dX5_init_54 fl_X5_9 rfl rfl ?_
  refine i_il dX5_init_57 rfl ?_
  refine i_il dX5_init_58 rfl ?_
  refine i_iast (q0 := 1) (ws2 := [(h0, ob 5 [.ref q1, .ref q2, .ref q3, .ref q4, .ref q5]), (q1, aI ct 8 (upd (upd (upd (upd (fun _ => 0) 0 (nI 0)) 1 (nI 1)) 2 (nI 2)) 3 (nI 3))), (q2, aI ct 40 (fun _ => 0)), (q3, aI ct 64 (fun _ => 0)), (q4, aI ct 256 (fun _ => 0)), (q5, aI ct 8 (fun _ => 0))]) dX5_init_59 rfl (by decide) (by decide) rfl ?_
  refine i_iinc (a := 3) (b := 1) (ls2 := [some (.ref h0), some (.int (nI 4))]) dX5_init_60 rfl rfl ?_
  refine i_goto dX5_init_63 ?_
  refine i_il dX5_init_47 rfl ?_
  refine i_k dX5_init_48 ?_
  refine i_geN dX5_init_50 (by decide) (by decide) (by decide) ?_
  refine i_al dX5_init_53 rfl ?_
  refine i_get (q0 := 0) dX5_init_54 fl_X5_9 rfl rfl ?_
  refine i_il dX5_init_57 rfl ?_
  refine i_il dX5_init_58 rfl ?_
  refine i_iast (q0 := 1) (ws2 := [(h0, ob 5 [.ref q1, .ref q2, .ref q3, .ref q4, .ref q5]), (q1, aI ct 8 (upd (upd (upd (upd (upd (fun _ => 0) 0 (nI 0)) 1 (nI 1)) 2 (nI 2)) 3 (nI 3)) 4 (nI 4))), (q2, aI ct 40 (fun _ => 0)), (q3, aI ct 64 (fun _ => 0)), (q4, aI ct 256 (fun _ => 0)), (q5, aI ct 8 (fun _ => 0))]) dX5_init_59 rfl (by decide) (by decide) rfl ?_
  refine i_iinc (a := 4) (b := 1) (ls2 := [some (.ref h0), some (.int (nI 5))]) dX5_init_60 rfl rfl ?_
  refine i_goto dX5_init_63 ?_
  refine i_il dX5_init_47 rfl ?_
  refine i_k dX5_init_48 ?_
  refine i_geN dX5_init_50 (by decide) (by decide) (by decide) ?_
  refine i_al dX5_init_53 rfl ?_
  refine i_get (q0 := 0) dX5_init_54 fl_X5_9 rfl rfl ?_
  refine i_il dX5_init_57 rfl ?_
  refine i_il dX5_init_58 rfl ?_
  refine i_iast (q0 := 1) (ws2 := [(h0, ob 5 [.ref q1, .ref q2, .ref q3, .ref q4, .ref q5]), (q1, aI ct 8 (upd (upd (upd (upd (upd (upd (fun _ => 0) 0 (nI 0)) 1 (nI 1)) 2 (nI 2)) 3 (nI 3)) 4 (nI 4)) 5 (nI 5))), (q2, aI ct 40 (fun _ => 0)), (q3, aI ct 64 (fun _ => 0)), (q4, aI ct 256 (fun _ => 0)), (q5, aI ct 8 (fun _ => 0))]) dX5_init_59 rfl (by decide) (by decide) rfl ?_
  refine i_iinc (a := 5) (b := 1) (ls2 := [some (.ref h0), some (.int (nI 6))]) dX5_init_60 rfl rfl ?_
  refine i_goto dX5_init_63 ?_
  refine i_il dX5_init_47 rfl ?_
  refine i_k dX5_init_48 ?_
  refine i_geN dX5_init_50 (by decide) (by decide) (by decide) ?_
  refine i_al dX5_init_53 rfl ?_
  refine i_get (q0 := 0) dX5_init_54 fl_X5_9 rfl rfl ?_
  refine i_il dX5_init_57 rfl ?_
  refine i_il dX5_init_58 rfl ?_
  refine i_iast (q0 := 1) (ws2 := [(h0, ob 5 [.ref q1, .ref q2, .ref q3, .ref q4, .ref q5]), (q1, aI ct 8 (upd (upd (upd (upd (upd (upd (upd (fun _ => 0) 0 (nI 0)) 1 (nI 1)) 2 (nI 2)) 3 (nI 3)) 4 (nI 4)) 5 (nI 5)) 6 (nI 6))), (q2, aI ct 40 (fun _ => 0)), (q3, aI ct 64 (fun _ => 0)), (q4, aI ct 256 (fun _ => 0)), (q5, aI ct 8 (fun _ => 0))]) dX5_init_59 rfl (by decide) (by decide) rfl ?_
  refine i_iinc (a := 6) (b := 1) (ls2 := [some (.ref h0), some (.int (nI 7))]) dX5_init_60 rfl rfl ?_
  refine i_goto dX5_init_63 ?_
  refine i_il dX5_init_47 rfl ?_
  refine i_k dX5_init_48 ?_
  refine i_geN dX5_init_50 (by decide) (by decide) (by decide) ?_
  refine i_al dX5_init_53 rfl ?_
  refine i_get (q0 := 0) dX5_init_54 fl_X5_9 rfl rfl ?_
  refine i_il dX5_init_57 rfl ?_
  refine i_il dX5_init_58 rfl ?_
  refine i_iast (q0 := 1) (ws2 := [(h0, ob 5 [.ref q1, .ref q2, .ref q3, .ref q4, .ref q5]), (q1, aI ct 8 (upd (upd (upd (upd (upd (upd (upd (upd (fun _ => 0) 0 (nI 0)) 1 (nI 1)) 2 (nI 2)) 3 (nI 3)) 4 (nI 4)) 5 (nI 5)) 6 (nI 6)) 7 (nI 7))), (q2, aI ct 40 (fun _ => 0)), (q3, aI ct 64 (fun _ => 0)), (q4, aI ct 256 (fun _ => 0)), (q5, aI ct 8 (fun _ => 0))]) dX5_init_59 rfl (by decide) (by decide) rfl ?_
  refine i_iinc (a := 7) (b := 1) (ls2 := [some (.ref h0), some (.int (nI 8))]) dX5_init_60 rfl rfl ?_
  refine i_goto dX5_init_63 ?_
  refine i_il dX5_init_47 rfl ?_
  refine i_k dX5_init_48 ?_
  refine i_geY dX5_init_50 (by decide) (by decide) (by decide) ?_
  exact i_ret dX5_init_66 rfl rfl ⟨fun i => [q1, q2, q3, q4, q5].getD i 0, rfl⟩
def rmX6 : Room := { frames := 1, cells := 2, slots := 32, locals := 20 }
def qX6 (ct : Nat → ClassId) (h0 : Nat) (u : Nat → Nat) : va_W := [(h0, ob 6 [.ref (u 0), .ref (u 1)]), ((u 0), aI ct 16 (fun _ => 0)), ((u 1), aI ct 16 (fun _ => 0))]
set_option maxRecDepth 100000 in
set_option maxHeartbeats 4000000 in
theorem ci_X6 : InitOK mX6_init rmX6 6 [.null, .null] (fun ct h0 w => ∃ u : Nat → Nat, w = qX6 ct h0 u) := by
  refine init_of (by decide +kernel) rfl (by decide) rfl rfl (fun D ct h0 => ?_)
  show IW mX6_init rmX6 D ct 0 [some (.ref h0)] [] [(h0, ob 6 [.null, .null])] 0 0 _
  refine i_al dX6_init_0 rfl ?_
  refine i_obj dX6_init_1 ⟨bt739, bt729, bt730⟩ ⟨by decide, by decide⟩ (by decide) ?_
  refine i_al dX6_init_4 rfl ?_
  refine i_k dX6_init_5 ?_
  refine i_newI dX6_init_7 bt733 (by decide) (Nat.le_of_ble_eq_true rfl) (Nat.le_of_ble_eq_true rfl) (fun q1 => ?_)
  refine i_ws (ws2 := [(h0, ob 6 [.null, .null]), (q1, aI ct 16 (fun _ => 0))]) rfl ?_
  refine i_putF (q0 := 0) (ws2 := [(h0, ob 6 [.ref q1, .null]), (q1, aI ct 16 (fun _ => 0))]) dX6_init_9 ff_X6_11 rfl rfl rfl (Nat.le_of_ble_eq_true rfl) rfl ?_
  refine i_al dX6_init_12 rfl ?_
  refine i_k dX6_init_13 ?_
  refine i_newI dX6_init_15 bt733 (by decide) (Nat.le_of_ble_eq_true rfl) (Nat.le_of_ble_eq_true rfl) (fun q2 => ?_)
  refine i_ws (ws2 := [(h0, ob 6 [.ref q1, .null]), (q1, aI ct 16 (fun _ => 0)), (q2, aI ct 16 (fun _ => 0))]) rfl ?_
  refine i_putF (q0 := 0) (ws2 := [(h0, ob 6 [.ref q1, .ref q2]), (q1, aI ct 16 (fun _ => 0)), (q2, aI ct 16 (fun _ => 0))]) dX6_init_17 ff_X6_15 rfl rfl rfl (Nat.le_of_ble_eq_true rfl) rfl ?_
  exact i_ret dX6_init_20 rfl rfl ⟨fun i => [q1, q2].getD i 0, rfl⟩
