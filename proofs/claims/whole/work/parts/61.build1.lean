section M61
variable {d : Nat} {γ : Nat → ClassId}
theorem clX7_77 : Cond.classLink RX7 77 RX4 ∈ zk_tb := zk_in 81 (by decide +kernel) rfl
theorem clX7_20 : Cond.classLink RX7 20 RX0 ∈ zk_tb := zk_in 100 (by decide +kernel) rfl
theorem clX7_27 : Cond.classLink RX7 27 RX1 ∈ zk_tb := zk_in 153 (by decide +kernel) rfl
theorem clX7_42 : Cond.classLink RX7 42 RX6 ∈ zk_tb := zk_in 168 (by decide +kernel) rfl
theorem clL_7 : Cond.classLink RL 7 RX7 ∈ zk_tb := zk_in 70 (by decide +kernel) rfl
theorem clL_10 : Cond.classLink RL 10 RX8 ∈ zk_tb := zk_in 759 (by decide +kernel) rfl
theorem clX6_9 : Cond.classLink RX6 9 "[[I" ∈ zk_tb := zk_in 174 (by decide +kernel) rfl
theorem isX0 : Cond.instantiable RX0 10 ∈ zk_tb := zk_in 101 (by decide +kernel) rfl
theorem iniX0 : Cond.initialized RX0 ∈ zk_tb := zk_in 60 (by decide +kernel) rfl
theorem oiX0 : Cond.methodLink RX0 3 objectInit ∈ zk_tb := zk_in 105 (by decide +kernel) rfl
theorem dfX0 : ∀ j, j < 10 → defaultValue (tyX0 j) = vp_V [.null, .null, .null, .null, .int 0, .int 0, .int 0, .int 0, .int 0, .int 0] j := fun j hj => match j, hj with
  | 0, _ => rfl
  | 1, _ => rfl
  | 2, _ => rfl
  | 3, _ => rfl
  | 4, _ => rfl
  | 5, _ => rfl
  | 6, _ => rfl
  | 7, _ => rfl
  | 8, _ => rfl
  | 9, _ => rfl
  | j + 10, h => absurd h (by omega)
theorem isX1 : Cond.instantiable RX1 2 ∈ zk_tb := zk_in 154 (by decide +kernel) rfl
theorem iniX1 : Cond.initialized RX1 ∈ zk_tb := zk_in 61 (by decide +kernel) rfl
theorem oiX1 : Cond.methodLink RX1 1 objectInit ∈ zk_tb := zk_in 158 (by decide +kernel) rfl
theorem dfX1 : ∀ j, j < 2 → defaultValue (tyX1 j) = vp_V [.null, .int 0] j := fun j hj => match j, hj with
  | 0, _ => rfl
  | 1, _ => rfl
  | j + 2, h => absurd h (by omega)
theorem isX4 : Cond.instantiable RX4 2 ∈ zk_tb := zk_in 83 (by decide +kernel) rfl
theorem iniX4 : Cond.initialized RX4 ∈ zk_tb := zk_in 59 (by decide +kernel) rfl
theorem oiX4 : Cond.methodLink RX4 1 objectInit ∈ zk_tb := zk_in 87 (by decide +kernel) rfl
theorem dfX4 : ∀ j, j < 2 → defaultValue (tyX4 j) = vp_V [.null, .int 0] j := fun j hj => match j, hj with
  | 0, _ => rfl
  | 1, _ => rfl
  | j + 2, h => absurd h (by omega)
theorem isX6 : Cond.instantiable RX6 1 ∈ zk_tb := zk_in 169 (by decide +kernel) rfl
theorem iniX6 : Cond.initialized RX6 ∈ zk_tb := zk_in 62 (by decide +kernel) rfl
theorem oiX6 : Cond.methodLink RX6 3 objectInit ∈ zk_tb := zk_in 173 (by decide +kernel) rfl
theorem dfX6 : ∀ j, j < 1 → defaultValue (tyX6 j) = vp_V [.null] j := fun j hj => match j, hj with
  | 0, _ => rfl
  | j + 1, h => absurd h (by omega)
theorem isX7 : Cond.instantiable RX7 13 ∈ zk_tb := zk_in 71 (by decide +kernel) rfl
theorem iniX7 : Cond.initialized RX7 ∈ zk_tb := zk_in 58 (by decide +kernel) rfl
theorem oiX7 : Cond.methodLink RX7 3 objectInit ∈ zk_tb := zk_in 75 (by decide +kernel) rfl
theorem dfX7 : ∀ j, j < 13 → defaultValue (tyX7 j) = vp_V [.null, .null, .null, .null, .null, .null, .null, .null, .null, .int 0, .int 0, .long 0, .long 0] j := fun j hj => match j, hj with
  | 0, _ => rfl
  | 1, _ => rfl
  | 2, _ => rfl
  | 3, _ => rfl
  | 4, _ => rfl
  | 5, _ => rfl
  | 6, _ => rfl
  | 7, _ => rfl
  | 8, _ => rfl
  | 9, _ => rfl
  | 10, _ => rfl
  | 11, _ => rfl
  | 12, _ => rfl
  | j + 13, h => absurd h (by omega)
theorem isX8 : Cond.instantiable RX8 28 ∈ zk_tb := zk_in 760 (by decide +kernel) rfl
theorem iniX8 : Cond.initialized RX8 ∈ zk_tb := zk_in 63 (by decide +kernel) rfl
theorem oiX8 : Cond.methodLink RX8 1 objectInit ∈ zk_tb := zk_in 764 (by decide +kernel) rfl
theorem dfX8 : ∀ j, j < 28 → defaultValue (tyX8 j) = vp_V [.null, .null, .null, .null, .int 0, .null, .int 0, .long 0, .long 0, .int 0, .int 0, .int 0, .int 0, .int 0, .int 0, .null, .int 0, .int 0, .int 0, .null, .null, .null, .null, .null, .int 0, .null, .null, .null] j := fun j hj => match j, hj with
  | 0, _ => rfl
  | 1, _ => rfl
  | 2, _ => rfl
  | 3, _ => rfl
  | 4, _ => rfl
  | 5, _ => rfl
  | 6, _ => rfl
  | 7, _ => rfl
  | 8, _ => rfl
  | 9, _ => rfl
  | 10, _ => rfl
  | 11, _ => rfl
  | 12, _ => rfl
  | 13, _ => rfl
  | 14, _ => rfl
  | 15, _ => rfl
  | 16, _ => rfl
  | 17, _ => rfl
  | 18, _ => rfl
  | 19, _ => rfl
  | 20, _ => rfl
  | 21, _ => rfl
  | 22, _ => rfl
  | 23, _ => rfl
  | 24, _ => rfl
  | 25, _ => rfl
  | 26, _ => rfl
  | 27, _ => rfl
  | j + 28, h => absurd h (by omega)
theorem imX4_init : Cond.instanceMethod yX4_init ∈ zk_tb := zk_in 85 (by decide +kernel) rfl
theorem imX0_init : Cond.instanceMethod yX0_init ∈ zk_tb := zk_in 103 (by decide +kernel) rfl
theorem imX1_init : Cond.instanceMethod yX1_init ∈ zk_tb := zk_in 156 (by decide +kernel) rfl
theorem imX6_init : Cond.instanceMethod yX6_init ∈ zk_tb := zk_in 171 (by decide +kernel) rfl
theorem imX7_init : Cond.instanceMethod yX7_init ∈ zk_tb := zk_in 73 (by decide +kernel) rfl
theorem imX8_init : Cond.instanceMethod yX8_init ∈ zk_tb := zk_in 762 (by decide +kernel) rfl
theorem oiI : Cond.instanceMethod objectInit ∈ zk_tb := zk_in 76 (by decide +kernel) rfl
theorem oiC : Cond.code objectInit ⟨#[0xb1]⟩ 1 none ∈ zk_tb := zk_in 77 (by decide +kernel) rfl
theorem wI : Cond.arrayClass .int ∈ zk_tb := zk_in 99 (by decide +kernel) rfl
theorem wL : Cond.arrayClass .long ∈ zk_tb := zk_in 220 (by decide +kernel) rfl
theorem bX4_40 {h : Nat} : zc_M (d + 1) RX4 cX4_init 2 (none) yX4_init.name (zcR cX4_init (none)) γ 1 40 0 (zk_loc [.ref h, .int 40] 2) [] [(h, .inr (2, [.null, .int 0]))] (fun r w1 => r = none ∧ ∃ q1 : Nat, w1 = [(h, .inr (2, [.ref q1, .int (-1)])), (q1, .inl (γ 0, 40, .inl (fun _ => 0)))]) := by
  refine zc_aload_n (pc := 0) 0 dX4_init_0 rfl rfl ?_
  refine zc_objInit (pc := 1) dX4_init_1 oiX4 oiI oiC (Nat.le_of_ble_eq_true rfl) ?_
  refine zc_aload_n (pc := 4) 0 dX4_init_4 rfl rfl ?_
  refine zc_iload_n (pc := 5) 1 dX4_init_5 rfl rfl ?_
  refine zc_newa (pc := 6) (mc' := 0) (ms' := 0) (N' := 40) dX4_init_6 (by decide) (by decide) (by decide) rfl rfl wI (fun q1 => ?_)
  refine zc_putF (pc := 8) (ws' := [(h, .inr (2, [.ref q1, .int 0])), (q1, .inl (γ 0, 40, .inl (fun _ => 0)))]) 0 dX4_init_8 flX4_7 rfl rfl rfl rfl rfl rfl (Nat.le_of_ble_eq_true rfl) rfl ?_
  refine zc_aload_n (pc := 11) 0 dX4_init_11 rfl rfl ?_
  refine zc_iconst (pc := 12) (v := -1) dX4_init_12 (by decide) ?_
  refine zc_put (pc := 13) (ws' := [(h, .inr (2, [.ref q1, .int (-1)])), (q1, .inl (γ 0, 40, .inl (fun _ => 0)))]) 0 dX4_init_13 flX4_13 rfl rfl rfl (Nat.le_of_ble_eq_true rfl) rfl ?_
  exact zc_return (x := ()) (pc := 16) dX4_init_16 rfl ⟨rfl, q1, rfl⟩
theorem bX4_60 {h : Nat} : zc_M (d + 1) RX4 cX4_init 2 (none) yX4_init.name (zcR cX4_init (none)) γ 1 60 0 (zk_loc [.ref h, .int 60] 2) [] [(h, .inr (2, [.null, .int 0]))] (fun r w1 => r = none ∧ ∃ q1 : Nat, w1 = [(h, .inr (2, [.ref q1, .int (-1)])), (q1, .inl (γ 0, 60, .inl (fun _ => 0)))]) := by
  refine zc_aload_n (pc := 0) 0 dX4_init_0 rfl rfl ?_
  refine zc_objInit (pc := 1) dX4_init_1 oiX4 oiI oiC (Nat.le_of_ble_eq_true rfl) ?_
  refine zc_aload_n (pc := 4) 0 dX4_init_4 rfl rfl ?_
  refine zc_iload_n (pc := 5) 1 dX4_init_5 rfl rfl ?_
  refine zc_newa (pc := 6) (mc' := 0) (ms' := 0) (N' := 60) dX4_init_6 (by decide) (by decide) (by decide) rfl rfl wI (fun q1 => ?_)
  refine zc_putF (pc := 8) (ws' := [(h, .inr (2, [.ref q1, .int 0])), (q1, .inl (γ 0, 60, .inl (fun _ => 0)))]) 0 dX4_init_8 flX4_7 rfl rfl rfl rfl rfl rfl (Nat.le_of_ble_eq_true rfl) rfl ?_
  refine zc_aload_n (pc := 11) 0 dX4_init_11 rfl rfl ?_
  refine zc_iconst (pc := 12) (v := -1) dX4_init_12 (by decide) ?_
  refine zc_put (pc := 13) (ws' := [(h, .inr (2, [.ref q1, .int (-1)])), (q1, .inl (γ 0, 60, .inl (fun _ => 0)))]) 0 dX4_init_13 flX4_13 rfl rfl rfl (Nat.le_of_ble_eq_true rfl) rfl ?_
  exact zc_return (x := ()) (pc := 16) dX4_init_16 rfl ⟨rfl, q1, rfl⟩
theorem bX1 {h : Nat} : zc_M (d + 1) RX1 cX1_init 1 (none) yX1_init.name (zcR cX1_init (none)) γ 1 40 0 (zk_loc [.ref h] 1) [] [(h, .inr (1, [.null, .int 0]))] (fun r w1 => r = none ∧ ∃ q1 : Nat, w1 = [(h, .inr (1, [.ref q1, .int (-1)])), (q1, .inl (γ 0, 40, .inl (fun _ => 0)))]) := by
  refine zc_aload_n (pc := 0) 0 dX1_init_0 rfl rfl ?_
  refine zc_objInit (pc := 1) dX1_init_1 oiX1 oiI oiC (Nat.le_of_ble_eq_true rfl) ?_
  refine zc_aload_n (pc := 4) 0 dX1_init_4 rfl rfl ?_
  refine zc_bipush (pc := 5) (v := 40) dX1_init_5 (by decide) ?_
  refine zc_newa (pc := 7) (mc' := 0) (ms' := 0) (N' := 40) dX1_init_7 (by decide) (by decide) (by decide) rfl rfl wI (fun q1 => ?_)
  refine zc_putF (pc := 9) (ws' := [(h, .inr (1, [.ref q1, .int 0])), (q1, .inl (γ 0, 40, .inl (fun _ => 0)))]) 0 dX1_init_9 flX1_9 rfl rfl rfl rfl rfl rfl (Nat.le_of_ble_eq_true rfl) rfl ?_
  refine zc_aload_n (pc := 12) 0 dX1_init_12 rfl rfl ?_
  refine zc_iconst (pc := 13) (v := -1) dX1_init_13 (by decide) ?_
  refine zc_put (pc := 14) (ws' := [(h, .inr (1, [.ref q1, .int (-1)])), (q1, .inl (γ 0, 40, .inl (fun _ => 0)))]) 0 dX1_init_14 flX1_13 rfl rfl rfl (Nat.le_of_ble_eq_true rfl) rfl ?_
  exact zc_return (x := ()) (pc := 17) dX1_init_17 rfl ⟨rfl, q1, rfl⟩
theorem bX0 {h : Nat} : zc_M (d + 1) RX0 cX0_init 1 (none) yX0_init.name (zcR cX0_init (none)) γ 4 26 0 (zk_loc [.ref h] 1) [] [(h, .inr (0, [.null, .null, .null, .null, .int 0, .int 0, .int 0, .int 0, .int 0, .int 0]))] (fun r w1 => r = none ∧ ∃ q1 q2 q3 q4 : Nat, w1 = [(h, .inr (0, [.ref q1, .ref q2, .ref q3, .ref q4, .int 0, .int 0, .int 0, .int 0, .int 0, .int 0])), (q1, .inl (γ 0, 6, .inl (fun _ => 0))), (q2, .inl (γ 0, 6, .inl (fun _ => 0))), (q3, .inl (γ 0, 6, .inl (fun _ => 0))), (q4, .inl (γ 0, 8, .inl (fun _ => 0)))]) := by
  refine zc_aload_n (pc := 0) 0 dX0_init_0 rfl rfl ?_
  refine zc_objInit (pc := 1) dX0_init_1 oiX0 oiI oiC (Nat.le_of_ble_eq_true rfl) ?_
  refine zc_aload_n (pc := 4) 0 dX0_init_4 rfl rfl ?_
  refine zc_bipush (pc := 5) (v := 6) dX0_init_5 (by decide) ?_
  refine zc_newa (pc := 7) (mc' := 3) (ms' := 20) (N' := 6) dX0_init_7 (by decide) (by decide) (by decide) rfl rfl wI (fun q1 => ?_)
  refine zc_putF (pc := 9) (ws' := [(h, .inr (0, [.ref q1, .null, .null, .null, .int 0, .int 0, .int 0, .int 0, .int 0, .int 0])), (q1, .inl (γ 0, 6, .inl (fun _ => 0)))]) 0 dX0_init_9 flX0_9 rfl rfl rfl rfl rfl rfl (Nat.le_of_ble_eq_true rfl) rfl ?_
  refine zc_aload_n (pc := 12) 0 dX0_init_12 rfl rfl ?_
  refine zc_bipush (pc := 13) (v := 6) dX0_init_13 (by decide) ?_
  refine zc_newa (pc := 15) (mc' := 2) (ms' := 14) (N' := 6) dX0_init_15 (by decide) (by decide) (by decide) rfl rfl wI (fun q2 => ?_)
  refine zc_putF (pc := 17) (ws' := [(h, .inr (0, [.ref q1, .ref q2, .null, .null, .int 0, .int 0, .int 0, .int 0, .int 0, .int 0])), (q1, .inl (γ 0, 6, .inl (fun _ => 0))), (q2, .inl (γ 0, 6, .inl (fun _ => 0)))]) 0 dX0_init_17 flX0_15 rfl rfl rfl rfl rfl rfl (Nat.le_of_ble_eq_true rfl) rfl ?_
  refine zc_aload_n (pc := 20) 0 dX0_init_20 rfl rfl ?_
  refine zc_bipush (pc := 21) (v := 6) dX0_init_21 (by decide) ?_
  refine zc_newa (pc := 23) (mc' := 1) (ms' := 8) (N' := 6) dX0_init_23 (by decide) (by decide) (by decide) rfl rfl wI (fun q3 => ?_)
  refine zc_putF (pc := 25) (ws' := [(h, .inr (0, [.ref q1, .ref q2, .ref q3, .null, .int 0, .int 0, .int 0, .int 0, .int 0, .int 0])), (q1, .inl (γ 0, 6, .inl (fun _ => 0))), (q2, .inl (γ 0, 6, .inl (fun _ => 0))), (q3, .inl (γ 0, 6, .inl (fun _ => 0)))]) 0 dX0_init_25 flX0_18 rfl rfl rfl rfl rfl rfl (Nat.le_of_ble_eq_true rfl) rfl ?_
  refine zc_aload_n (pc := 28) 0 dX0_init_28 rfl rfl ?_
  refine zc_bipush (pc := 29) (v := 8) dX0_init_29 (by decide) ?_
  refine zc_newa (pc := 31) (mc' := 0) (ms' := 0) (N' := 8) dX0_init_31 (by decide) (by decide) (by decide) rfl rfl wI (fun q4 => ?_)
  refine zc_putF (pc := 33) (ws' := [(h, .inr (0, [.ref q1, .ref q2, .ref q3, .ref q4, .int 0, .int 0, .int 0, .int 0, .int 0, .int 0])), (q1, .inl (γ 0, 6, .inl (fun _ => 0))), (q2, .inl (γ 0, 6, .inl (fun _ => 0))), (q3, .inl (γ 0, 6, .inl (fun _ => 0))), (q4, .inl (γ 0, 8, .inl (fun _ => 0)))]) 0 dX0_init_33 flX0_21 rfl rfl rfl rfl rfl rfl (Nat.le_of_ble_eq_true rfl) rfl ?_
  exact zc_return (x := ()) (pc := 36) dX0_init_36 rfl ⟨rfl, q1, q2, q3, q4, rfl⟩
theorem bX6 {h : Nat} : zc_M (d + 1) RX6 cX6_init 1 (none) yX6_init.name (zcR cX6_init (none)) γ 5 36 0 (zk_loc [.ref h] 1) [] [(h, .inr (3, [.null]))] (fun r w1 => r = none ∧ ∃ q1 q2 q3 q4 q5 : Nat, w1 = [(h, .inr (3, [.ref q1])), (q1, .inl (γ 4, 4, .inr (.inr (.inr (.inr (fun j => ([q2, q3, q4, q5] : List Nat)[j]?)))))), (q2, .inl (γ 0, 8, .inl (fun _ => 0))), (q3, .inl (γ 0, 8, .inl (fun _ => 0))), (q4, .inl (γ 0, 8, .inl (fun _ => 0))), (q5, .inl (γ 0, 8, .inl (fun _ => 0)))]) := by
  refine zc_aload_n (pc := 0) 0 dX6_init_0 rfl rfl ?_
  refine zc_objInit (pc := 1) dX6_init_1 oiX6 oiI oiC (Nat.le_of_ble_eq_true rfl) ?_
  refine zc_aload_n (pc := 4) 0 dX6_init_4 rfl rfl ?_
  refine zc_iconst (pc := 5) (v := 4) dX6_init_5 (by decide) ?_
  refine zc_bipush (pc := 6) (v := 8) dX6_init_6 (by decide) ?_
  refine zc_mna (pc := 8) (mc' := 0) (ms' := 0) dX6_init_8 clX6_9 wI rfl rfl (fun q1 q2 q3 q4 q5 => ?_)
  refine zc_putF (pc := 12) (ws' := [(h, .inr (3, [.ref q1])), (q1, .inl (γ 4, 4, .inr (.inr (.inr (.inr (fun j => ([q2, q3, q4, q5] : List Nat)[j]?)))))), (q2, .inl (γ 0, 8, .inl (fun _ => 0))), (q3, .inl (γ 0, 8, .inl (fun _ => 0))), (q4, .inl (γ 0, 8, .inl (fun _ => 0))), (q5, .inl (γ 0, 8, .inl (fun _ => 0)))]) 0 dX6_init_12 flX6_11 rfl rfl rfl rfl rfl rfl (Nat.le_of_ble_eq_true rfl) rfl ?_
  exact zc_return (x := ()) (pc := 15) dX6_init_15 rfl ⟨rfl, q1, q2, q3, q4, q5, rfl⟩
theorem bShelf6  : zc_M (d + 2) RX7 cX7_shelf 4 (some (.array (.object "ClubSmoke$Row"))) yX7_shelf.name (zcR cX7_shelf (some (.array (.object "ClubSmoke$Row")))) γ 13 258 0 (zk_loc [.int 6, .int 40] 4) [] [] (fun r w1 => ∃ q1 q2 q3 q4 q5 q6 q7 q8 q9 q10 q11 q12 q13 : Nat, r = some (.ref q1) ∧ w1 = [(q1, .inl (γ 2, 6, .inr (.inr (.inr (.inr (fun j => ([q2, q4, q6, q8, q10, q12] : List Nat)[j]?)))))), (q2, .inr (2, [.ref q3, .int (-1)])), (q3, .inl (γ 0, 40, .inl (fun _ => 0))), (q4, .inr (2, [.ref q5, .int (-1)])), (q5, .inl (γ 0, 40, .inl (fun _ => 0))), (q6, .inr (2, [.ref q7, .int (-1)])), (q7, .inl (γ 0, 40, .inl (fun _ => 0))), (q8, .inr (2, [.ref q9, .int (-1)])), (q9, .inl (γ 0, 40, .inl (fun _ => 0))), (q10, .inr (2, [.ref q11, .int (-1)])), (q11, .inl (γ 0, 40, .inl (fun _ => 0))), (q12, .inr (2, [.ref q13, .int (-1)])), (q13, .inl (γ 0, 40, .inl (fun _ => 0)))]) := by
  refine zc_iload_n (pc := 0) 0 dX7_shelf_0 rfl rfl ?_
  refine zc_newq (pc := 1) (mc' := 12) (ms' := 252) (N' := 6) 2 dX7_shelf_1 clX7_77 (fun s h => h.1) (fun _ => rfl) (by decide) (by decide) (by decide) rfl rfl (fun q1 => ?_)
  refine zc_astore_n (pc := 4) (ls' := [.int 6, .int 40, .ref q1, .retAddr 0]) 2 dX7_shelf_4 rfl (by decide) rfl ?_
  refine zc_iconst (pc := 5) (v := 0) dX7_shelf_5 (by decide) ?_
  refine zc_istore_n (pc := 6) (ls' := [.int 6, .int 40, .ref q1, .int 0]) 3 dX7_shelf_6 rfl (by decide) rfl ?_
  refine zc_iload_n (pc := 7) 3 dX7_shelf_7 rfl rfl ?_
  refine zc_aload_n (pc := 8) 2 dX7_shelf_8 rfl rfl ?_
  refine zc_alen (pc := 9) (v := 6) 0 2 dX7_shelf_9 rfl rfl rfl ?_
  refine zc_geF (pc := 10) 30 dX7_shelf_10 (by decide) (by decide) ?_
  refine zc_aload_n (pc := 13) 2 dX7_shelf_13 rfl rfl ?_
  refine zc_iload_n (pc := 14) 3 dX7_shelf_14 rfl rfl ?_
  refine zc_new (pc := 15) (mc' := 11) (ms' := 250) (ci := 2) (fs := [.null, .int 0]) tyX4 dX7_shelf_15 inX4 tyX4_ok clX7_77 isX4 iniX4 rfl dfX4 rfl rfl (fun q2 => ?_)
  refine zc_dup (pc := 18) dX7_shelf_18 rfl ?_
  refine zc_iload_n (pc := 19) 1 dX7_shelf_19 rfl rfl ?_
  refine zc_callI (pc := 20) (mc2 := 10) (ms2 := 210) (wc := [(q2, .inr (2, [.null, .int 0]))]) (wr := [(q1, .inl (γ 2, 6, .inr (.inr (.inr (.inr (fun _ => none))))))]) [.int 40] [.ref q2, .int 0, .ref q1] dX7_shelf_20 mtX4_init lkX7_328 imX4_init rfl rfl rfl (Nat.le_of_ble_eq_true rfl) (Nat.le_of_ble_eq_true rfl) [1] [0] rfl rfl (by decide) (by decide) (by decide) rfl rfl bX4_40 (fun r w1 hq => ?_)
  obtain ⟨rfl, q3, rfl⟩ := hq
  refine zc_aast (pc := 23) (ws' := [(q1, .inl (γ 2, 6, .inr (.inr (.inr (.inr (va_up (fun _ => none) 0 (some q2))))))), (q2, .inr (2, [.ref q3, .int (-1)])), (q3, .inl (γ 0, 40, .inl (fun _ => 0)))]) 2 0 1 dX7_shelf_23 rfl rfl rfl rfl (by unfold vp_in; decide) rfl ?_
  refine zc_iinc (pc := 24) (ls' := [.int 6, .int 40, .ref q1, .int 1]) (v := 1) dX7_shelf_24 rfl (by decide) (by decide) rfl ?_
  refine zc_goto (pc := 27) 7 dX7_shelf_27 (by decide) ?_
  refine zc_iload_n (pc := 7) 3 dX7_shelf_7 rfl rfl ?_
  refine zc_aload_n (pc := 8) 2 dX7_shelf_8 rfl rfl ?_
  refine zc_alen (pc := 9) (v := 6) 0 2 dX7_shelf_9 rfl rfl rfl ?_
  refine zc_geF (pc := 10) 30 dX7_shelf_10 (by decide) (by decide) ?_
  refine zc_aload_n (pc := 13) 2 dX7_shelf_13 rfl rfl ?_
  refine zc_iload_n (pc := 14) 3 dX7_shelf_14 rfl rfl ?_
  refine zc_new (pc := 15) (mc' := 9) (ms' := 208) (ci := 2) (fs := [.null, .int 0]) tyX4 dX7_shelf_15 inX4 tyX4_ok clX7_77 isX4 iniX4 rfl dfX4 rfl rfl (fun q4 => ?_)
  refine zc_dup (pc := 18) dX7_shelf_18 rfl ?_
  refine zc_iload_n (pc := 19) 1 dX7_shelf_19 rfl rfl ?_
  refine zc_callI (pc := 20) (mc2 := 8) (ms2 := 168) (wc := [(q4, .inr (2, [.null, .int 0]))]) (wr := [(q1, .inl (γ 2, 6, .inr (.inr (.inr (.inr (va_up (fun _ => none) 0 (some q2))))))), (q2, .inr (2, [.ref q3, .int (-1)])), (q3, .inl (γ 0, 40, .inl (fun _ => 0)))]) [.int 40] [.ref q4, .int 1, .ref q1] dX7_shelf_20 mtX4_init lkX7_328 imX4_init rfl rfl rfl (Nat.le_of_ble_eq_true rfl) (Nat.le_of_ble_eq_true rfl) [3] [0, 1, 2] rfl rfl (by decide) (by decide) (by decide) rfl rfl bX4_40 (fun r w1 hq => ?_)
  obtain ⟨rfl, q5, rfl⟩ := hq
  refine zc_aast (pc := 23) (ws' := [(q1, .inl (γ 2, 6, .inr (.inr (.inr (.inr (va_up (va_up (fun _ => none) 0 (some q2)) 1 (some q4))))))), (q2, .inr (2, [.ref q3, .int (-1)])), (q3, .inl (γ 0, 40, .inl (fun _ => 0))), (q4, .inr (2, [.ref q5, .int (-1)])), (q5, .inl (γ 0, 40, .inl (fun _ => 0)))]) 2 0 3 dX7_shelf_23 rfl rfl rfl rfl (by unfold vp_in; decide) rfl ?_
  refine zc_iinc (pc := 24) (ls' := [.int 6, .int 40, .ref q1, .int 2]) (v := 2) dX7_shelf_24 rfl (by decide) (by decide) rfl ?_
  refine zc_goto (pc := 27) 7 dX7_shelf_27 (by decide) ?_
  refine zc_iload_n (pc := 7) 3 dX7_shelf_7 rfl rfl ?_
  refine zc_aload_n (pc := 8) 2 dX7_shelf_8 rfl rfl ?_
  refine zc_alen (pc := 9) (v := 6) 0 2 dX7_shelf_9 rfl rfl rfl ?_
  refine zc_geF (pc := 10) 30 dX7_shelf_10 (by decide) (by decide) ?_
  refine zc_aload_n (pc := 13) 2 dX7_shelf_13 rfl rfl ?_
  refine zc_iload_n (pc := 14) 3 dX7_shelf_14 rfl rfl ?_
  refine zc_new (pc := 15) (mc' := 7) (ms' := 166) (ci := 2) (fs := [.null, .int 0]) tyX4 dX7_shelf_15 inX4 tyX4_ok clX7_77 isX4 iniX4 rfl dfX4 rfl rfl (fun q6 => ?_)
  refine zc_dup (pc := 18) dX7_shelf_18 rfl ?_
  refine zc_iload_n (pc := 19) 1 dX7_shelf_19 rfl rfl ?_
  refine zc_callI (pc := 20) (mc2 := 6) (ms2 := 126) (wc := [(q6, .inr (2, [.null, .int 0]))]) (wr := [(q1, .inl (γ 2, 6, .inr (.inr (.inr (.inr (va_up (va_up (fun _ => none) 0 (some q2)) 1 (some q4))))))), (q2, .inr (2, [.ref q3, .int (-1)])), (q3, .inl (γ 0, 40, .inl (fun _ => 0))), (q4, .inr (2, [.ref q5, .int (-1)])), (q5, .inl (γ 0, 40, .inl (fun _ => 0)))]) [.int 40] [.ref q6, .int 2, .ref q1] dX7_shelf_20 mtX4_init lkX7_328 imX4_init rfl rfl rfl (Nat.le_of_ble_eq_true rfl) (Nat.le_of_ble_eq_true rfl) [5] [0, 1, 2, 3, 4] rfl rfl (by decide) (by decide) (by decide) rfl rfl bX4_40 (fun r w1 hq => ?_)
  obtain ⟨rfl, q7, rfl⟩ := hq
  refine zc_aast (pc := 23) (ws' := [(q1, .inl (γ 2, 6, .inr (.inr (.inr (.inr (va_up (va_up (va_up (fun _ => none) 0 (some q2)) 1 (some q4)) 2 (some q6))))))), (q2, .inr (2, [.ref q3, .int (-1)])), (q3, .inl (γ 0, 40, .inl (fun _ => 0))), (q4, .inr (2, [.ref q5, .int (-1)])), (q5, .inl (γ 0, 40, .inl (fun _ => 0))), (q6, .inr (2, [.ref q7, .int (-1)])), (q7, .inl (γ 0, 40, .inl (fun _ => 0)))]) 2 0 5 dX7_shelf_23 rfl rfl rfl rfl (by unfold vp_in; decide) rfl ?_
  refine zc_iinc (pc := 24) (ls' := [.int 6, .int 40, .ref q1, .int 3]) (v := 3) dX7_shelf_24 rfl (by decide) (by decide) rfl ?_
  refine zc_goto (pc := 27) 7 dX7_shelf_27 (by decide) ?_
  refine zc_iload_n (pc := 7) 3 dX7_shelf_7 rfl rfl ?_
  refine zc_aload_n (pc := 8) 2 dX7_shelf_8 rfl rfl ?_
  refine zc_alen (pc := 9) (v := 6) 0 2 dX7_shelf_9 rfl rfl rfl ?_
  refine zc_geF (pc := 10) 30 dX7_shelf_10 (by decide) (by decide) ?_
  refine zc_aload_n (pc := 13) 2 dX7_shelf_13 rfl rfl ?_
  refine zc_iload_n (pc := 14) 3 dX7_shelf_14 rfl rfl ?_
  refine zc_new (pc := 15) (mc' := 5) (ms' := 124) (ci := 2) (fs := [.null, .int 0]) tyX4 dX7_shelf_15 inX4 tyX4_ok clX7_77 isX4 iniX4 rfl dfX4 rfl rfl (fun q8 => ?_)
  refine zc_dup (pc := 18) dX7_shelf_18 rfl ?_
  refine zc_iload_n (pc := 19) 1 dX7_shelf_19 rfl rfl ?_
  refine zc_callI (pc := 20) (mc2 := 4) (ms2 := 84) (wc := [(q8, .inr (2, [.null, .int 0]))]) (wr := [(q1, .inl (γ 2, 6, .inr (.inr (.inr (.inr (va_up (va_up (va_up (fun _ => none) 0 (some q2)) 1 (some q4)) 2 (some q6))))))), (q2, .inr (2, [.ref q3, .int (-1)])), (q3, .inl (γ 0, 40, .inl (fun _ => 0))), (q4, .inr (2, [.ref q5, .int (-1)])), (q5, .inl (γ 0, 40, .inl (fun _ => 0))), (q6, .inr (2, [.ref q7, .int (-1)])), (q7, .inl (γ 0, 40, .inl (fun _ => 0)))]) [.int 40] [.ref q8, .int 3, .ref q1] dX7_shelf_20 mtX4_init lkX7_328 imX4_init rfl rfl rfl (Nat.le_of_ble_eq_true rfl) (Nat.le_of_ble_eq_true rfl) [7] [0, 1, 2, 3, 4, 5, 6] rfl rfl (by decide) (by decide) (by decide) rfl rfl bX4_40 (fun r w1 hq => ?_)
  obtain ⟨rfl, q9, rfl⟩ := hq
  refine zc_aast (pc := 23) (ws' := [(q1, .inl (γ 2, 6, .inr (.inr (.inr (.inr (va_up (va_up (va_up (va_up (fun _ => none) 0 (some q2)) 1 (some q4)) 2 (some q6)) 3 (some q8))))))), (q2, .inr (2, [.ref q3, .int (-1)])), (q3, .inl (γ 0, 40, .inl (fun _ => 0))), (q4, .inr (2, [.ref q5, .int (-1)])), (q5, .inl (γ 0, 40, .inl (fun _ => 0))), (q6, .inr (2, [.ref q7, .int (-1)])), (q7, .inl (γ 0, 40, .inl (fun _ => 0))), (q8, .inr (2, [.ref q9, .int (-1)])), (q9, .inl (γ 0, 40, .inl (fun _ => 0)))]) 2 0 7 dX7_shelf_23 rfl rfl rfl rfl (by unfold vp_in; decide) rfl ?_
  refine zc_iinc (pc := 24) (ls' := [.int 6, .int 40, .ref q1, .int 4]) (v := 4) dX7_shelf_24 rfl (by decide) (by decide) rfl ?_
  refine zc_goto (pc := 27) 7 dX7_shelf_27 (by decide) ?_
  refine zc_iload_n (pc := 7) 3 dX7_shelf_7 rfl rfl ?_
  refine zc_aload_n (pc := 8) 2 dX7_shelf_8 rfl rfl ?_
  refine zc_alen (pc := 9) (v := 6) 0 2 dX7_shelf_9 rfl rfl rfl ?_
  refine zc_geF (pc := 10) 30 dX7_shelf_10 (by decide) (by decide) ?_
  refine zc_aload_n (pc := 13) 2 dX7_shelf_13 rfl rfl ?_
  refine zc_iload_n (pc := 14) 3 dX7_shelf_14 rfl rfl ?_
  refine zc_new (pc := 15) (mc' := 3) (ms' := 82) (ci := 2) (fs := [.null, .int 0]) tyX4 dX7_shelf_15 inX4 tyX4_ok clX7_77 isX4 iniX4 rfl dfX4 rfl rfl (fun q10 => ?_)
  refine zc_dup (pc := 18) dX7_shelf_18 rfl ?_
  refine zc_iload_n (pc := 19) 1 dX7_shelf_19 rfl rfl ?_
  refine zc_callI (pc := 20) (mc2 := 2) (ms2 := 42) (wc := [(q10, .inr (2, [.null, .int 0]))]) (wr := [(q1, .inl (γ 2, 6, .inr (.inr (.inr (.inr (va_up (va_up (va_up (va_up (fun _ => none) 0 (some q2)) 1 (some q4)) 2 (some q6)) 3 (some q8))))))), (q2, .inr (2, [.ref q3, .int (-1)])), (q3, .inl (γ 0, 40, .inl (fun _ => 0))), (q4, .inr (2, [.ref q5, .int (-1)])), (q5, .inl (γ 0, 40, .inl (fun _ => 0))), (q6, .inr (2, [.ref q7, .int (-1)])), (q7, .inl (γ 0, 40, .inl (fun _ => 0))), (q8, .inr (2, [.ref q9, .int (-1)])), (q9, .inl (γ 0, 40, .inl (fun _ => 0)))]) [.int 40] [.ref q10, .int 4, .ref q1] dX7_shelf_20 mtX4_init lkX7_328 imX4_init rfl rfl rfl (Nat.le_of_ble_eq_true rfl) (Nat.le_of_ble_eq_true rfl) [9] [0, 1, 2, 3, 4, 5, 6, 7, 8] rfl rfl (by decide) (by decide) (by decide) rfl rfl bX4_40 (fun r w1 hq => ?_)
  obtain ⟨rfl, q11, rfl⟩ := hq
  refine zc_aast (pc := 23) (ws' := [(q1, .inl (γ 2, 6, .inr (.inr (.inr (.inr (va_up (va_up (va_up (va_up (va_up (fun _ => none) 0 (some q2)) 1 (some q4)) 2 (some q6)) 3 (some q8)) 4 (some q10))))))), (q2, .inr (2, [.ref q3, .int (-1)])), (q3, .inl (γ 0, 40, .inl (fun _ => 0))), (q4, .inr (2, [.ref q5, .int (-1)])), (q5, .inl (γ 0, 40, .inl (fun _ => 0))), (q6, .inr (2, [.ref q7, .int (-1)])), (q7, .inl (γ 0, 40, .inl (fun _ => 0))), (q8, .inr (2, [.ref q9, .int (-1)])), (q9, .inl (γ 0, 40, .inl (fun _ => 0))), (q10, .inr (2, [.ref q11, .int (-1)])), (q11, .inl (γ 0, 40, .inl (fun _ => 0)))]) 2 0 9 dX7_shelf_23 rfl rfl rfl rfl (by unfold vp_in; decide) rfl ?_
  refine zc_iinc (pc := 24) (ls' := [.int 6, .int 40, .ref q1, .int 5]) (v := 5) dX7_shelf_24 rfl (by decide) (by decide) rfl ?_
  refine zc_goto (pc := 27) 7 dX7_shelf_27 (by decide) ?_
  refine zc_iload_n (pc := 7) 3 dX7_shelf_7 rfl rfl ?_
  refine zc_aload_n (pc := 8) 2 dX7_shelf_8 rfl rfl ?_
  refine zc_alen (pc := 9) (v := 6) 0 2 dX7_shelf_9 rfl rfl rfl ?_
  refine zc_geF (pc := 10) 30 dX7_shelf_10 (by decide) (by decide) ?_
  refine zc_aload_n (pc := 13) 2 dX7_shelf_13 rfl rfl ?_
  refine zc_iload_n (pc := 14) 3 dX7_shelf_14 rfl rfl ?_
  refine zc_new (pc := 15) (mc' := 1) (ms' := 40) (ci := 2) (fs := [.null, .int 0]) tyX4 dX7_shelf_15 inX4 tyX4_ok clX7_77 isX4 iniX4 rfl dfX4 rfl rfl (fun q12 => ?_)
  refine zc_dup (pc := 18) dX7_shelf_18 rfl ?_
  refine zc_iload_n (pc := 19) 1 dX7_shelf_19 rfl rfl ?_
  refine zc_callI (pc := 20) (mc2 := 0) (ms2 := 0) (wc := [(q12, .inr (2, [.null, .int 0]))]) (wr := [(q1, .inl (γ 2, 6, .inr (.inr (.inr (.inr (va_up (va_up (va_up (va_up (va_up (fun _ => none) 0 (some q2)) 1 (some q4)) 2 (some q6)) 3 (some q8)) 4 (some q10))))))), (q2, .inr (2, [.ref q3, .int (-1)])), (q3, .inl (γ 0, 40, .inl (fun _ => 0))), (q4, .inr (2, [.ref q5, .int (-1)])), (q5, .inl (γ 0, 40, .inl (fun _ => 0))), (q6, .inr (2, [.ref q7, .int (-1)])), (q7, .inl (γ 0, 40, .inl (fun _ => 0))), (q8, .inr (2, [.ref q9, .int (-1)])), (q9, .inl (γ 0, 40, .inl (fun _ => 0))), (q10, .inr (2, [.ref q11, .int (-1)])), (q11, .inl (γ 0, 40, .inl (fun _ => 0)))]) [.int 40] [.ref q12, .int 5, .ref q1] dX7_shelf_20 mtX4_init lkX7_328 imX4_init rfl rfl rfl (Nat.le_of_ble_eq_true rfl) (Nat.le_of_ble_eq_true rfl) [11] [0, 1, 2, 3, 4, 5, 6, 7, 8, 9, 10] rfl rfl (by decide) (by decide) (by decide) rfl rfl bX4_40 (fun r w1 hq => ?_)
  obtain ⟨rfl, q13, rfl⟩ := hq
  refine zc_aast (pc := 23) (ws' := [(q1, .inl (γ 2, 6, .inr (.inr (.inr (.inr (va_up (va_up (va_up (va_up (va_up (va_up (fun _ => none) 0 (some q2)) 1 (some q4)) 2 (some q6)) 3 (some q8)) 4 (some q10)) 5 (some q12))))))), (q2, .inr (2, [.ref q3, .int (-1)])), (q3, .inl (γ 0, 40, .inl (fun _ => 0))), (q4, .inr (2, [.ref q5, .int (-1)])), (q5, .inl (γ 0, 40, .inl (fun _ => 0))), (q6, .inr (2, [.ref q7, .int (-1)])), (q7, .inl (γ 0, 40, .inl (fun _ => 0))), (q8, .inr (2, [.ref q9, .int (-1)])), (q9, .inl (γ 0, 40, .inl (fun _ => 0))), (q10, .inr (2, [.ref q11, .int (-1)])), (q11, .inl (γ 0, 40, .inl (fun _ => 0))), (q12, .inr (2, [.ref q13, .int (-1)])), (q13, .inl (γ 0, 40, .inl (fun _ => 0)))]) 2 0 11 dX7_shelf_23 rfl rfl rfl rfl (by unfold vp_in; decide) rfl ?_
  refine zc_iinc (pc := 24) (ls' := [.int 6, .int 40, .ref q1, .int 6]) (v := 6) dX7_shelf_24 rfl (by decide) (by decide) rfl ?_
  refine zc_goto (pc := 27) 7 dX7_shelf_27 (by decide) ?_
  refine zc_iload_n (pc := 7) 3 dX7_shelf_7 rfl rfl ?_
  refine zc_aload_n (pc := 8) 2 dX7_shelf_8 rfl rfl ?_
  refine zc_alen (pc := 9) (v := 6) 0 2 dX7_shelf_9 rfl rfl rfl ?_
  refine zc_geT (pc := 10) 30 dX7_shelf_10 (by decide) (by decide) ?_
  refine zc_aload_n (pc := 30) 2 dX7_shelf_30 rfl rfl ?_
  have ef : (va_up (va_up (va_up (va_up (va_up (va_up (fun _ => none) 0 (some q2)) 1 (some q4)) 2 (some q6)) 3 (some q8)) 4 (some q10)) 5 (some q12)) = (fun j => ([q2, q4, q6, q8, q10, q12] : List Nat)[j]?) := by
    funext j
    match j with
    | 0 => rfl
    | 1 => rfl
    | 2 => rfl
    | 3 => rfl
    | 4 => rfl
    | 5 => rfl
    | j + 6 => rfl
  rw [ef]
  exact zc_areturn (pc := 31) dX7_shelf_31 ⟨_, rfl⟩ ⟨q1, q2, q3, q4, q5, q6, q7, q8, q9, q10, q11, q12, q13, rfl, rfl⟩
theorem bShelf4  : zc_M (d + 2) RX7 cX7_shelf 4 (some (.array (.object "ClubSmoke$Row"))) yX7_shelf.name (zcR cX7_shelf (some (.array (.object "ClubSmoke$Row")))) γ 9 252 0 (zk_loc [.int 4, .int 60] 4) [] [] (fun r w1 => ∃ q1 q2 q3 q4 q5 q6 q7 q8 q9 : Nat, r = some (.ref q1) ∧ w1 = [(q1, .inl (γ 2, 4, .inr (.inr (.inr (.inr (fun j => ([q2, q4, q6, q8] : List Nat)[j]?)))))), (q2, .inr (2, [.ref q3, .int (-1)])), (q3, .inl (γ 0, 60, .inl (fun _ => 0))), (q4, .inr (2, [.ref q5, .int (-1)])), (q5, .inl (γ 0, 60, .inl (fun _ => 0))), (q6, .inr (2, [.ref q7, .int (-1)])), (q7, .inl (γ 0, 60, .inl (fun _ => 0))), (q8, .inr (2, [.ref q9, .int (-1)])), (q9, .inl (γ 0, 60, .inl (fun _ => 0)))]) := by
  refine zc_iload_n (pc := 0) 0 dX7_shelf_0 rfl rfl ?_
  refine zc_newq (pc := 1) (mc' := 8) (ms' := 248) (N' := 4) 2 dX7_shelf_1 clX7_77 (fun s h => h.1) (fun _ => rfl) (by decide) (by decide) (by decide) rfl rfl (fun q1 => ?_)
  refine zc_astore_n (pc := 4) (ls' := [.int 4, .int 60, .ref q1, .retAddr 0]) 2 dX7_shelf_4 rfl (by decide) rfl ?_
  refine zc_iconst (pc := 5) (v := 0) dX7_shelf_5 (by decide) ?_
  refine zc_istore_n (pc := 6) (ls' := [.int 4, .int 60, .ref q1, .int 0]) 3 dX7_shelf_6 rfl (by decide) rfl ?_
  refine zc_iload_n (pc := 7) 3 dX7_shelf_7 rfl rfl ?_
  refine zc_aload_n (pc := 8) 2 dX7_shelf_8 rfl rfl ?_
  refine zc_alen (pc := 9) (v := 4) 0 2 dX7_shelf_9 rfl rfl rfl ?_
  refine zc_geF (pc := 10) 30 dX7_shelf_10 (by decide) (by decide) ?_
  refine zc_aload_n (pc := 13) 2 dX7_shelf_13 rfl rfl ?_
  refine zc_iload_n (pc := 14) 3 dX7_shelf_14 rfl rfl ?_
  refine zc_new (pc := 15) (mc' := 7) (ms' := 246) (ci := 2) (fs := [.null, .int 0]) tyX4 dX7_shelf_15 inX4 tyX4_ok clX7_77 isX4 iniX4 rfl dfX4 rfl rfl (fun q2 => ?_)
  refine zc_dup (pc := 18) dX7_shelf_18 rfl ?_
  refine zc_iload_n (pc := 19) 1 dX7_shelf_19 rfl rfl ?_
  refine zc_callI (pc := 20) (mc2 := 6) (ms2 := 186) (wc := [(q2, .inr (2, [.null, .int 0]))]) (wr := [(q1, .inl (γ 2, 4, .inr (.inr (.inr (.inr (fun _ => none))))))]) [.int 60] [.ref q2, .int 0, .ref q1] dX7_shelf_20 mtX4_init lkX7_328 imX4_init rfl rfl rfl (Nat.le_of_ble_eq_true rfl) (Nat.le_of_ble_eq_true rfl) [1] [0] rfl rfl (by decide) (by decide) (by decide) rfl rfl bX4_60 (fun r w1 hq => ?_)
  obtain ⟨rfl, q3, rfl⟩ := hq
  refine zc_aast (pc := 23) (ws' := [(q1, .inl (γ 2, 4, .inr (.inr (.inr (.inr (va_up (fun _ => none) 0 (some q2))))))), (q2, .inr (2, [.ref q3, .int (-1)])), (q3, .inl (γ 0, 60, .inl (fun _ => 0)))]) 2 0 1 dX7_shelf_23 rfl rfl rfl rfl (by unfold vp_in; decide) rfl ?_
  refine zc_iinc (pc := 24) (ls' := [.int 4, .int 60, .ref q1, .int 1]) (v := 1) dX7_shelf_24 rfl (by decide) (by decide) rfl ?_
  refine zc_goto (pc := 27) 7 dX7_shelf_27 (by decide) ?_
  refine zc_iload_n (pc := 7) 3 dX7_shelf_7 rfl rfl ?_
  refine zc_aload_n (pc := 8) 2 dX7_shelf_8 rfl rfl ?_
  refine zc_alen (pc := 9) (v := 4) 0 2 dX7_shelf_9 rfl rfl rfl ?_
  refine zc_geF (pc := 10) 30 dX7_shelf_10 (by decide) (by decide) ?_
  refine zc_aload_n (pc := 13) 2 dX7_shelf_13 rfl rfl ?_
  refine zc_iload_n (pc := 14) 3 dX7_shelf_14 rfl rfl ?_
  refine zc_new (pc := 15) (mc' := 5) (ms' := 184) (ci := 2) (fs := [.null, .int 0]) tyX4 dX7_shelf_15 inX4 tyX4_ok clX7_77 isX4 iniX4 rfl dfX4 rfl rfl (fun q4 => ?_)
  refine zc_dup (pc := 18) dX7_shelf_18 rfl ?_
  refine zc_iload_n (pc := 19) 1 dX7_shelf_19 rfl rfl ?_
  refine zc_callI (pc := 20) (mc2 := 4) (ms2 := 124) (wc := [(q4, .inr (2, [.null, .int 0]))]) (wr := [(q1, .inl (γ 2, 4, .inr (.inr (.inr (.inr (va_up (fun _ => none) 0 (some q2))))))), (q2, .inr (2, [.ref q3, .int (-1)])), (q3, .inl (γ 0, 60, .inl (fun _ => 0)))]) [.int 60] [.ref q4, .int 1, .ref q1] dX7_shelf_20 mtX4_init lkX7_328 imX4_init rfl rfl rfl (Nat.le_of_ble_eq_true rfl) (Nat.le_of_ble_eq_true rfl) [3] [0, 1, 2] rfl rfl (by decide) (by decide) (by decide) rfl rfl bX4_60 (fun r w1 hq => ?_)
  obtain ⟨rfl, q5, rfl⟩ := hq
  refine zc_aast (pc := 23) (ws' := [(q1, .inl (γ 2, 4, .inr (.inr (.inr (.inr (va_up (va_up (fun _ => none) 0 (some q2)) 1 (some q4))))))), (q2, .inr (2, [.ref q3, .int (-1)])), (q3, .inl (γ 0, 60, .inl (fun _ => 0))), (q4, .inr (2, [.ref q5, .int (-1)])), (q5, .inl (γ 0, 60, .inl (fun _ => 0)))]) 2 0 3 dX7_shelf_23 rfl rfl rfl rfl (by unfold vp_in; decide) rfl ?_
  refine zc_iinc (pc := 24) (ls' := [.int 4, .int 60, .ref q1, .int 2]) (v := 2) dX7_shelf_24 rfl (by decide) (by decide) rfl ?_
  refine zc_goto (pc := 27) 7 dX7_shelf_27 (by decide) ?_
  refine zc_iload_n (pc := 7) 3 dX7_shelf_7 rfl rfl ?_
  refine zc_aload_n (pc := 8) 2 dX7_shelf_8 rfl rfl ?_
  refine zc_alen (pc := 9) (v := 4) 0 2 dX7_shelf_9 rfl rfl rfl ?_
  refine zc_geF (pc := 10) 30 dX7_shelf_10 (by decide) (by decide) ?_
  refine zc_aload_n (pc := 13) 2 dX7_shelf_13 rfl rfl ?_
  refine zc_iload_n (pc := 14) 3 dX7_shelf_14 rfl rfl ?_
  refine zc_new (pc := 15) (mc' := 3) (ms' := 122) (ci := 2) (fs := [.null, .int 0]) tyX4 dX7_shelf_15 inX4 tyX4_ok clX7_77 isX4 iniX4 rfl dfX4 rfl rfl (fun q6 => ?_)
  refine zc_dup (pc := 18) dX7_shelf_18 rfl ?_
  refine zc_iload_n (pc := 19) 1 dX7_shelf_19 rfl rfl ?_
  refine zc_callI (pc := 20) (mc2 := 2) (ms2 := 62) (wc := [(q6, .inr (2, [.null, .int 0]))]) (wr := [(q1, .inl (γ 2, 4, .inr (.inr (.inr (.inr (va_up (va_up (fun _ => none) 0 (some q2)) 1 (some q4))))))), (q2, .inr (2, [.ref q3, .int (-1)])), (q3, .inl (γ 0, 60, .inl (fun _ => 0))), (q4, .inr (2, [.ref q5, .int (-1)])), (q5, .inl (γ 0, 60, .inl (fun _ => 0)))]) [.int 60] [.ref q6, .int 2, .ref q1] dX7_shelf_20 mtX4_init lkX7_328 imX4_init rfl rfl rfl (Nat.le_of_ble_eq_true rfl) (Nat.le_of_ble_eq_true rfl) [5] [0, 1, 2, 3, 4] rfl rfl (by decide) (by decide) (by decide) rfl rfl bX4_60 (fun r w1 hq => ?_)
  obtain ⟨rfl, q7, rfl⟩ := hq
  refine zc_aast (pc := 23) (ws' := [(q1, .inl (γ 2, 4, .inr (.inr (.inr (.inr (va_up (va_up (va_up (fun _ => none) 0 (some q2)) 1 (some q4)) 2 (some q6))))))), (q2, .inr (2, [.ref q3, .int (-1)])), (q3, .inl (γ 0, 60, .inl (fun _ => 0))), (q4, .inr (2, [.ref q5, .int (-1)])), (q5, .inl (γ 0, 60, .inl (fun _ => 0))), (q6, .inr (2, [.ref q7, .int (-1)])), (q7, .inl (γ 0, 60, .inl (fun _ => 0)))]) 2 0 5 dX7_shelf_23 rfl rfl rfl rfl (by unfold vp_in; decide) rfl ?_
  refine zc_iinc (pc := 24) (ls' := [.int 4, .int 60, .ref q1, .int 3]) (v := 3) dX7_shelf_24 rfl (by decide) (by decide) rfl ?_
  refine zc_goto (pc := 27) 7 dX7_shelf_27 (by decide) ?_
  refine zc_iload_n (pc := 7) 3 dX7_shelf_7 rfl rfl ?_
  refine zc_aload_n (pc := 8) 2 dX7_shelf_8 rfl rfl ?_
  refine zc_alen (pc := 9) (v := 4) 0 2 dX7_shelf_9 rfl rfl rfl ?_
  refine zc_geF (pc := 10) 30 dX7_shelf_10 (by decide) (by decide) ?_
  refine zc_aload_n (pc := 13) 2 dX7_shelf_13 rfl rfl ?_
  refine zc_iload_n (pc := 14) 3 dX7_shelf_14 rfl rfl ?_
  refine zc_new (pc := 15) (mc' := 1) (ms' := 60) (ci := 2) (fs := [.null, .int 0]) tyX4 dX7_shelf_15 inX4 tyX4_ok clX7_77 isX4 iniX4 rfl dfX4 rfl rfl (fun q8 => ?_)
  refine zc_dup (pc := 18) dX7_shelf_18 rfl ?_
  refine zc_iload_n (pc := 19) 1 dX7_shelf_19 rfl rfl ?_
  refine zc_callI (pc := 20) (mc2 := 0) (ms2 := 0) (wc := [(q8, .inr (2, [.null, .int 0]))]) (wr := [(q1, .inl (γ 2, 4, .inr (.inr (.inr (.inr (va_up (va_up (va_up (fun _ => none) 0 (some q2)) 1 (some q4)) 2 (some q6))))))), (q2, .inr (2, [.ref q3, .int (-1)])), (q3, .inl (γ 0, 60, .inl (fun _ => 0))), (q4, .inr (2, [.ref q5, .int (-1)])), (q5, .inl (γ 0, 60, .inl (fun _ => 0))), (q6, .inr (2, [.ref q7, .int (-1)])), (q7, .inl (γ 0, 60, .inl (fun _ => 0)))]) [.int 60] [.ref q8, .int 3, .ref q1] dX7_shelf_20 mtX4_init lkX7_328 imX4_init rfl rfl rfl (Nat.le_of_ble_eq_true rfl) (Nat.le_of_ble_eq_true rfl) [7] [0, 1, 2, 3, 4, 5, 6] rfl rfl (by decide) (by decide) (by decide) rfl rfl bX4_60 (fun r w1 hq => ?_)
  obtain ⟨rfl, q9, rfl⟩ := hq
  refine zc_aast (pc := 23) (ws' := [(q1, .inl (γ 2, 4, .inr (.inr (.inr (.inr (va_up (va_up (va_up (va_up (fun _ => none) 0 (some q2)) 1 (some q4)) 2 (some q6)) 3 (some q8))))))), (q2, .inr (2, [.ref q3, .int (-1)])), (q3, .inl (γ 0, 60, .inl (fun _ => 0))), (q4, .inr (2, [.ref q5, .int (-1)])), (q5, .inl (γ 0, 60, .inl (fun _ => 0))), (q6, .inr (2, [.ref q7, .int (-1)])), (q7, .inl (γ 0, 60, .inl (fun _ => 0))), (q8, .inr (2, [.ref q9, .int (-1)])), (q9, .inl (γ 0, 60, .inl (fun _ => 0)))]) 2 0 7 dX7_shelf_23 rfl rfl rfl rfl (by unfold vp_in; decide) rfl ?_
  refine zc_iinc (pc := 24) (ls' := [.int 4, .int 60, .ref q1, .int 4]) (v := 4) dX7_shelf_24 rfl (by decide) (by decide) rfl ?_
  refine zc_goto (pc := 27) 7 dX7_shelf_27 (by decide) ?_
  refine zc_iload_n (pc := 7) 3 dX7_shelf_7 rfl rfl ?_
  refine zc_aload_n (pc := 8) 2 dX7_shelf_8 rfl rfl ?_
  refine zc_alen (pc := 9) (v := 4) 0 2 dX7_shelf_9 rfl rfl rfl ?_
  refine zc_geT (pc := 10) 30 dX7_shelf_10 (by decide) (by decide) ?_
  refine zc_aload_n (pc := 30) 2 dX7_shelf_30 rfl rfl ?_
  have ef : (va_up (va_up (va_up (va_up (fun _ => none) 0 (some q2)) 1 (some q4)) 2 (some q6)) 3 (some q8)) = (fun j => ([q2, q4, q6, q8] : List Nat)[j]?) := by
    funext j
    match j with
    | 0 => rfl
    | 1 => rfl
    | 2 => rfl
    | 3 => rfl
    | j + 4 => rfl
  rw [ef]
  exact zc_areturn (pc := 31) dX7_shelf_31 ⟨_, rfl⟩ ⟨q1, q2, q3, q4, q5, q6, q7, q8, q9, rfl, rfl⟩
end M61
