section M32
variable {d : Nat} {mu : Mem} {lm : MemL}
theorem zget {i x : Int32} {M : Nat} (h : 0 ≤ i ∧ i < x) (hx : x = nI M) (hM : M < 2147483648) : ∃ j, j < M ∧ i = nI j := by
  subst hx
  exact ⟨_, (zix h.1 h.2 hM).2, (zix h.1 h.2 hM).1⟩
theorem zgetl {i : Int32} {M : Nat} (h : 0 ≤ i ∧ i ≤ nI M) (hM : M < 2147483647) : ∃ j, j ≤ M ∧ i = nI j := by
  obtain ⟨j, hj, rfl⟩ := nI_of (x := i) (by simp only [zlt, zle] at *; omega)
  rw [nIle hj (by omega)] at h
  exact ⟨j, h.2, rfl⟩
theorem zsz_pos {x : Int32} {N : Nat} (h : zSz x N) (hN : N < 2147483648) (h0 : 0 ≤ x) : ∃ j, j ≤ N ∧ x = nI j := by
  rcases h with h | h
  · rw [h] at h0; exact absurd h0 (by decide)
  · exact h
theorem zsz_neg {x : Int32} {N : Nat} (h : zSz x N) (hN : N < 2147483648) (h0 : ¬ 0 ≤ x) : x = -1 := by
  rcases h with h | ⟨j, hj, h⟩
  · exact h
  · rw [h] at h0; exact absurd (nI_pos' (by omega)) h0
theorem sp_renewN (n a b : Int32) : zk_M d RX7 cX7_renewed 5 (some .int) none 0 (zk_loc [.ref 0, .null, .int n, .int a, .int b] 5) [] mu lm (zk_R (some (.int (-1))) mu lm) := by
  refine zk_aload_nN (pc := 0) 1 dX7_renewed_0 rfl rfl ?_
  refine zk_ifnullN (pc := 1) 9 dX7_renewed_1 (by decide) ?_
  refine zk_iconst (pc := 9) (v := -1) dX7_renewed_9 (by decide) ?_
  refine zk_ireturn (pc := 10) dX7_renewed_10 (Or.inl rfl) ?_
  exact zk_ri rfl
def cRen (mu : Mem) (c p N : Nat) (n f : Int32) : Int32 × Mem := if n ≤ nI N then (if 0 ≤ n then (n, zfill (zk_up mu c 1 n) p n.toNatClampNeg f) else (-3, fndM mu 5)) else (-1, mu)
theorem sp_renew {c p N : Nat} (hr : zRow c p N) (n f : Int32) : zk_M (d + 2) RX7 cX7_renewed 5 (some .int) none 0 (zk_loc [.ref 0, .ref c, .int n, .int (nI N), .int f] 5) [] mu lm (zk_R (some (.int (cRen mu c p N n f).1)) (cRen mu c p N n f).2 lm) := by
  have hN := hr.2.2
  refine zk_aload_n (pc := 0) 1 dX7_renewed_0 rfl rfl ?_
  refine zk_ifnull (pc := 1) dX7_renewed_1 ?_
  refine zk_iload_n (pc := 4) 2 dX7_renewed_4 rfl rfl ?_
  refine zk_iload_n (pc := 5) 3 dX7_renewed_5 rfl rfl ?_
  refine zk_icmp_le (pc := 6) 11 dX7_renewed_6 (by decide) (fun h6 => ?_) (fun h6 => ?_)
  · skip
    refine zk_iload_n (pc := 11) 2 dX7_renewed_11 rfl rfl ?_
    refine zk_if_ge (pc := 12) 21 dX7_renewed_12 (by decide) (fun h12 => ?_) (fun h12 => ?_)
    · skip
      obtain ⟨j, hj, rfl⟩ : ∃ j, j ≤ N ∧ n = nI j := by
        obtain ⟨j, hj, rfl⟩ := nI_of (x := n) (by simp only [zlt, zle] at *; omega)
        exact ⟨j, by rw [nIle hj hN] at h6; exact h6, rfl⟩
      refine zk_aload_n (pc := 21) 1 dX7_renewed_21 rfl rfl ?_
      refine zk_iload_n (pc := 22) 2 dX7_renewed_22 rfl rfl ?_
      refine zk_iload (pc := 23) dX7_renewed_23 rfl ?_
      refine zk_callVV (pc := 25) dX7_renewed_25 mtX4_renew lkX7_330 stX4_renew hr.1 (by rfl) [_, _] _ rfl rfl (Nat.le_of_ble_eq_true rfl) (Nat.le_of_ble_eq_true rfl) (sp_X4_renew hr hj f) ?_
      refine zk_iload_n (pc := 28) 2 dX7_renewed_28 rfl rfl ?_
      refine zk_ireturn (pc := 29) dX7_renewed_29 (Or.inl rfl) (zk_pr ?_)
      unfold cRen; rw [if_pos h6, if_pos h12, nI_clamp (by omega)]
    · skip
      refine zk_aload_n (pc := 15) 0 dX7_renewed_15 rfl rfl ?_
      refine zk_iconst (pc := 16) (v := 5) dX7_renewed_16 (by decide) ?_
      refine zk_callVI (pc := 17) dX7_renewed_17 mtX7_found lkX7_93 stX7_found (by rfl) (by rfl) [_] _ rfl rfl (Nat.le_of_ble_eq_true rfl) (Nat.le_of_ble_eq_true rfl) (sp_X7_found (f := 5) (by decide)) ?_
      refine zk_ireturn (pc := 20) dX7_renewed_20 (Or.inl rfl) (zk_pr ?_)
      unfold cRen; rw [if_pos h6, if_neg h12]
  · skip
    refine zk_iconst (pc := 9) (v := -1) dX7_renewed_9 (by decide) ?_
    refine zk_ireturn (pc := 10) dX7_renewed_10 (Or.inl rfl) (zk_pr ?_)
    unfold cRen; rw [if_neg h6]
theorem sp_X7_row_n {r : Int32} (hr : ¬ (0 ≤ r ∧ r < 6)) (n : Int32) : zk_M (d + 1) RX7 cX7_row 3 (some .int) none 0 (zk_loc [.ref 0, .int r, .int n] 3) [] mu lm (zk_R (some (.int (-1))) mu lm) := by
  refine zk_aload_n (pc := 0) 0 dX7_row_0 rfl rfl ?_
  refine zk_aload_n (pc := 1) 0 dX7_row_1 rfl rfl ?_
  refine zk_getR (pc := 2) dX7_row_2 flX7_13 rfl rfl ?_
  refine zk_iload_n (pc := 5) 1 dX7_row_5 rfl rfl ?_
  refine zk_callSU (pc := 6) dX7_row_6 mtX7_lookUp lkX7_64 stX7_lookUp [_, _] _ rfl rfl (Nat.le_of_ble_eq_true rfl) (Nat.le_of_ble_eq_true rfl) (sp_rowN hr) ?_
  refine zk_iload_n (pc := 9) 2 dX7_row_9 rfl rfl ?_
  refine zk_bipush (pc := 10) (v := 40) dX7_row_10 (by decide) ?_
  refine zk_iconst (pc := 12) (v := 0) dX7_row_12 (by decide) ?_
  refine zk_callVI (pc := 13) dX7_row_13 mtX7_renewed lkX7_68 stX7_renewed (by rfl) (by rfl) [_, _, _, _] _ rfl rfl (Nat.le_of_ble_eq_true rfl) (Nat.le_of_ble_eq_true rfl) (sp_renewN _ _ _) ?_
  refine zk_ireturn (pc := 16) dX7_row_16 (Or.inl rfl) ?_
  exact zk_ri rfl
theorem sp_X7_text_n {r : Int32} (hr : ¬ (0 ≤ r ∧ r < 4)) (n : Int32) : zk_M (d + 1) RX7 cX7_text 3 (some .int) none 0 (zk_loc [.ref 0, .int r, .int n] 3) [] mu lm (zk_R (some (.int (-1))) mu lm) := by
  refine zk_aload_n (pc := 0) 0 dX7_text_0 rfl rfl ?_
  refine zk_aload_n (pc := 1) 0 dX7_text_1 rfl rfl ?_
  refine zk_getR (pc := 2) dX7_text_2 flX7_17 rfl rfl ?_
  refine zk_iload_n (pc := 5) 1 dX7_text_5 rfl rfl ?_
  refine zk_callSU (pc := 6) dX7_text_6 mtX7_lookUp lkX7_64 stX7_lookUp [_, _] _ rfl rfl (Nat.le_of_ble_eq_true rfl) (Nat.le_of_ble_eq_true rfl) (sp_textN hr) ?_
  refine zk_iload_n (pc := 9) 2 dX7_text_9 rfl rfl ?_
  refine zk_bipush (pc := 10) (v := 60) dX7_text_10 (by decide) ?_
  refine zk_bipush (pc := 12) (v := 32) dX7_text_12 (by decide) ?_
  refine zk_callVI (pc := 14) dX7_text_14 mtX7_renewed lkX7_68 stX7_renewed (by rfl) (by rfl) [_, _, _, _] _ rfl rfl (Nat.le_of_ble_eq_true rfl) (Nat.le_of_ble_eq_true rfl) (sp_renewN _ _ _) ?_
  refine zk_ireturn (pc := 17) dX7_text_17 (Or.inl rfl) ?_
  exact zk_ri rfl
theorem sp_X7_lay_n {r : Int32} (hr : ¬ (0 ≤ r ∧ r < 6)) (i v : Int32) : zk_M (d + 1) RX7 cX7_lay 6 (some .int) none 0 (zk_loc [.ref 0, .int r, .int i, .int v] 6) [] mu lm (zk_R (some (.int (-1))) mu lm) := by
  refine zk_aload_n (pc := 0) 0 dX7_lay_0 rfl rfl ?_
  refine zk_getR (pc := 1) dX7_lay_1 flX7_13 rfl rfl ?_
  refine zk_iload_n (pc := 4) 1 dX7_lay_4 rfl rfl ?_
  refine zk_callSU (pc := 5) dX7_lay_5 mtX7_lookUp lkX7_64 stX7_lookUp [_, _] _ rfl rfl (Nat.le_of_ble_eq_true rfl) (Nat.le_of_ble_eq_true rfl) (sp_rowN hr) ?_
  refine zs_astoreN (pc := 8) (ls' := [_, _, _, _, _, _]) 4 dX7_lay_8 (by decide) rfl ?_
  refine zk_aloadN (pc := 10) dX7_lay_10 rfl ?_
  refine zk_ifnonnullN (pc := 12) dX7_lay_12 ?_
  refine zk_iconst (pc := 15) (v := -1) dX7_lay_15 (by decide) ?_
  refine zk_ireturn (pc := 16) dX7_lay_16 (Or.inl rfl) ?_
  exact zk_ri rfl
theorem sp_X7_at_n {r : Int32} (hr : ¬ (0 ≤ r ∧ r < 6)) (i : Int32) : zk_M (d + 1) RX7 cX7_at 5 (some .int) none 0 (zk_loc [.ref 0, .int r, .int i] 5) [] mu lm (zk_R (some (.int (-1))) mu lm) := by
  refine zk_aload_n (pc := 0) 0 dX7_at_0 rfl rfl ?_
  refine zk_getR (pc := 1) dX7_at_1 flX7_13 rfl rfl ?_
  refine zk_iload_n (pc := 4) 1 dX7_at_4 rfl rfl ?_
  refine zk_callSU (pc := 5) dX7_at_5 mtX7_lookUp lkX7_64 stX7_lookUp [_, _] _ rfl rfl (Nat.le_of_ble_eq_true rfl) (Nat.le_of_ble_eq_true rfl) (sp_rowN hr) ?_
  refine zs_astore_nN (pc := 8) (ls' := [_, _, _, _, _]) 3 dX7_at_8 rfl (by decide) rfl ?_
  refine zk_aload_nN (pc := 9) 3 dX7_at_9 rfl rfl ?_
  refine zk_ifnonnullN (pc := 10) dX7_at_10 ?_
  refine zk_iconst (pc := 13) (v := -1) dX7_at_13 (by decide) ?_
  refine zk_ireturn (pc := 14) dX7_at_14 (Or.inl rfl) ?_
  exact zk_ri rfl
theorem sp_X7_tear_n {r : Int32} (hr : ¬ (0 ≤ r ∧ r < 6))  : zk_M (d + 1) RX7 cX7_tear 3 (some .int) none 0 (zk_loc [.ref 0, .int r] 3) [] mu lm (zk_R (some (.int (-1))) mu lm) := by
  refine zk_aload_n (pc := 0) 0 dX7_tear_0 rfl rfl ?_
  refine zk_getR (pc := 1) dX7_tear_1 flX7_13 rfl rfl ?_
  refine zk_iload_n (pc := 4) 1 dX7_tear_4 rfl rfl ?_
  refine zk_callSU (pc := 5) dX7_tear_5 mtX7_lookUp lkX7_64 stX7_lookUp [_, _] _ rfl rfl (Nat.le_of_ble_eq_true rfl) (Nat.le_of_ble_eq_true rfl) (sp_rowN hr) ?_
  refine zs_astore_nN (pc := 8) (ls' := [_, _, _]) 2 dX7_tear_8 rfl (by decide) rfl ?_
  refine zk_aload_nN (pc := 9) 2 dX7_tear_9 rfl rfl ?_
  refine zk_ifnonnullN (pc := 10) dX7_tear_10 ?_
  refine zk_iconst (pc := 13) (v := -1) dX7_tear_13 (by decide) ?_
  refine zk_ireturn (pc := 14) dX7_tear_14 (Or.inl rfl) ?_
  exact zk_ri rfl
theorem sp_X7_mean_n {r : Int32} (hr : ¬ (0 ≤ r ∧ r < 6))  : zk_M (d + 1) RX7 cX7_mean 6 (some .int) none 0 (zk_loc [.ref 0, .int r] 6) [] mu lm (zk_R (some (.int (-1))) mu lm) := by
  refine zk_aload_n (pc := 0) 0 dX7_mean_0 rfl rfl ?_
  refine zk_getR (pc := 1) dX7_mean_1 flX7_13 rfl rfl ?_
  refine zk_iload_n (pc := 4) 1 dX7_mean_4 rfl rfl ?_
  refine zk_callSU (pc := 5) dX7_mean_5 mtX7_lookUp lkX7_64 stX7_lookUp [_, _] _ rfl rfl (Nat.le_of_ble_eq_true rfl) (Nat.le_of_ble_eq_true rfl) (sp_rowN hr) ?_
  refine zs_astore_nN (pc := 8) (ls' := [_, _, _, _, _, _]) 2 dX7_mean_8 rfl (by decide) rfl ?_
  refine zk_aload_nN (pc := 9) 2 dX7_mean_9 rfl rfl ?_
  refine zk_ifnonnullN (pc := 10) dX7_mean_10 ?_
  refine zk_iconst (pc := 13) (v := -1) dX7_mean_13 (by decide) ?_
  refine zk_ireturn (pc := 14) dX7_mean_14 (Or.inl rfl) ?_
  exact zk_ri rfl
theorem sp_X7_who_n {r : Int32} (hr : ¬ (0 ≤ r ∧ r < 6))  : zk_M (d + 1) RX7 cX7_who 6 (some .int) none 0 (zk_loc [.ref 0, .int r] 6) [] mu lm (zk_R (some (.int (-1))) mu lm) := by
  refine zk_aload_n (pc := 0) 0 dX7_who_0 rfl rfl ?_
  refine zk_getR (pc := 1) dX7_who_1 flX7_13 rfl rfl ?_
  refine zk_iload_n (pc := 4) 1 dX7_who_4 rfl rfl ?_
  refine zk_callSU (pc := 5) dX7_who_5 mtX7_lookUp lkX7_64 stX7_lookUp [_, _] _ rfl rfl (Nat.le_of_ble_eq_true rfl) (Nat.le_of_ble_eq_true rfl) (sp_rowN hr) ?_
  refine zs_astore_nN (pc := 8) (ls' := [_, _, _, _, _, _]) 2 dX7_who_8 rfl (by decide) rfl ?_
  refine zk_aload_nN (pc := 9) 2 dX7_who_9 rfl rfl ?_
  refine zk_ifnonnullN (pc := 10) dX7_who_10 ?_
  refine zk_iconst (pc := 13) (v := -1) dX7_who_13 (by decide) ?_
  refine zk_ireturn (pc := 14) dX7_who_14 (Or.inl rfl) ?_
  exact zk_ri rfl
theorem sp_X7_kinds_n {r : Int32} (hr : ¬ (0 ≤ r ∧ r < 6))  : zk_M (d + 1) RX7 cX7_kinds 4 (some .int) none 0 (zk_loc [.ref 0, .int r] 4) [] mu lm (zk_R (some (.int (-1))) mu lm) := by
  refine zk_aload_n (pc := 0) 0 dX7_kinds_0 rfl rfl ?_
  refine zk_getR (pc := 1) dX7_kinds_1 flX7_13 rfl rfl ?_
  refine zk_iload_n (pc := 4) 1 dX7_kinds_4 rfl rfl ?_
  refine zk_callSU (pc := 5) dX7_kinds_5 mtX7_lookUp lkX7_64 stX7_lookUp [_, _] _ rfl rfl (Nat.le_of_ble_eq_true rfl) (Nat.le_of_ble_eq_true rfl) (sp_rowN hr) ?_
  refine zs_astore_nN (pc := 8) (ls' := [_, _, _, _]) 2 dX7_kinds_8 rfl (by decide) rfl ?_
  refine zk_aload_nN (pc := 9) 2 dX7_kinds_9 rfl rfl ?_
  refine zk_ifnonnullN (pc := 10) dX7_kinds_10 ?_
  refine zk_iconst (pc := 13) (v := -1) dX7_kinds_13 (by decide) ?_
  refine zk_ireturn (pc := 14) dX7_kinds_14 (Or.inl rfl) ?_
  exact zk_ri rfl
theorem sp_X7_test_n {r : Int32} (hr : ¬ (0 ≤ r ∧ r < 6))  : zk_M (d + 1) RX7 cX7_test 9 (some .int) none 0 (zk_loc [.ref 0, .int r] 9) [] mu lm (zk_R (some (.int (-1))) mu lm) := by
  refine zk_aload_n (pc := 0) 0 dX7_test_0 rfl rfl ?_
  refine zk_getR (pc := 1) dX7_test_1 flX7_13 rfl rfl ?_
  refine zk_iload_n (pc := 4) 1 dX7_test_4 rfl rfl ?_
  refine zk_callSU (pc := 5) dX7_test_5 mtX7_lookUp lkX7_64 stX7_lookUp [_, _] _ rfl rfl (Nat.le_of_ble_eq_true rfl) (Nat.le_of_ble_eq_true rfl) (sp_rowN hr) ?_
  refine zs_astore_nN (pc := 8) (ls' := [_, _, _, _, _, _, _, _, _]) 2 dX7_test_8 rfl (by decide) rfl ?_
  refine zk_aload_nN (pc := 9) 2 dX7_test_9 rfl rfl ?_
  refine zk_ifnonnullN (pc := 10) dX7_test_10 ?_
  refine zk_iconst (pc := 13) (v := -1) dX7_test_13 (by decide) ?_
  refine zk_ireturn (pc := 14) dX7_test_14 (Or.inl rfl) ?_
  exact zk_ri rfl
theorem sp_X7_leaks_n {r : Int32} (hr : ¬ (0 ≤ r ∧ r < 6))  : zk_M (d + 1) RX7 cX7_leaks 5 (some .int) none 0 (zk_loc [.ref 0, .int r] 5) [] mu lm (zk_R (some (.int (-1))) mu lm) := by
  refine zk_aload_n (pc := 0) 0 dX7_leaks_0 rfl rfl ?_
  refine zk_getR (pc := 1) dX7_leaks_1 flX7_13 rfl rfl ?_
  refine zk_iload_n (pc := 4) 1 dX7_leaks_4 rfl rfl ?_
  refine zk_callSU (pc := 5) dX7_leaks_5 mtX7_lookUp lkX7_64 stX7_lookUp [_, _] _ rfl rfl (Nat.le_of_ble_eq_true rfl) (Nat.le_of_ble_eq_true rfl) (sp_rowN hr) ?_
  refine zs_astore_nN (pc := 8) (ls' := [_, _, _, _, _]) 2 dX7_leaks_8 rfl (by decide) rfl ?_
  refine zk_aload_nN (pc := 9) 2 dX7_leaks_9 rfl rfl ?_
  refine zk_ifnonnullN (pc := 10) dX7_leaks_10 ?_
  refine zk_iconst (pc := 13) (v := -1) dX7_leaks_13 (by decide) ?_
  refine zk_ireturn (pc := 14) dX7_leaks_14 (Or.inl rfl) ?_
  exact zk_ri rfl
theorem sp_X7_put_n {r : Int32} (hr : ¬ (0 ≤ r ∧ r < 4)) (i v : Int32) : zk_M (d + 1) RX7 cX7_put 7 (some .int) none 0 (zk_loc [.ref 0, .int r, .int i, .int v] 7) [] mu lm (zk_R (some (.int (-1))) mu lm) := by
  refine zk_aload_n (pc := 0) 0 dX7_put_0 rfl rfl ?_
  refine zk_getR (pc := 1) dX7_put_1 flX7_17 rfl rfl ?_
  refine zk_iload_n (pc := 4) 1 dX7_put_4 rfl rfl ?_
  refine zk_callSU (pc := 5) dX7_put_5 mtX7_lookUp lkX7_64 stX7_lookUp [_, _] _ rfl rfl (Nat.le_of_ble_eq_true rfl) (Nat.le_of_ble_eq_true rfl) (sp_textN hr) ?_
  refine zs_astoreN (pc := 8) (ls' := [_, _, _, _, _, _, _]) 4 dX7_put_8 (by decide) rfl ?_
  refine zk_aloadN (pc := 10) dX7_put_10 rfl ?_
  refine zk_ifnonnullN (pc := 12) dX7_put_12 ?_
  refine zk_iconst (pc := 15) (v := -1) dX7_put_15 (by decide) ?_
  refine zk_ireturn (pc := 16) dX7_put_16 (Or.inl rfl) ?_
  exact zk_ri rfl
theorem sp_X7_fault_n {r : Int32} (hr : ¬ (0 ≤ r ∧ r < 4))  : zk_M (d + 1) RX7 cX7_fault 3 (some .int) none 0 (zk_loc [.ref 0, .int r] 3) [] mu lm (zk_R (some (.int (-1))) mu lm) := by
  refine zk_aload_n (pc := 0) 0 dX7_fault_0 rfl rfl ?_
  refine zk_getR (pc := 1) dX7_fault_1 flX7_17 rfl rfl ?_
  refine zk_iload_n (pc := 4) 1 dX7_fault_4 rfl rfl ?_
  refine zk_callSU (pc := 5) dX7_fault_5 mtX7_lookUp lkX7_64 stX7_lookUp [_, _] _ rfl rfl (Nat.le_of_ble_eq_true rfl) (Nat.le_of_ble_eq_true rfl) (sp_textN hr) ?_
  refine zs_astore_nN (pc := 8) (ls' := [_, _, _]) 2 dX7_fault_8 rfl (by decide) rfl ?_
  refine zk_aload_nN (pc := 9) 2 dX7_fault_9 rfl rfl ?_
  refine zk_ifnonnullN (pc := 10) dX7_fault_10 ?_
  refine zk_iconst (pc := 13) (v := -1) dX7_fault_13 (by decide) ?_
  refine zk_ireturn (pc := 14) dX7_fault_14 (Or.inl rfl) ?_
  exact zk_ri rfl
theorem sp_X7_club_n {r : Int32} (hr : ¬ (0 ≤ r ∧ r < 4))  : zk_M (d + 1) RX7 cX7_club 4 (some .int) none 0 (zk_loc [.ref 0, .int r] 4) [] mu lm (zk_R (some (.int (-1))) mu lm) := by
  refine zk_aload_n (pc := 0) 0 dX7_club_0 rfl rfl ?_
  refine zk_getR (pc := 1) dX7_club_1 flX7_17 rfl rfl ?_
  refine zk_iload_n (pc := 4) 1 dX7_club_4 rfl rfl ?_
  refine zk_callSU (pc := 5) dX7_club_5 mtX7_lookUp lkX7_64 stX7_lookUp [_, _] _ rfl rfl (Nat.le_of_ble_eq_true rfl) (Nat.le_of_ble_eq_true rfl) (sp_textN hr) ?_
  refine zs_astore_nN (pc := 8) (ls' := [_, _, _, _]) 2 dX7_club_8 rfl (by decide) rfl ?_
  refine zk_aload_nN (pc := 9) 2 dX7_club_9 rfl rfl ?_
  refine zk_ifnonnullN (pc := 10) dX7_club_10 ?_
  refine zk_iconst (pc := 13) (v := -1) dX7_club_13 (by decide) ?_
  refine zk_ireturn (pc := 14) dX7_club_14 (Or.inl rfl) ?_
  exact zk_ri rfl
theorem sp_X7_row {k : Nat} (hk : k < 6) (n : Int32) : zk_M (d + 3) RX7 cX7_row 3 (some .int) none 0 (zk_loc [.ref 0, .int (nI k), .int n] 3) [] mu lm (zk_R (some (.int (cRen mu (2 + 2 * k) (3 + 2 * k) 40 n 0).1)) (cRen mu (2 + 2 * k) (3 + 2 * k) 40 n 0).2 lm) := by
  refine zk_aload_n (pc := 0) 0 dX7_row_0 rfl rfl ?_
  refine zk_aload_n (pc := 1) 0 dX7_row_1 rfl rfl ?_
  refine zk_getR (pc := 2) dX7_row_2 flX7_13 rfl rfl ?_
  refine zk_iload_n (pc := 5) 1 dX7_row_5 rfl rfl ?_
  refine zk_callSA (pc := 6) dX7_row_6 mtX7_lookUp lkX7_64 stX7_lookUp [_, _] _ rfl rfl (Nat.le_of_ble_eq_true rfl) (Nat.le_of_ble_eq_true rfl) (sp_row hk) ?_
  refine zk_iload_n (pc := 9) 2 dX7_row_9 rfl rfl ?_
  refine zk_bipush (pc := 10) (v := 40) dX7_row_10 (by decide) ?_
  refine zk_iconst (pc := 12) (v := 0) dX7_row_12 (by decide) ?_
  refine zk_callVI (pc := 13) dX7_row_13 mtX7_renewed lkX7_68 stX7_renewed (by rfl) (by rfl) [_, _, _, _] _ rfl rfl (Nat.le_of_ble_eq_true rfl) (Nat.le_of_ble_eq_true rfl) (sp_renew (zRows hk).1 n 0) ?_
  exact zk_ireturn (pc := 16) dX7_row_16 (Or.inl rfl) ⟨rfl, rfl, rfl⟩
theorem sp_X7_text {k : Nat} (hk : k < 4) (n : Int32) : zk_M (d + 3) RX7 cX7_text 3 (some .int) none 0 (zk_loc [.ref 0, .int (nI k), .int n] 3) [] mu lm (zk_R (some (.int (cRen mu (15 + 2 * k) (16 + 2 * k) 60 n 32).1)) (cRen mu (15 + 2 * k) (16 + 2 * k) 60 n 32).2 lm) := by
  refine zk_aload_n (pc := 0) 0 dX7_text_0 rfl rfl ?_
  refine zk_aload_n (pc := 1) 0 dX7_text_1 rfl rfl ?_
  refine zk_getR (pc := 2) dX7_text_2 flX7_17 rfl rfl ?_
  refine zk_iload_n (pc := 5) 1 dX7_text_5 rfl rfl ?_
  refine zk_callSA (pc := 6) dX7_text_6 mtX7_lookUp lkX7_64 stX7_lookUp [_, _] _ rfl rfl (Nat.le_of_ble_eq_true rfl) (Nat.le_of_ble_eq_true rfl) (sp_text hk) ?_
  refine zk_iload_n (pc := 9) 2 dX7_text_9 rfl rfl ?_
  refine zk_bipush (pc := 10) (v := 60) dX7_text_10 (by decide) ?_
  refine zk_bipush (pc := 12) (v := 32) dX7_text_12 (by decide) ?_
  refine zk_callVI (pc := 14) dX7_text_14 mtX7_renewed lkX7_68 stX7_renewed (by rfl) (by rfl) [_, _, _, _] _ rfl rfl (Nat.le_of_ble_eq_true rfl) (Nat.le_of_ble_eq_true rfl) (sp_renew (zTexts hk).1 n 32) ?_
  exact zk_ireturn (pc := 17) dX7_text_17 (Or.inl rfl) ⟨rfl, rfl, rfl⟩
def cLay (mu : Mem) (c p n : Nat) (i v : Int32) : Int32 × Mem := if 0 ≤ mu c 1 then (if 0 ≤ i ∧ i < mu c 1 ∧ i < nI n then (1, zk_up (zk_up mu 0 10 (mu p i.toNatClampNeg)) p i.toNatClampNeg v) else (-3, fndM mu 2)) else (-3, fndM mu 1)
theorem sp_X7_lay {k : Nat} (hk : k < 6) (i v : Int32) : zk_M (d + 3) RX7 cX7_lay 6 (some .int) none 0 (zk_loc [.ref 0, .int (nI k), .int i, .int v] 6) [] mu lm (zk_R (some (.int (cLay mu (2 + 2 * k) (3 + 2 * k) 40 i v).1)) (cLay mu (2 + 2 * k) (3 + 2 * k) 40 i v).2 lm) := by
  have hr := (zRows hk).1
  by_cases a1 : 0 ≤ mu (2 + 2 * k) 1
  · by_cases a2 : 0 ≤ i ∧ i < mu (2 + 2 * k) 1 ∧ i < nI 40
    · have e : rfPl mu (2 + 2 * k) 40 i = (0, mu) := by unfold rfPl; rw [if_pos a1, if_pos a2]
      have hf : cLay mu (2 + 2 * k) (3 + 2 * k) 40 i v = (1, zk_up (zk_up mu 0 10 (mu (3 + 2 * k) i.toNatClampNeg)) (3 + 2 * k) i.toNatClampNeg v) := by unfold cLay; rw [if_pos a1, if_pos a2]
      have hi := zix a2.1 a2.2.2 (by decide)
      rw [hf]
      refine zk_aload_n (pc := 0) 0 dX7_lay_0 rfl rfl ?_
      refine zk_getR (pc := 1) dX7_lay_1 flX7_13 rfl rfl ?_
      refine zk_iload_n (pc := 4) 1 dX7_lay_4 rfl rfl ?_
      refine zk_callSA (pc := 5) dX7_lay_5 mtX7_lookUp lkX7_64 stX7_lookUp [_, _] _ rfl rfl (Nat.le_of_ble_eq_true rfl) (Nat.le_of_ble_eq_true rfl) (sp_row hk) ?_
      refine zs_astore (pc := 8) (ls' := [_, _, _, _, _, _]) 4 dX7_lay_8 (by decide) rfl ?_
      refine zk_aload (pc := 10) dX7_lay_10 rfl ?_
      refine zk_ifnonnull (pc := 12) 17 dX7_lay_12 (by decide) ?_
      refine zk_aload_n (pc := 17) 0 dX7_lay_17 rfl rfl ?_
      refine zk_aload (pc := 18) dX7_lay_18 rfl ?_
      refine zk_iload_n (pc := 20) 2 dX7_lay_20 rfl rfl ?_
      refine zk_callVI (pc := 21) dX7_lay_21 mtX7_refusedPlace lkX7_72 stX7_refusedPlace (by rfl) (by rfl) [_, _] _ rfl rfl (Nat.le_of_ble_eq_true rfl) (Nat.le_of_ble_eq_true rfl) (by have q := sp_X7_refusedPlace (d := d + 1) (mu := mu) (lm := lm) hr i; rw [e] at q; exact q) ?_
      refine zs_istore (pc := 24) (ls' := [_, _, _, _, _, _]) 5 dX7_lay_24 (by decide) rfl ?_
      refine zk_iload (pc := 26) dX7_lay_26 rfl ?_
      refine zk_if_eq (pc := 28) 34 dX7_lay_28 (by decide) (fun h28 => ?_) (fun h28 => ?_)
      · skip
        refine zk_aload_n (pc := 34) 0 dX7_lay_34 rfl rfl ?_
        refine zk_aload (pc := 35) dX7_lay_35 rfl ?_
        refine zk_iload_n (pc := 37) 2 dX7_lay_37 rfl rfl ?_
        refine zk_callVI (pc := 38) dX7_lay_38 mtX4_read lkX7_76 stX4_read hr.1 (by rfl) [_] _ rfl rfl (Nat.le_of_ble_eq_true rfl) (Nat.le_of_ble_eq_true rfl) (by have q := sp_X4_read (d := d + 1) (mu := mu) (lm := lm) hr i; rw [if_pos a2] at q; exact q) ?_
        refine zk_putI (pc := 41) dX7_lay_41 flX7_82 rfl rfl ?_
        refine zk_aload (pc := 44) dX7_lay_44 rfl ?_
        refine zk_iload_n (pc := 46) 2 dX7_lay_46 rfl rfl ?_
        refine zk_iload_n (pc := 47) 3 dX7_lay_47 rfl rfl ?_
        refine zk_callVV (pc := 48) dX7_lay_48 mtX4_write lkX7_85 stX4_write hr.1 (by rfl) [_, _] _ rfl rfl (Nat.le_of_ble_eq_true rfl) (Nat.le_of_ble_eq_true rfl) (by have q := sp_X4_write (d := d + 1) (mu := zk_up mu 0 10 (mu (3 + 2 * k) i.toNatClampNeg)) (lm := lm) hr i v; rw [zup_c _ _ _ (by omega), if_pos a2] at q; exact q) ?_
        refine zk_iconst (pc := 51) (v := 1) dX7_lay_51 (by decide) ?_
        exact zk_ireturn (pc := 52) dX7_lay_52 (Or.inl rfl) (zk_pr rfl)
      · exact absurd rfl h28 --
    · have e : rfPl mu (2 + 2 * k) 40 i = (-3, fndM mu 2) := by unfold rfPl; rw [if_pos a1, if_neg a2]
      have hf : cLay mu (2 + 2 * k) (3 + 2 * k) 40 i v = (-3, fndM mu 2) := by unfold cLay; rw [if_pos a1, if_neg a2]
      rw [hf]
      refine zk_aload_n (pc := 0) 0 dX7_lay_0 rfl rfl ?_
      refine zk_getR (pc := 1) dX7_lay_1 flX7_13 rfl rfl ?_
      refine zk_iload_n (pc := 4) 1 dX7_lay_4 rfl rfl ?_
      refine zk_callSA (pc := 5) dX7_lay_5 mtX7_lookUp lkX7_64 stX7_lookUp [_, _] _ rfl rfl (Nat.le_of_ble_eq_true rfl) (Nat.le_of_ble_eq_true rfl) (sp_row hk) ?_
      refine zs_astore (pc := 8) (ls' := [_, _, _, _, _, _]) 4 dX7_lay_8 (by decide) rfl ?_
      refine zk_aload (pc := 10) dX7_lay_10 rfl ?_
      refine zk_ifnonnull (pc := 12) 17 dX7_lay_12 (by decide) ?_
      refine zk_aload_n (pc := 17) 0 dX7_lay_17 rfl rfl ?_
      refine zk_aload (pc := 18) dX7_lay_18 rfl ?_
      refine zk_iload_n (pc := 20) 2 dX7_lay_20 rfl rfl ?_
      refine zk_callVI (pc := 21) dX7_lay_21 mtX7_refusedPlace lkX7_72 stX7_refusedPlace (by rfl) (by rfl) [_, _] _ rfl rfl (Nat.le_of_ble_eq_true rfl) (Nat.le_of_ble_eq_true rfl) (by have q := sp_X7_refusedPlace (d := d + 1) (mu := mu) (lm := lm) hr i; rw [e] at q; exact q) ?_
      refine zs_istore (pc := 24) (ls' := [_, _, _, _, _, _]) 5 dX7_lay_24 (by decide) rfl ?_
      refine zk_iload (pc := 26) dX7_lay_26 rfl ?_
      refine zk_if_eq (pc := 28) 34 dX7_lay_28 (by decide) (fun h28 => ?_) (fun h28 => ?_)
      · exact absurd h28 (show ¬ (-3 : Int32) = 0 by decide) --
      · skip
        refine zk_iload (pc := 31) dX7_lay_31 rfl ?_
        exact zk_ireturn (pc := 33) dX7_lay_33 (Or.inl rfl) (zk_pr rfl)
  · have e : rfPl mu (2 + 2 * k) 40 i = (-3, fndM mu 1) := by unfold rfPl; rw [if_neg a1]
    have hf : cLay mu (2 + 2 * k) (3 + 2 * k) 40 i v = (-3, fndM mu 1) := by unfold cLay; rw [if_neg a1]
    rw [hf]
    refine zk_aload_n (pc := 0) 0 dX7_lay_0 rfl rfl ?_
    refine zk_getR (pc := 1) dX7_lay_1 flX7_13 rfl rfl ?_
    refine zk_iload_n (pc := 4) 1 dX7_lay_4 rfl rfl ?_
    refine zk_callSA (pc := 5) dX7_lay_5 mtX7_lookUp lkX7_64 stX7_lookUp [_, _] _ rfl rfl (Nat.le_of_ble_eq_true rfl) (Nat.le_of_ble_eq_true rfl) (sp_row hk) ?_
    refine zs_astore (pc := 8) (ls' := [_, _, _, _, _, _]) 4 dX7_lay_8 (by decide) rfl ?_
    refine zk_aload (pc := 10) dX7_lay_10 rfl ?_
    refine zk_ifnonnull (pc := 12) 17 dX7_lay_12 (by decide) ?_
    refine zk_aload_n (pc := 17) 0 dX7_lay_17 rfl rfl ?_
    refine zk_aload (pc := 18) dX7_lay_18 rfl ?_
    refine zk_iload_n (pc := 20) 2 dX7_lay_20 rfl rfl ?_
    refine zk_callVI (pc := 21) dX7_lay_21 mtX7_refusedPlace lkX7_72 stX7_refusedPlace (by rfl) (by rfl) [_, _] _ rfl rfl (Nat.le_of_ble_eq_true rfl) (Nat.le_of_ble_eq_true rfl) (by have q := sp_X7_refusedPlace (d := d + 1) (mu := mu) (lm := lm) hr i; rw [e] at q; exact q) ?_
    refine zs_istore (pc := 24) (ls' := [_, _, _, _, _, _]) 5 dX7_lay_24 (by decide) rfl ?_
    refine zk_iload (pc := 26) dX7_lay_26 rfl ?_
    refine zk_if_eq (pc := 28) 34 dX7_lay_28 (by decide) (fun h28 => ?_) (fun h28 => ?_)
    · exact absurd h28 (show ¬ (-3 : Int32) = 0 by decide) --
    · skip
      refine zk_iload (pc := 31) dX7_lay_31 rfl ?_
      exact zk_ireturn (pc := 33) dX7_lay_33 (Or.inl rfl) (zk_pr rfl)
def cAt (mu : Mem) (c p n : Nat) (i : Int32) : Int32 × Mem := if 0 ≤ mu c 1 then (if 0 ≤ i ∧ i < mu c 1 ∧ i < nI n then (1, zk_up mu 0 10 (mu p i.toNatClampNeg)) else (-3, fndM mu 2)) else (-3, fndM mu 1)
theorem sp_X7_at {k : Nat} (hk : k < 6) (i : Int32) : zk_M (d + 3) RX7 cX7_at 5 (some .int) none 0 (zk_loc [.ref 0, .int (nI k), .int i] 5) [] mu lm (zk_R (some (.int (cAt mu (2 + 2 * k) (3 + 2 * k) 40 i).1)) (cAt mu (2 + 2 * k) (3 + 2 * k) 40 i).2 lm) := by
  have hr := (zRows hk).1
  by_cases a1 : 0 ≤ mu (2 + 2 * k) 1
  · by_cases a2 : 0 ≤ i ∧ i < mu (2 + 2 * k) 1 ∧ i < nI 40
    · have e : rfPl mu (2 + 2 * k) 40 i = (0, mu) := by unfold rfPl; rw [if_pos a1, if_pos a2]
      have hf : cAt mu (2 + 2 * k) (3 + 2 * k) 40 i = (1, zk_up mu 0 10 (mu (3 + 2 * k) i.toNatClampNeg)) := by unfold cAt; rw [if_pos a1, if_pos a2]
      have hi := zix a2.1 a2.2.2 (by decide)
      rw [hf]
      refine zk_aload_n (pc := 0) 0 dX7_at_0 rfl rfl ?_
      refine zk_getR (pc := 1) dX7_at_1 flX7_13 rfl rfl ?_
      refine zk_iload_n (pc := 4) 1 dX7_at_4 rfl rfl ?_
      refine zk_callSA (pc := 5) dX7_at_5 mtX7_lookUp lkX7_64 stX7_lookUp [_, _] _ rfl rfl (Nat.le_of_ble_eq_true rfl) (Nat.le_of_ble_eq_true rfl) (sp_row hk) ?_
      refine zs_astore_n (pc := 8) (ls' := [_, _, _, _, _]) 3 dX7_at_8 rfl (by decide) rfl ?_
      refine zk_aload_n (pc := 9) 3 dX7_at_9 rfl rfl ?_
      refine zk_ifnonnull (pc := 10) 15 dX7_at_10 (by decide) ?_
      refine zk_aload_n (pc := 15) 0 dX7_at_15 rfl rfl ?_
      refine zk_aload_n (pc := 16) 3 dX7_at_16 rfl rfl ?_
      refine zk_iload_n (pc := 17) 2 dX7_at_17 rfl rfl ?_
      refine zk_callVI (pc := 18) dX7_at_18 mtX7_refusedPlace lkX7_72 stX7_refusedPlace (by rfl) (by rfl) [_, _] _ rfl rfl (Nat.le_of_ble_eq_true rfl) (Nat.le_of_ble_eq_true rfl) (by have q := sp_X7_refusedPlace (d := d + 1) (mu := mu) (lm := lm) hr i; rw [e] at q; exact q) ?_
      refine zs_istore (pc := 21) (ls' := [_, _, _, _, _]) 4 dX7_at_21 (by decide) rfl ?_
      refine zk_iload (pc := 23) dX7_at_23 rfl ?_
      refine zk_if_eq (pc := 25) 31 dX7_at_25 (by decide) (fun h25 => ?_) (fun h25 => ?_)
      · skip
        refine zk_aload_n (pc := 31) 0 dX7_at_31 rfl rfl ?_
        refine zk_aload_n (pc := 32) 3 dX7_at_32 rfl rfl ?_
        refine zk_iload_n (pc := 33) 2 dX7_at_33 rfl rfl ?_
        refine zk_callVI (pc := 34) dX7_at_34 mtX4_read lkX7_76 stX4_read hr.1 (by rfl) [_] _ rfl rfl (Nat.le_of_ble_eq_true rfl) (Nat.le_of_ble_eq_true rfl) (by have q := sp_X4_read (d := d + 1) (mu := mu) (lm := lm) hr i; rw [if_pos a2] at q; exact q) ?_
        refine zk_putI (pc := 37) dX7_at_37 flX7_82 rfl rfl ?_
        refine zk_iconst (pc := 40) (v := 1) dX7_at_40 (by decide) ?_
        exact zk_ireturn (pc := 41) dX7_at_41 (Or.inl rfl) (zk_pr rfl)
      · exact absurd rfl h25 --
    · have e : rfPl mu (2 + 2 * k) 40 i = (-3, fndM mu 2) := by unfold rfPl; rw [if_pos a1, if_neg a2]
      have hf : cAt mu (2 + 2 * k) (3 + 2 * k) 40 i = (-3, fndM mu 2) := by unfold cAt; rw [if_pos a1, if_neg a2]
      rw [hf]
      refine zk_aload_n (pc := 0) 0 dX7_at_0 rfl rfl ?_
      refine zk_getR (pc := 1) dX7_at_1 flX7_13 rfl rfl ?_
      refine zk_iload_n (pc := 4) 1 dX7_at_4 rfl rfl ?_
      refine zk_callSA (pc := 5) dX7_at_5 mtX7_lookUp lkX7_64 stX7_lookUp [_, _] _ rfl rfl (Nat.le_of_ble_eq_true rfl) (Nat.le_of_ble_eq_true rfl) (sp_row hk) ?_
      refine zs_astore_n (pc := 8) (ls' := [_, _, _, _, _]) 3 dX7_at_8 rfl (by decide) rfl ?_
      refine zk_aload_n (pc := 9) 3 dX7_at_9 rfl rfl ?_
      refine zk_ifnonnull (pc := 10) 15 dX7_at_10 (by decide) ?_
      refine zk_aload_n (pc := 15) 0 dX7_at_15 rfl rfl ?_
      refine zk_aload_n (pc := 16) 3 dX7_at_16 rfl rfl ?_
      refine zk_iload_n (pc := 17) 2 dX7_at_17 rfl rfl ?_
      refine zk_callVI (pc := 18) dX7_at_18 mtX7_refusedPlace lkX7_72 stX7_refusedPlace (by rfl) (by rfl) [_, _] _ rfl rfl (Nat.le_of_ble_eq_true rfl) (Nat.le_of_ble_eq_true rfl) (by have q := sp_X7_refusedPlace (d := d + 1) (mu := mu) (lm := lm) hr i; rw [e] at q; exact q) ?_
      refine zs_istore (pc := 21) (ls' := [_, _, _, _, _]) 4 dX7_at_21 (by decide) rfl ?_
      refine zk_iload (pc := 23) dX7_at_23 rfl ?_
      refine zk_if_eq (pc := 25) 31 dX7_at_25 (by decide) (fun h25 => ?_) (fun h25 => ?_)
      · exact absurd h25 (show ¬ (-3 : Int32) = 0 by decide) --
      · skip
        refine zk_iload (pc := 28) dX7_at_28 rfl ?_
        exact zk_ireturn (pc := 30) dX7_at_30 (Or.inl rfl) (zk_pr rfl)
  · have e : rfPl mu (2 + 2 * k) 40 i = (-3, fndM mu 1) := by unfold rfPl; rw [if_neg a1]
    have hf : cAt mu (2 + 2 * k) (3 + 2 * k) 40 i = (-3, fndM mu 1) := by unfold cAt; rw [if_neg a1]
    rw [hf]
    refine zk_aload_n (pc := 0) 0 dX7_at_0 rfl rfl ?_
    refine zk_getR (pc := 1) dX7_at_1 flX7_13 rfl rfl ?_
    refine zk_iload_n (pc := 4) 1 dX7_at_4 rfl rfl ?_
    refine zk_callSA (pc := 5) dX7_at_5 mtX7_lookUp lkX7_64 stX7_lookUp [_, _] _ rfl rfl (Nat.le_of_ble_eq_true rfl) (Nat.le_of_ble_eq_true rfl) (sp_row hk) ?_
    refine zs_astore_n (pc := 8) (ls' := [_, _, _, _, _]) 3 dX7_at_8 rfl (by decide) rfl ?_
    refine zk_aload_n (pc := 9) 3 dX7_at_9 rfl rfl ?_
    refine zk_ifnonnull (pc := 10) 15 dX7_at_10 (by decide) ?_
    refine zk_aload_n (pc := 15) 0 dX7_at_15 rfl rfl ?_
    refine zk_aload_n (pc := 16) 3 dX7_at_16 rfl rfl ?_
    refine zk_iload_n (pc := 17) 2 dX7_at_17 rfl rfl ?_
    refine zk_callVI (pc := 18) dX7_at_18 mtX7_refusedPlace lkX7_72 stX7_refusedPlace (by rfl) (by rfl) [_, _] _ rfl rfl (Nat.le_of_ble_eq_true rfl) (Nat.le_of_ble_eq_true rfl) (by have q := sp_X7_refusedPlace (d := d + 1) (mu := mu) (lm := lm) hr i; rw [e] at q; exact q) ?_
    refine zs_istore (pc := 21) (ls' := [_, _, _, _, _]) 4 dX7_at_21 (by decide) rfl ?_
    refine zk_iload (pc := 23) dX7_at_23 rfl ?_
    refine zk_if_eq (pc := 25) 31 dX7_at_25 (by decide) (fun h25 => ?_) (fun h25 => ?_)
    · exact absurd h25 (show ¬ (-3 : Int32) = 0 by decide) --
    · skip
      refine zk_iload (pc := 28) dX7_at_28 rfl ?_
      exact zk_ireturn (pc := 30) dX7_at_30 (Or.inl rfl) (zk_pr rfl)
def cPut (mu : Mem) (c p n : Nat) (i v : Int32) : Int32 × Mem := if 0 ≤ mu c 1 then (if 0 ≤ i ∧ i < mu c 1 ∧ i < nI n then (mu p i.toNatClampNeg + 1000, zk_up mu p i.toNatClampNeg v.toInt8.toInt32) else (-3, fndM mu 2)) else (-3, fndM mu 1)
theorem sp_X7_put {k : Nat} (hk : k < 4) (i v : Int32) : zk_M (d + 3) RX7 cX7_put 7 (some .int) none 0 (zk_loc [.ref 0, .int (nI k), .int i, .int v] 7) [] mu lm (zk_R (some (.int (cPut mu (15 + 2 * k) (16 + 2 * k) 60 i v).1)) (cPut mu (15 + 2 * k) (16 + 2 * k) 60 i v).2 lm) := by
  have hr := (zTexts hk).1
  by_cases a1 : 0 ≤ mu (15 + 2 * k) 1
  · by_cases a2 : 0 ≤ i ∧ i < mu (15 + 2 * k) 1 ∧ i < nI 60
    · have e : rfPl mu (15 + 2 * k) 60 i = (0, mu) := by unfold rfPl; rw [if_pos a1, if_pos a2]
      have hf : cPut mu (15 + 2 * k) (16 + 2 * k) 60 i v = (mu (16 + 2 * k) i.toNatClampNeg + 1000, zk_up mu (16 + 2 * k) i.toNatClampNeg v.toInt8.toInt32) := by unfold cPut; rw [if_pos a1, if_pos a2]
      have hi := zix a2.1 a2.2.2 (by decide)
      rw [hf]
      refine zk_aload_n (pc := 0) 0 dX7_put_0 rfl rfl ?_
      refine zk_getR (pc := 1) dX7_put_1 flX7_17 rfl rfl ?_
      refine zk_iload_n (pc := 4) 1 dX7_put_4 rfl rfl ?_
      refine zk_callSA (pc := 5) dX7_put_5 mtX7_lookUp lkX7_64 stX7_lookUp [_, _] _ rfl rfl (Nat.le_of_ble_eq_true rfl) (Nat.le_of_ble_eq_true rfl) (sp_text hk) ?_
      refine zs_astore (pc := 8) (ls' := [_, _, _, _, _, _, _]) 4 dX7_put_8 (by decide) rfl ?_
      refine zk_aload (pc := 10) dX7_put_10 rfl ?_
      refine zk_ifnonnull (pc := 12) 17 dX7_put_12 (by decide) ?_
      refine zk_aload_n (pc := 17) 0 dX7_put_17 rfl rfl ?_
      refine zk_aload (pc := 18) dX7_put_18 rfl ?_
      refine zk_iload_n (pc := 20) 2 dX7_put_20 rfl rfl ?_
      refine zk_callVI (pc := 21) dX7_put_21 mtX7_refusedPlace lkX7_72 stX7_refusedPlace (by rfl) (by rfl) [_, _] _ rfl rfl (Nat.le_of_ble_eq_true rfl) (Nat.le_of_ble_eq_true rfl) (by have q := sp_X7_refusedPlace (d := d + 1) (mu := mu) (lm := lm) hr i; rw [e] at q; exact q) ?_
      refine zs_istore (pc := 24) (ls' := [_, _, _, _, _, _, _]) 5 dX7_put_24 (by decide) rfl ?_
      refine zk_iload (pc := 26) dX7_put_26 rfl ?_
      refine zk_if_eq (pc := 28) 34 dX7_put_28 (by decide) (fun h28 => ?_) (fun h28 => ?_)
      · skip
        refine zk_aload (pc := 34) dX7_put_34 rfl ?_
        refine zk_iload_n (pc := 36) 2 dX7_put_36 rfl rfl ?_
        refine zk_callVI (pc := 37) dX7_put_37 mtX4_read lkX7_76 stX4_read hr.1 (by rfl) [_] _ rfl rfl (Nat.le_of_ble_eq_true rfl) (Nat.le_of_ble_eq_true rfl) (by have q := sp_X4_read (d := d + 1) (mu := mu) (lm := lm) hr i; rw [if_pos a2] at q; exact q) ?_
        refine zs_istore (pc := 40) (ls' := [_, _, _, _, _, _, _]) 6 dX7_put_40 (by decide) rfl ?_
        refine zk_aload (pc := 42) dX7_put_42 rfl ?_
        refine zk_iload_n (pc := 44) 2 dX7_put_44 rfl rfl ?_
        refine zk_iload_n (pc := 45) 3 dX7_put_45 rfl rfl ?_
        refine zk_i2b (pc := 46) dX7_put_46 ?_
        refine zk_callVV (pc := 47) dX7_put_47 mtX4_write lkX7_85 stX4_write hr.1 (by rfl) [_, _] _ rfl rfl (Nat.le_of_ble_eq_true rfl) (Nat.le_of_ble_eq_true rfl) (by have q := sp_X4_write (d := d + 1) (mu := mu) (lm := lm) hr i v.toInt8.toInt32; rw [if_pos a2] at q; exact q) ?_
        refine zk_iload (pc := 50) dX7_put_50 rfl ?_
        refine zk_sipush (pc := 52) (v := 1000) dX7_put_52 (by decide) ?_
        refine zk_iadd (pc := 55) dX7_put_55 ?_
        exact zk_ireturn (pc := 56) dX7_put_56 (Or.inl rfl) (zk_pr rfl)
      · exact absurd rfl h28 --
    · have e : rfPl mu (15 + 2 * k) 60 i = (-3, fndM mu 2) := by unfold rfPl; rw [if_pos a1, if_neg a2]
      have hf : cPut mu (15 + 2 * k) (16 + 2 * k) 60 i v = (-3, fndM mu 2) := by unfold cPut; rw [if_pos a1, if_neg a2]
      rw [hf]
      refine zk_aload_n (pc := 0) 0 dX7_put_0 rfl rfl ?_
      refine zk_getR (pc := 1) dX7_put_1 flX7_17 rfl rfl ?_
      refine zk_iload_n (pc := 4) 1 dX7_put_4 rfl rfl ?_
      refine zk_callSA (pc := 5) dX7_put_5 mtX7_lookUp lkX7_64 stX7_lookUp [_, _] _ rfl rfl (Nat.le_of_ble_eq_true rfl) (Nat.le_of_ble_eq_true rfl) (sp_text hk) ?_
      refine zs_astore (pc := 8) (ls' := [_, _, _, _, _, _, _]) 4 dX7_put_8 (by decide) rfl ?_
      refine zk_aload (pc := 10) dX7_put_10 rfl ?_
      refine zk_ifnonnull (pc := 12) 17 dX7_put_12 (by decide) ?_
      refine zk_aload_n (pc := 17) 0 dX7_put_17 rfl rfl ?_
      refine zk_aload (pc := 18) dX7_put_18 rfl ?_
      refine zk_iload_n (pc := 20) 2 dX7_put_20 rfl rfl ?_
      refine zk_callVI (pc := 21) dX7_put_21 mtX7_refusedPlace lkX7_72 stX7_refusedPlace (by rfl) (by rfl) [_, _] _ rfl rfl (Nat.le_of_ble_eq_true rfl) (Nat.le_of_ble_eq_true rfl) (by have q := sp_X7_refusedPlace (d := d + 1) (mu := mu) (lm := lm) hr i; rw [e] at q; exact q) ?_
      refine zs_istore (pc := 24) (ls' := [_, _, _, _, _, _, _]) 5 dX7_put_24 (by decide) rfl ?_
      refine zk_iload (pc := 26) dX7_put_26 rfl ?_
      refine zk_if_eq (pc := 28) 34 dX7_put_28 (by decide) (fun h28 => ?_) (fun h28 => ?_)
      · exact absurd h28 (show ¬ (-3 : Int32) = 0 by decide) --
      · skip
        refine zk_iload (pc := 31) dX7_put_31 rfl ?_
        exact zk_ireturn (pc := 33) dX7_put_33 (Or.inl rfl) (zk_pr rfl)
  · have e : rfPl mu (15 + 2 * k) 60 i = (-3, fndM mu 1) := by unfold rfPl; rw [if_neg a1]
    have hf : cPut mu (15 + 2 * k) (16 + 2 * k) 60 i v = (-3, fndM mu 1) := by unfold cPut; rw [if_neg a1]
    rw [hf]
    refine zk_aload_n (pc := 0) 0 dX7_put_0 rfl rfl ?_
    refine zk_getR (pc := 1) dX7_put_1 flX7_17 rfl rfl ?_
    refine zk_iload_n (pc := 4) 1 dX7_put_4 rfl rfl ?_
    refine zk_callSA (pc := 5) dX7_put_5 mtX7_lookUp lkX7_64 stX7_lookUp [_, _] _ rfl rfl (Nat.le_of_ble_eq_true rfl) (Nat.le_of_ble_eq_true rfl) (sp_text hk) ?_
    refine zs_astore (pc := 8) (ls' := [_, _, _, _, _, _, _]) 4 dX7_put_8 (by decide) rfl ?_
    refine zk_aload (pc := 10) dX7_put_10 rfl ?_
    refine zk_ifnonnull (pc := 12) 17 dX7_put_12 (by decide) ?_
    refine zk_aload_n (pc := 17) 0 dX7_put_17 rfl rfl ?_
    refine zk_aload (pc := 18) dX7_put_18 rfl ?_
    refine zk_iload_n (pc := 20) 2 dX7_put_20 rfl rfl ?_
    refine zk_callVI (pc := 21) dX7_put_21 mtX7_refusedPlace lkX7_72 stX7_refusedPlace (by rfl) (by rfl) [_, _] _ rfl rfl (Nat.le_of_ble_eq_true rfl) (Nat.le_of_ble_eq_true rfl) (by have q := sp_X7_refusedPlace (d := d + 1) (mu := mu) (lm := lm) hr i; rw [e] at q; exact q) ?_
    refine zs_istore (pc := 24) (ls' := [_, _, _, _, _, _, _]) 5 dX7_put_24 (by decide) rfl ?_
    refine zk_iload (pc := 26) dX7_put_26 rfl ?_
    refine zk_if_eq (pc := 28) 34 dX7_put_28 (by decide) (fun h28 => ?_) (fun h28 => ?_)
    · exact absurd h28 (show ¬ (-3 : Int32) = 0 by decide) --
    · skip
      refine zk_iload (pc := 31) dX7_put_31 rfl ?_
      exact zk_ireturn (pc := 33) dX7_put_33 (Or.inl rfl) (zk_pr rfl)
theorem sp_X7_tear {k : Nat} (hk : k < 6) : zk_M (d + 1) RX7 cX7_tear 3 (some .int) none 0 (zk_loc [.ref 0, .int (nI k)] 3) [] mu lm (zk_R (some (.int (if 0 ≤ mu (2 + 2 * k) 1 then 1 else -3))) (if 0 ≤ mu (2 + 2 * k) 1 then zk_up mu (2 + 2 * k) 1 (-1) else fndM mu 1) lm) := by
  have hr := (zRows hk).1
  refine zk_aload_n (pc := 0) 0 dX7_tear_0 rfl rfl ?_
  refine zk_getR (pc := 1) dX7_tear_1 flX7_13 rfl rfl ?_
  refine zk_iload_n (pc := 4) 1 dX7_tear_4 rfl rfl ?_
  refine zk_callSA (pc := 5) dX7_tear_5 mtX7_lookUp lkX7_64 stX7_lookUp [_, _] _ rfl rfl (Nat.le_of_ble_eq_true rfl) (Nat.le_of_ble_eq_true rfl) (sp_row hk) ?_
  refine zs_astore_n (pc := 8) (ls' := [_, _, _]) 2 dX7_tear_8 rfl (by decide) rfl ?_
  refine zk_aload_n (pc := 9) 2 dX7_tear_9 rfl rfl ?_
  refine zk_ifnonnull (pc := 10) 15 dX7_tear_10 (by decide) ?_
  refine zk_aload_n (pc := 15) 2 dX7_tear_15 rfl rfl ?_
  refine zk_callVI (pc := 16) dX7_tear_16 mtX4_isThere lkX7_89 stX4_isThere hr.1 (by rfl) [] _ rfl rfl (Nat.le_of_ble_eq_true rfl) (Nat.le_of_ble_eq_true rfl) (sp_X4_isThere hr) ?_
  refine zk_if_ne (pc := 19) 28 dX7_tear_19 (by decide) (fun h19 => ?_) (fun h19 => ?_)
  · rw [zb_n] at h19
    refine zk_aload_n (pc := 28) 2 dX7_tear_28 rfl rfl ?_
    refine zk_iconst (pc := 29) (v := -1) dX7_tear_29 (by decide) ?_
    refine zk_putI (pc := 30) dX7_tear_30 flX7_96 hr.1 rfl ?_
    refine zk_iconst (pc := 33) (v := 1) dX7_tear_33 (by decide) ?_
    rw [if_pos h19, if_pos h19]
    exact zk_ireturn (pc := 34) dX7_tear_34 (Or.inl rfl) ⟨rfl, rfl, rfl⟩
  · rw [zb_e] at h19
    refine zk_aload_n (pc := 22) 0 dX7_tear_22 rfl rfl ?_
    refine zk_iconst (pc := 23) (v := 1) dX7_tear_23 (by decide) ?_
    refine zk_callVI (pc := 24) dX7_tear_24 mtX7_found lkX7_93 stX7_found (by rfl) (by rfl) [_] _ rfl rfl (Nat.le_of_ble_eq_true rfl) (Nat.le_of_ble_eq_true rfl) (sp_X7_found (f := 1) (by decide)) ?_
    rw [if_neg h19, if_neg h19]
    exact zk_ireturn (pc := 27) dX7_tear_27 (Or.inl rfl) ⟨rfl, rfl, rfl⟩
def zsumL : Nat → (Nat → Int32) → Int64
  | 0, _ => 0
  | k + 1, f => zsumL k f + (f k).toInt64
def cMean (mu : Mem) (c p : Nat) : Int32 × Mem := if 0 ≤ mu c 1 then (if mu c 1 = 0 then (-3, fndM mu 4) else (1, zk_up mu 0 10 (zsumL (mu c 1).toNatClampNeg (mu p) / (mu c 1).toInt64).toInt32)) else (-3, fndM mu 1)
theorem sp_X7_mean {k : Nat} (hk : k < 6) (hz : zSz (mu (2 + 2 * k) 1) 40) : zk_M (d + 3) RX7 cX7_mean 6 (some .int) none 0 (zk_loc [.ref 0, .int (nI k)] 6) [] mu lm (zk_R (some (.int (cMean mu (2 + 2 * k) (3 + 2 * k)).1)) (cMean mu (2 + 2 * k) (3 + 2 * k)).2 lm) := by
  have hr := (zRows hk).1
  refine zk_aload_n (pc := 0) 0 dX7_mean_0 rfl rfl ?_
  refine zk_getR (pc := 1) dX7_mean_1 flX7_13 rfl rfl ?_
  refine zk_iload_n (pc := 4) 1 dX7_mean_4 rfl rfl ?_
  refine zk_callSA (pc := 5) dX7_mean_5 mtX7_lookUp lkX7_64 stX7_lookUp [_, _] _ rfl rfl (Nat.le_of_ble_eq_true rfl) (Nat.le_of_ble_eq_true rfl) (sp_row hk) ?_
  refine zs_astore_n (pc := 8) (ls' := [_, _, _, _, _, _]) 2 dX7_mean_8 rfl (by decide) rfl ?_
  refine zk_aload_n (pc := 9) 2 dX7_mean_9 rfl rfl ?_
  refine zk_ifnonnull (pc := 10) 15 dX7_mean_10 (by decide) ?_
  refine zk_aload_n (pc := 15) 2 dX7_mean_15 rfl rfl ?_
  refine zk_callVI (pc := 16) dX7_mean_16 mtX4_isThere lkX7_89 stX4_isThere hr.1 (by rfl) [] _ rfl rfl (Nat.le_of_ble_eq_true rfl) (Nat.le_of_ble_eq_true rfl) (sp_X4_isThere hr) ?_
  refine zk_if_ne (pc := 19) 28 dX7_mean_19 (by decide) (fun h19 => ?_) (fun h19 => ?_)
  · rw [zb_n] at h19
    refine zk_aload_n (pc := 28) 2 dX7_mean_28 rfl rfl ?_
    refine zk_getI (pc := 29) dX7_mean_29 flX7_96 hr.1 rfl ?_
    refine zk_if_ne (pc := 32) 41 dX7_mean_32 (by decide) (fun h32 => ?_) (fun h32 => ?_)
    · skip
      refine zk_lconst (pc := 41) (v := 0) dX7_mean_41 (by decide) ?_
      refine zs_lstore_n (pc := 42) (ls' := [_, _, _, _, _, _]) 3 dX7_mean_42 rfl (by decide) rfl ?_
      refine zk_iconst (pc := 43) (v := 0) dX7_mean_43 (by decide) ?_
      refine zs_istore (pc := 44) (ls' := [_, _, _, _, _, _]) 5 dX7_mean_44 (by decide) rfl ?_
      obtain ⟨j, hj, hs⟩ := zsz_pos hz (by decide) h19
      have hj0 : ¬ j = 0 := fun q => h32 (by rw [hs, q]; rfl)
      have hf : cMean mu (2 + 2 * k) (3 + 2 * k) = (1, zk_up mu 0 10 (zsumL j (mu (3 + 2 * k)) / (mu (2 + 2 * k) 1).toInt64).toInt32) := by
        unfold cMean; rw [if_pos h19, if_neg h32, show (mu (2 + 2 * k) 1).toNatClampNeg = j by rw [hs, nI_clamp (by omega)]]
      rw [hf]
      have loop : ∀ q, q ≤ j → zk_M (d + 3) RX7 cX7_mean 6 (some .int) none 46 [.ref 0, .int (nI k), .ref (2 + 2 * k), .long (zsumL q (mu (3 + 2 * k))), .retAddr 0, .int (nI q)] [] mu lm (zk_R (some (.int 1)) (zk_up mu 0 10 (zsumL j (mu (3 + 2 * k)) / (mu (2 + 2 * k) 1).toInt64).toInt32) lm) := by
        refine zk_ind j (fun q hq ih => ?_)
        refine zk_iload (pc := 46) dX7_mean_46 rfl ?_
        refine zk_aload_n (pc := 48) 2 dX7_mean_48 rfl rfl ?_
        refine zk_getI (pc := 49) dX7_mean_49 flX7_96 hr.1 rfl ?_
        refine zk_icmp_ge (pc := 52) 71 dX7_mean_52 (by decide) (fun h52 => ?_) (fun h52 => ?_)
        · rw [hs, nIle (by omega) (by omega)] at h52
          refine zk_aload_n (pc := 71) 0 dX7_mean_71 rfl rfl ?_
          refine zk_lload_n (pc := 72) 3 dX7_mean_72 rfl rfl ?_
          refine zk_aload_n (pc := 73) 2 dX7_mean_73 rfl rfl ?_
          refine zk_getI (pc := 74) dX7_mean_74 flX7_96 hr.1 rfl ?_
          refine zk_i2l (pc := 77) dX7_mean_77 ?_
          refine zk_ldiv (pc := 78) dX7_mean_78 (by rw [hs, nI_l (by omega), show (0 : Int64) = lN 0 from rfl, propext (pk_lEQ (by omega) (by decide))]; exact hj0) ?_
          refine zk_l2i (pc := 79) dX7_mean_79 ?_
          refine zk_putI (pc := 80) dX7_mean_80 flX7_82 rfl rfl ?_
          refine zk_iconst (pc := 83) (v := 1) dX7_mean_83 (by decide) ?_
          refine zk_ireturn (pc := 84) dX7_mean_84 (Or.inl rfl) (zk_rm rfl ?_ rfl)
          rw [show q = j by omega]
        · rw [hs, nIle (by omega) (by omega)] at h52
          refine zk_lload_n (pc := 55) 3 dX7_mean_55 rfl rfl ?_
          refine zk_aload_n (pc := 56) 2 dX7_mean_56 rfl rfl ?_
          refine zk_iload (pc := 57) dX7_mean_57 rfl ?_
          refine zk_callVI (pc := 59) dX7_mean_59 mtX4_read lkX7_76 stX4_read hr.1 (by rfl) [_] _ rfl rfl (Nat.le_of_ble_eq_true rfl) (Nat.le_of_ble_eq_true rfl) (sp_read hr hs hj (by omega)) ?_
          refine zk_i2l (pc := 62) dX7_mean_62 ?_
          refine zk_ladd (pc := 63) dX7_mean_63 ?_
          refine zs_lstore_n (pc := 64) (ls' := [_, _, _, _, _, _]) 3 dX7_mean_64 rfl (by decide) rfl ?_
          refine zs_iinc (pc := 65) (ls' := [_, _, _, _, _, _]) dX7_mean_65 rfl (nI_1 q) (by decide) rfl ?_
          refine zk_goto (pc := 68) 46 dX7_mean_68 (by decide) ?_
          exact ih (by omega)
      exact loop 0 (Nat.zero_le _)
    · skip
      refine zk_aload_n (pc := 35) 0 dX7_mean_35 rfl rfl ?_
      refine zk_iconst (pc := 36) (v := 4) dX7_mean_36 (by decide) ?_
      refine zk_callVI (pc := 37) dX7_mean_37 mtX7_found lkX7_93 stX7_found (by rfl) (by rfl) [_] _ rfl rfl (Nat.le_of_ble_eq_true rfl) (Nat.le_of_ble_eq_true rfl) (sp_X7_found (f := 4) (by decide)) ?_
      exact zk_ireturn (pc := 40) dX7_mean_40 (Or.inl rfl) (zk_pr (by unfold cMean; rw [if_pos h19, if_pos h32]))
  · rw [zb_e] at h19
    refine zk_aload_n (pc := 22) 0 dX7_mean_22 rfl rfl ?_
    refine zk_iconst (pc := 23) (v := 1) dX7_mean_23 (by decide) ?_
    refine zk_callVI (pc := 24) dX7_mean_24 mtX7_found lkX7_93 stX7_found (by rfl) (by rfl) [_] _ rfl rfl (Nat.le_of_ble_eq_true rfl) (Nat.le_of_ble_eq_true rfl) (sp_X7_found (f := 1) (by decide)) ?_
    exact zk_ireturn (pc := 27) dX7_mean_27 (Or.inl rfl) (zk_pr (by unfold cMean; rw [if_neg h19]))
def cFlt (mu : Mem) (c p : Nat) : Int32 × Mem := if 0 ≤ mu c 1 then (fltR (mu p) (mu c 1).toNatClampNeg (mu c 1).toNatClampNeg 0 0 0, mu) else (-3, fndM mu 1)
theorem sp_X7_fault {k : Nat} (hk : k < 4) (hz : zSz (mu (15 + 2 * k) 1) 60) : zk_M (d + 4) RX7 cX7_fault 3 (some .int) none 0 (zk_loc [.ref 0, .int (nI k)] 3) [] mu lm (zk_R (some (.int (cFlt mu (15 + 2 * k) (16 + 2 * k)).1)) (cFlt mu (15 + 2 * k) (16 + 2 * k)).2 lm) := by
  have hr := (zTexts hk).1
  refine zk_aload_n (pc := 0) 0 dX7_fault_0 rfl rfl ?_
  refine zk_getR (pc := 1) dX7_fault_1 flX7_17 rfl rfl ?_
  refine zk_iload_n (pc := 4) 1 dX7_fault_4 rfl rfl ?_
  refine zk_callSA (pc := 5) dX7_fault_5 mtX7_lookUp lkX7_64 stX7_lookUp [_, _] _ rfl rfl (Nat.le_of_ble_eq_true rfl) (Nat.le_of_ble_eq_true rfl) (sp_text hk) ?_
  refine zs_astore_n (pc := 8) (ls' := [_, _, _]) 2 dX7_fault_8 rfl (by decide) rfl ?_
  refine zk_aload_n (pc := 9) 2 dX7_fault_9 rfl rfl ?_
  refine zk_ifnonnull (pc := 10) 15 dX7_fault_10 (by decide) ?_
  refine zk_aload_n (pc := 15) 2 dX7_fault_15 rfl rfl ?_
  refine zk_callVI (pc := 16) dX7_fault_16 mtX4_isThere lkX7_89 stX4_isThere hr.1 (by rfl) [] _ rfl rfl (Nat.le_of_ble_eq_true rfl) (Nat.le_of_ble_eq_true rfl) (sp_X4_isThere hr) ?_
  refine zk_if_ne (pc := 19) 28 dX7_fault_19 (by decide) (fun h19 => ?_) (fun h19 => ?_)
  · rw [zb_n] at h19
    obtain ⟨j, hj, hs⟩ := zsz_pos hz (by decide) h19
    refine zk_aload_n (pc := 28) 2 dX7_fault_28 rfl rfl ?_
    refine zk_callSI (pc := 29) dX7_fault_29 mtX5_faultOf lkX7_110 stX5_faultOf [_] _ rfl rfl (Nat.le_of_ble_eq_true rfl) (Nat.le_of_ble_eq_true rfl) (sp_X5_faultOf hr hs hj (by omega)) ?_
    exact zk_ireturn (pc := 32) dX7_fault_32 (Or.inl rfl) (zk_pr (by unfold cFlt; rw [if_pos h19, hs, nI_clamp (by omega)]))
  · rw [zb_e] at h19
    refine zk_aload_n (pc := 22) 0 dX7_fault_22 rfl rfl ?_
    refine zk_iconst (pc := 23) (v := 1) dX7_fault_23 (by decide) ?_
    refine zk_callVI (pc := 24) dX7_fault_24 mtX7_found lkX7_93 stX7_found (by rfl) (by rfl) [_] _ rfl rfl (Nat.le_of_ble_eq_true rfl) (Nat.le_of_ble_eq_true rfl) (sp_X7_found (f := 1) (by decide)) ?_
    exact zk_ireturn (pc := 27) dX7_fault_27 (Or.inl rfl) (zk_pr (by unfold cFlt; rw [if_neg h19]))
def kpM (mu : Mem) : Nat → Mem
  | 0 => mu
  | k + 1 => zk_up (kpM mu k) (31 + 2 * k) 1 (-1)
theorem kpM_c {mu : Mem} {c q : Nat} (h : c < 31) : ∀ k, kpM mu k c q = mu c q
  | 0 => rfl
  | k + 1 => by rw [kpM, zup_c _ _ _ (by omega)]; exact kpM_c h k
def clubM (mu : Mem) (p j : Nat) : Mem := kpM (zk_up (frshM (setR (mu p) j 0 0 (zk_up mu 23 6 0))) 28 1 0) 3
def cClub (mu : Mem) (c p : Nat) : Int32 × Mem := if 0 ≤ mu c 1 then (if fltR (mu p) (mu c 1).toNatClampNeg (mu c 1).toNatClampNeg 0 0 0 = -9 then (clubM mu p (mu c 1).toNatClampNeg 23 6, clubM mu p (mu c 1).toNatClampNeg) else (-4, mu)) else (-3, fndM mu 1)
theorem sp_X7_club {k : Nat} (hk : k < 4) (hz : zSz (mu (15 + 2 * k) 1) 60) : zk_M (d + 4) RX7 cX7_club 4 (some .int) none 0 (zk_loc [.ref 0, .int (nI k)] 4) [] mu lm (zk_R (some (.int (cClub mu (15 + 2 * k) (16 + 2 * k)).1)) (cClub mu (15 + 2 * k) (16 + 2 * k)).2 lm) := by
  have hr := (zTexts hk).1
  have loop : ∀ nu : Mem, ∀ q, q ≤ 3 → zk_M (d + 4) RX7 cX7_club 4 (some .int) none 65 [.ref 0, .int (nI k), .ref (15 + 2 * k), .int (nI q)] [] (kpM nu q) lm (zk_R (some (.int (kpM nu 3 23 6))) (kpM nu 3) lm) := by
    intro nu
    refine zk_ind 3 (fun q hq ih => ?_)
    refine zk_iload_n (pc := 65) 3 dX7_club_65 rfl rfl ?_
    refine zk_aload_n (pc := 66) 0 dX7_club_66 rfl rfl ?_
    refine zk_getR (pc := 67) dX7_club_67 flX7_38 rfl rfl ?_
    refine zk_alen (pc := 70) dX7_club_70 rfl (by decide) ?_
    refine zk_icmp_ge (pc := 71) 90 dX7_club_71 (by decide) (fun h71 => ?_) (fun h71 => ?_)
    · rw [nIle (by omega) (by omega)] at h71
      refine zk_aload_n (pc := 90) 0 dX7_club_90 rfl rfl ?_
      refine zk_getR (pc := 91) dX7_club_91 flX7_23 rfl rfl ?_
      refine zk_getI (pc := 94) dX7_club_94 flX7_123 rfl rfl ?_
      refine zk_ireturn (pc := 97) dX7_club_97 (Or.inl rfl) (zk_rm ?_ ?_ rfl)
      · rw [show q = 3 by omega]
      · rw [show q = 3 by omega]
    · rw [nIle (by omega) (by omega)] at h71
      refine zk_aload_n (pc := 74) 0 dX7_club_74 rfl rfl ?_
      refine zk_getR (pc := 75) dX7_club_75 flX7_38 rfl rfl ?_
      refine zk_iload_n (pc := 78) 3 dX7_club_78 rfl rfl ?_
      refine zk_aaload (pc := 79) q dX7_club_79 rfl (by decide) rfl (by omega) (zKepts (by omega)).2 ?_
      refine zk_iconst (pc := 80) (v := -1) dX7_club_80 (by decide) ?_
      refine zk_putI (pc := 81) dX7_club_81 flX7_34 (zKepts (by omega)).1.1 rfl ?_
      refine zs_iinc (pc := 84) (ls' := [_, _, _, _]) dX7_club_84 rfl (nI_1 q) (by decide) rfl ?_
      refine zk_goto (pc := 87) 65 dX7_club_87 (by decide) ?_
      exact ih (by omega)
  refine zk_aload_n (pc := 0) 0 dX7_club_0 rfl rfl ?_
  refine zk_getR (pc := 1) dX7_club_1 flX7_17 rfl rfl ?_
  refine zk_iload_n (pc := 4) 1 dX7_club_4 rfl rfl ?_
  refine zk_callSA (pc := 5) dX7_club_5 mtX7_lookUp lkX7_64 stX7_lookUp [_, _] _ rfl rfl (Nat.le_of_ble_eq_true rfl) (Nat.le_of_ble_eq_true rfl) (sp_text hk) ?_
  refine zs_astore_n (pc := 8) (ls' := [_, _, _, _]) 2 dX7_club_8 rfl (by decide) rfl ?_
  refine zk_aload_n (pc := 9) 2 dX7_club_9 rfl rfl ?_
  refine zk_ifnonnull (pc := 10) 15 dX7_club_10 (by decide) ?_
  refine zk_aload_n (pc := 15) 2 dX7_club_15 rfl rfl ?_
  refine zk_callVI (pc := 16) dX7_club_16 mtX4_isThere lkX7_89 stX4_isThere hr.1 (by rfl) [] _ rfl rfl (Nat.le_of_ble_eq_true rfl) (Nat.le_of_ble_eq_true rfl) (sp_X4_isThere hr) ?_
  refine zk_if_ne (pc := 19) 28 dX7_club_19 (by decide) (fun h19 => ?_) (fun h19 => ?_)
  · rw [zb_n] at h19
    obtain ⟨j, hj, hs⟩ := zsz_pos hz (by decide) h19
    refine zk_aload_n (pc := 28) 2 dX7_club_28 rfl rfl ?_
    refine zk_callSI (pc := 29) dX7_club_29 mtX5_faultOf lkX7_110 stX5_faultOf [_] _ rfl rfl (Nat.le_of_ble_eq_true rfl) (Nat.le_of_ble_eq_true rfl) (sp_X5_faultOf hr hs hj (by omega)) ?_
    refine zk_bipush (pc := 32) (v := -9) dX7_club_32 (by decide) ?_
    refine zk_icmp_eq (pc := 34) 40 dX7_club_34 (by decide) (fun h34 => ?_) (fun h34 => ?_)
    · skip
      refine zk_aload_n (pc := 40) 2 dX7_club_40 rfl rfl ?_
      refine zk_aload_n (pc := 41) 0 dX7_club_41 rfl rfl ?_
      refine zk_getR (pc := 42) dX7_club_42 flX7_23 rfl rfl ?_
      refine zk_callSV (pc := 45) dX7_club_45 mtX5_settle lkX7_116 stX5_settle [_, _] _ rfl rfl (Nat.le_of_ble_eq_true rfl) (Nat.le_of_ble_eq_true rfl) (sp_X5_settle hr hs hj (by omega) ⟨by omega, by omega, by omega⟩ ⟨by omega, by omega, by omega⟩) ?_
      refine zk_aload_n (pc := 48) 0 dX7_club_48 rfl rfl ?_
      refine zk_getR (pc := 49) dX7_club_49 flX7_23 rfl rfl ?_
      refine zk_callVV (pc := 52) dX7_club_52 mtX0_freshen lkX7_120 stX0_freshen (by rfl) (by rfl) [] _ rfl rfl (Nat.le_of_ble_eq_true rfl) (Nat.le_of_ble_eq_true rfl) (sp_X0_freshen) ?_
      refine zk_aload_n (pc := 55) 0 dX7_club_55 rfl rfl ?_
      refine zk_getR (pc := 56) dX7_club_56 flX7_30 rfl rfl ?_
      refine zk_iconst (pc := 59) (v := 0) dX7_club_59 (by decide) ?_
      refine zk_putI (pc := 60) dX7_club_60 flX7_34 rfl rfl ?_
      refine zk_iconst (pc := 63) (v := 0) dX7_club_63 (by decide) ?_
      refine zs_istore_n (pc := 64) (ls' := [_, _, _, _]) 3 dX7_club_64 rfl (by decide) rfl ?_
      have hf : cClub mu (15 + 2 * k) (16 + 2 * k) = (clubM mu (16 + 2 * k) j 23 6, clubM mu (16 + 2 * k) j) := by
        unfold cClub; rw [if_pos h19, hs, nI_clamp (by omega), if_pos h34]
      rw [hf]
      exact loop _ 0 (Nat.zero_le _)
    · skip
      refine zk_bipush (pc := 37) (v := -4) dX7_club_37 (by decide) ?_
      exact zk_ireturn (pc := 39) dX7_club_39 (Or.inl rfl) (zk_pr (by unfold cClub; rw [if_pos h19, hs, nI_clamp (by omega), if_neg h34]))
  · rw [zb_e] at h19
    refine zk_aload_n (pc := 22) 0 dX7_club_22 rfl rfl ?_
    refine zk_iconst (pc := 23) (v := 1) dX7_club_23 (by decide) ?_
    refine zk_callVI (pc := 24) dX7_club_24 mtX7_found lkX7_93 stX7_found (by rfl) (by rfl) [_] _ rfl rfl (Nat.le_of_ble_eq_true rfl) (Nat.le_of_ble_eq_true rfl) (sp_X7_found (f := 1) (by decide)) ?_
    exact zk_ireturn (pc := 27) dX7_club_27 (Or.inl rfl) (zk_pr (by unfold cClub; rw [if_neg h19]))
end M32
