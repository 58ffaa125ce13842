section M42
variable {d : Nat} {mu : Mem} {lm : MemL}
/-- places a .. a + n - 1 of the cell c are v -/
def zseg (mu : Mem) (c a n : Nat) (v : Int32) : Mem := zk_uc mu c (fun q => if a ≤ q ∧ q < a + n then v else mu c q)
theorem zseg_0 (mu : Mem) (c a : Nat) (v : Int32) : zseg mu c a 0 v = mu := by
  unfold zseg
  have : (fun q => if a ≤ q ∧ q < a + 0 then v else mu c q) = mu c := by funext k; rw [if_neg (by omega)]
  rw [this, zk_uc_self]
theorem zseg_s (mu : Mem) (c a n : Nat) (v : Int32) : zk_up (zseg mu c a n v) c (a + n) v = zseg mu c a (n + 1) v := by
  funext c' q
  unfold zseg zk_up zk_uc
  by_cases hc : c' = c
  · subst hc
    by_cases hq : q = a + n
    · subst hq; simp
    · have e : (a ≤ q ∧ q < a + (n + 1)) = (a ≤ q ∧ q < a + n) := propext ⟨fun h => ⟨h.1, by omega⟩, fun h => ⟨h.1, by omega⟩⟩
      simp [hq, e]
  · simp [hc]
theorem zseg_c (mu : Mem) {c c' : Nat} (a n : Nat) (v : Int32) (h : c' ≠ c) : zseg mu c a n v c' = mu c' := by unfold zseg; rw [zuc_c _ _ h]
def mRen (mu : Mem) (sz it N k : Nat) (n f : Int32) : Int32 × Mem := if n ≤ nI N then (if 0 ≤ n then (n, zseg (zk_up mu sz k n) it (N * k) N f) else (-3, fndD mu 5)) else (-1, mu)
theorem sp_X8_row {k : Nat} (hk : k < 6) (n : Int32) : zk_M (d + 1) RX8 cX8_row 4 (some .int) none 0 (zk_loc [.ref 46, .int (nI k), .int n] 4) [] mu lm (zk_R (some (.int (mRen mu 47 48 40 k n 0).1)) (mRen mu 47 48 40 k n 0).2 lm) := by
  have loop : ∀ q, q ≤ 40 → zk_M (d + 1) RX8 cX8_row 4 (some .int) none 36 [.ref 46, .int (nI k), .int n, .int (nI q)] [] (zseg (zk_up mu 47 k n) 48 (40 * k) q 0) lm (zk_R (some (.int n)) (zseg (zk_up mu 47 k n) 48 (40 * k) 40 0) lm) := by
    refine zk_ind 40 (fun q hq ih => ?_)
    refine zk_iload_n (pc := 36) 3 dX8_row_36 rfl rfl ?_
    refine zk_bipush (pc := 37) (v := 40) dX8_row_37 (by decide) ?_
    refine zk_icmp_ge (pc := 39) 60 dX8_row_39 (by decide) (fun h39 => ?_) (fun h39 => ?_)
    · rw [show (40 : Int32) = nI 40 from rfl, nIle (by omega) (by omega)] at h39
      refine zk_iload_n (pc := 60) 2 dX8_row_60 rfl rfl ?_
      refine zk_ireturn (pc := 61) dX8_row_61 (Or.inl rfl) (zk_rm rfl ?_ rfl)
      rw [show q = 40 by omega]
    · rw [show (40 : Int32) = nI 40 from rfl, nIle (by omega) (by omega)] at h39
      refine zk_aload_n (pc := 42) 0 dX8_row_42 rfl rfl ?_
      refine zk_getR (pc := 43) dX8_row_43 flX8_13 rfl rfl ?_
      refine zk_bipush (pc := 46) (v := 40) dX8_row_46 (by decide) ?_
      refine zk_iload_n (pc := 48) 1 dX8_row_48 rfl rfl ?_
      refine zk_imul (pc := 49) dX8_row_49 ?_
      refine zk_iload_n (pc := 50) 3 dX8_row_50 rfl rfl ?_
      refine zk_iadd (pc := 51) dX8_row_51 ?_
      refine zk_iconst (pc := 52) (v := 0) dX8_row_52 (by decide) ?_
      refine zk_iastore (pc := 53) (40 * k + q) dX8_row_53 rfl (by rw [show (40 : Int32) = nI 40 from rfl, pk_mul, nI_add]) (by omega) ?_
      refine zs_iinc (pc := 54) (ls' := [_, _, _, _]) dX8_row_54 rfl (nI_1 q) (by decide) rfl ?_
      refine zk_goto (pc := 57) 36 dX8_row_57 (by decide) ?_
      have e := ih (by omega)
      rw [← zseg_s] at e
      exact e
  refine zk_iload_n (pc := 0) 1 dX8_row_0 rfl rfl ?_
  refine zk_iconst (pc := 1) (v := 0) dX8_row_1 (by decide) ?_
  refine zk_iconst (pc := 2) (v := 5) dX8_row_2 (by decide) ?_
  refine zk_callSI (pc := 3) dX8_row_3 mtX8_in lkX8_66 stX8_in [_, _, _] _ rfl rfl (Nat.le_of_ble_eq_true rfl) (Nat.le_of_ble_eq_true rfl) (sp_X8_in _ _ _) ?_
  refine zk_if_eq (pc := 6) 15 dX8_row_6 (by decide) (fun h6 => ?_) (fun h6 => ?_)
  · rw [zb_e] at h6
    exact absurd (show (0 : Int32) ≤ nI k ∧ nI k ≤ 5 from ⟨nI_pos' (by omega), show nI k ≤ nI 5 from nI_le (by omega) (by decide)⟩) h6 --
  · skip
    refine zk_iload_n (pc := 9) 2 dX8_row_9 rfl rfl ?_
    refine zk_bipush (pc := 10) (v := 40) dX8_row_10 (by decide) ?_
    refine zk_icmp_le (pc := 12) 17 dX8_row_12 (by decide) (fun h12 => ?_) (fun h12 => ?_)
    · replace h12 : n ≤ nI 40 := h12
      refine zk_iload_n (pc := 17) 2 dX8_row_17 rfl rfl ?_
      refine zk_if_ge (pc := 18) 27 dX8_row_18 (by decide) (fun h18 => ?_) (fun h18 => ?_)
      · skip
        refine zk_aload_n (pc := 27) 0 dX8_row_27 rfl rfl ?_
        refine zk_getR (pc := 28) dX8_row_28 flX8_7 rfl rfl ?_
        refine zk_iload_n (pc := 31) 1 dX8_row_31 rfl rfl ?_
        refine zk_iload_n (pc := 32) 2 dX8_row_32 rfl rfl ?_
        refine zk_iastore (pc := 33) k dX8_row_33 rfl rfl (by omega) ?_
        refine zk_iconst (pc := 34) (v := 0) dX8_row_34 (by decide) ?_
        refine zs_istore_n (pc := 35) (ls' := [_, _, _, _]) 3 dX8_row_35 rfl (by decide) rfl ?_
        have hf : mRen mu 47 48 40 k n 0 = (n, zseg (zk_up mu 47 k n) 48 (40 * k) 40 0) := by unfold mRen; rw [if_pos h12, if_pos h18]
        rw [hf]
        have e0 := loop 0 (Nat.zero_le _)
        rw [zseg_0] at e0
        exact e0
      · skip
        refine zk_aload_n (pc := 21) 0 dX8_row_21 rfl rfl ?_
        refine zk_iconst (pc := 22) (v := 5) dX8_row_22 (by decide) ?_
        refine zk_callVI (pc := 23) dX8_row_23 mtX8_finds lkX8_73 stX8_finds (by rfl) (by rfl) [_] _ rfl rfl (Nat.le_of_ble_eq_true rfl) (Nat.le_of_ble_eq_true rfl) (sp_X8_finds (f := 5) (by decide)) ?_
        refine zk_ireturn (pc := 26) dX8_row_26 (Or.inl rfl) (zk_pr ?_)
        unfold mRen; rw [if_pos h12, if_neg h18]
    · replace h12 : ¬ n ≤ nI 40 := h12
      refine zk_iconst (pc := 15) (v := -1) dX8_row_15 (by decide) ?_
      refine zk_ireturn (pc := 16) dX8_row_16 (Or.inl rfl) (zk_pr ?_)
      unfold mRen; rw [if_neg h12]
theorem sp_X8_text {k : Nat} (hk : k < 4) (n : Int32) : zk_M (d + 1) RX8 cX8_text 4 (some .int) none 0 (zk_loc [.ref 46, .int (nI k), .int n] 4) [] mu lm (zk_R (some (.int (mRen mu 49 50 60 k n 32).1)) (mRen mu 49 50 60 k n 32).2 lm) := by
  have loop : ∀ q, q ≤ 60 → zk_M (d + 1) RX8 cX8_text 4 (some .int) none 36 [.ref 46, .int (nI k), .int n, .int (nI q)] [] (zseg (zk_up mu 49 k n) 50 (60 * k) q 32) lm (zk_R (some (.int n)) (zseg (zk_up mu 49 k n) 50 (60 * k) 60 32) lm) := by
    refine zk_ind 60 (fun q hq ih => ?_)
    refine zk_iload_n (pc := 36) 3 dX8_text_36 rfl rfl ?_
    refine zk_bipush (pc := 37) (v := 60) dX8_text_37 (by decide) ?_
    refine zk_icmp_ge (pc := 39) 61 dX8_text_39 (by decide) (fun h39 => ?_) (fun h39 => ?_)
    · rw [show (60 : Int32) = nI 60 from rfl, nIle (by omega) (by omega)] at h39
      refine zk_iload_n (pc := 61) 2 dX8_text_61 rfl rfl ?_
      refine zk_ireturn (pc := 62) dX8_text_62 (Or.inl rfl) (zk_rm rfl ?_ rfl)
      rw [show q = 60 by omega]
    · rw [show (60 : Int32) = nI 60 from rfl, nIle (by omega) (by omega)] at h39
      refine zk_aload_n (pc := 42) 0 dX8_text_42 rfl rfl ?_
      refine zk_getR (pc := 43) dX8_text_43 flX8_19 rfl rfl ?_
      refine zk_bipush (pc := 46) (v := 60) dX8_text_46 (by decide) ?_
      refine zk_iload_n (pc := 48) 1 dX8_text_48 rfl rfl ?_
      refine zk_imul (pc := 49) dX8_text_49 ?_
      refine zk_iload_n (pc := 50) 3 dX8_text_50 rfl rfl ?_
      refine zk_iadd (pc := 51) dX8_text_51 ?_
      refine zk_bipush (pc := 52) (v := 32) dX8_text_52 (by decide) ?_
      refine zk_iastore (pc := 54) (60 * k + q) dX8_text_54 rfl (by rw [show (60 : Int32) = nI 60 from rfl, pk_mul, nI_add]) (by omega) ?_
      refine zs_iinc (pc := 55) (ls' := [_, _, _, _]) dX8_text_55 rfl (nI_1 q) (by decide) rfl ?_
      refine zk_goto (pc := 58) 36 dX8_text_58 (by decide) ?_
      have e := ih (by omega)
      rw [← zseg_s] at e
      exact e
  refine zk_iload_n (pc := 0) 1 dX8_text_0 rfl rfl ?_
  refine zk_iconst (pc := 1) (v := 0) dX8_text_1 (by decide) ?_
  refine zk_iconst (pc := 2) (v := 3) dX8_text_2 (by decide) ?_
  refine zk_callSI (pc := 3) dX8_text_3 mtX8_in lkX8_66 stX8_in [_, _, _] _ rfl rfl (Nat.le_of_ble_eq_true rfl) (Nat.le_of_ble_eq_true rfl) (sp_X8_in _ _ _) ?_
  refine zk_if_eq (pc := 6) 15 dX8_text_6 (by decide) (fun h6 => ?_) (fun h6 => ?_)
  · rw [zb_e] at h6
    exact absurd (show (0 : Int32) ≤ nI k ∧ nI k ≤ 3 from ⟨nI_pos' (by omega), show nI k ≤ nI 3 from nI_le (by omega) (by decide)⟩) h6 --
  · skip
    refine zk_iload_n (pc := 9) 2 dX8_text_9 rfl rfl ?_
    refine zk_bipush (pc := 10) (v := 60) dX8_text_10 (by decide) ?_
    refine zk_icmp_le (pc := 12) 17 dX8_text_12 (by decide) (fun h12 => ?_) (fun h12 => ?_)
    · replace h12 : n ≤ nI 60 := h12
      refine zk_iload_n (pc := 17) 2 dX8_text_17 rfl rfl ?_
      refine zk_if_ge (pc := 18) 27 dX8_text_18 (by decide) (fun h18 => ?_) (fun h18 => ?_)
      · skip
        refine zk_aload_n (pc := 27) 0 dX8_text_27 rfl rfl ?_
        refine zk_getR (pc := 28) dX8_text_28 flX8_16 rfl rfl ?_
        refine zk_iload_n (pc := 31) 1 dX8_text_31 rfl rfl ?_
        refine zk_iload_n (pc := 32) 2 dX8_text_32 rfl rfl ?_
        refine zk_iastore (pc := 33) k dX8_text_33 rfl rfl (by omega) ?_
        refine zk_iconst (pc := 34) (v := 0) dX8_text_34 (by decide) ?_
        refine zs_istore_n (pc := 35) (ls' := [_, _, _, _]) 3 dX8_text_35 rfl (by decide) rfl ?_
        have hf : mRen mu 49 50 60 k n 32 = (n, zseg (zk_up mu 49 k n) 50 (60 * k) 60 32) := by unfold mRen; rw [if_pos h12, if_pos h18]
        rw [hf]
        have e0 := loop 0 (Nat.zero_le _)
        rw [zseg_0] at e0
        exact e0
      · skip
        refine zk_aload_n (pc := 21) 0 dX8_text_21 rfl rfl ?_
        refine zk_iconst (pc := 22) (v := 5) dX8_text_22 (by decide) ?_
        refine zk_callVI (pc := 23) dX8_text_23 mtX8_finds lkX8_73 stX8_finds (by rfl) (by rfl) [_] _ rfl rfl (Nat.le_of_ble_eq_true rfl) (Nat.le_of_ble_eq_true rfl) (sp_X8_finds (f := 5) (by decide)) ?_
        refine zk_ireturn (pc := 26) dX8_text_26 (Or.inl rfl) (zk_pr ?_)
        unfold mRen; rw [if_pos h12, if_neg h18]
    · replace h12 : ¬ n ≤ nI 60 := h12
      refine zk_iconst (pc := 15) (v := -1) dX8_text_15 (by decide) ?_
      refine zk_ireturn (pc := 16) dX8_text_16 (Or.inl rfl) (zk_pr ?_)
      unfold mRen; rw [if_neg h12]
theorem sp_X8_row_n {r : Int32} (hr : ¬ (0 ≤ r ∧ r < 6)) (n : Int32) : zk_M (d + 1) RX8 cX8_row 4 (some .int) none 0 (zk_loc [.ref 46, .int r, .int n] 4) [] mu lm (zk_R (some (.int (-1))) mu lm) := by
  refine zk_iload_n (pc := 0) 1 dX8_row_0 rfl rfl ?_
  refine zk_iconst (pc := 1) (v := 0) dX8_row_1 (by decide) ?_
  refine zk_iconst (pc := 2) (v := 5) dX8_row_2 (by decide) ?_
  refine zk_callSI (pc := 3) dX8_row_3 mtX8_in lkX8_66 stX8_in [_, _, _] _ rfl rfl (Nat.le_of_ble_eq_true rfl) (Nat.le_of_ble_eq_true rfl) (sp_X8_in _ _ _) ?_
  refine zk_if_eq (pc := 6) 15 dX8_row_6 (by decide) (fun h6 => ?_) (fun h6 => ?_)
  · rw [zb_e] at h6
    refine zk_iconst (pc := 15) (v := -1) dX8_row_15 (by decide) ?_
    exact zk_ireturn (pc := 16) dX8_row_16 (Or.inl rfl) (zk_ri rfl)
  · rw [zb_n] at h6
    exact absurd (show 0 ≤ r ∧ r < 6 from ⟨h6.1, by have := h6.2; simp only [zle, zlt, show (6 : Int32).toInt = 6 by decide, show (5 : Int32).toInt = 5 by decide] at *; omega⟩) hr --
theorem sp_X8_text_n {r : Int32} (hr : ¬ (0 ≤ r ∧ r < 4)) (n : Int32) : zk_M (d + 1) RX8 cX8_text 4 (some .int) none 0 (zk_loc [.ref 46, .int r, .int n] 4) [] mu lm (zk_R (some (.int (-1))) mu lm) := by
  refine zk_iload_n (pc := 0) 1 dX8_text_0 rfl rfl ?_
  refine zk_iconst (pc := 1) (v := 0) dX8_text_1 (by decide) ?_
  refine zk_iconst (pc := 2) (v := 3) dX8_text_2 (by decide) ?_
  refine zk_callSI (pc := 3) dX8_text_3 mtX8_in lkX8_66 stX8_in [_, _, _] _ rfl rfl (Nat.le_of_ble_eq_true rfl) (Nat.le_of_ble_eq_true rfl) (sp_X8_in _ _ _) ?_
  refine zk_if_eq (pc := 6) 15 dX8_text_6 (by decide) (fun h6 => ?_) (fun h6 => ?_)
  · rw [zb_e] at h6
    refine zk_iconst (pc := 15) (v := -1) dX8_text_15 (by decide) ?_
    exact zk_ireturn (pc := 16) dX8_text_16 (Or.inl rfl) (zk_ri rfl)
  · rw [zb_n] at h6
    exact absurd (show 0 ≤ r ∧ r < 4 from ⟨h6.1, by have := h6.2; simp only [zle, zlt, show (4 : Int32).toInt = 4 by decide, show (3 : Int32).toInt = 3 by decide] at *; omega⟩) hr --
theorem sp_X8_tear_n {r : Int32} (hr : ¬ (0 ≤ r ∧ r < 6))  : zk_M (d + 1) RX8 cX8_tear 2 (some .int) none 0 (zk_loc [.ref 46, .int r] 2) [] mu lm (zk_R (some (.int (-1))) mu lm) := by
  refine zk_iload_n (pc := 0) 1 dX8_tear_0 rfl rfl ?_
  refine zk_iconst (pc := 1) (v := 0) dX8_tear_1 (by decide) ?_
  refine zk_iconst (pc := 2) (v := 5) dX8_tear_2 (by decide) ?_
  refine zk_callSI (pc := 3) dX8_tear_3 mtX8_in lkX8_66 stX8_in [_, _, _] _ rfl rfl (Nat.le_of_ble_eq_true rfl) (Nat.le_of_ble_eq_true rfl) (sp_X8_in _ _ _) ?_
  refine zk_if_ne (pc := 6) 11 dX8_tear_6 (by decide) (fun h6 => ?_) (fun h6 => ?_)
  · rw [zb_n] at h6
    exact absurd (show 0 ≤ r ∧ r < 6 from ⟨h6.1, by have := h6.2; simp only [zle, zlt, show (6 : Int32).toInt = 6 by decide, show (5 : Int32).toInt = 5 by decide] at *; omega⟩) hr --
  · rw [zb_e] at h6
    refine zk_iconst (pc := 9) (v := -1) dX8_tear_9 (by decide) ?_
    exact zk_ireturn (pc := 10) dX8_tear_10 (Or.inl rfl) (zk_ri rfl)
theorem sp_X8_mean_n {r : Int32} (hr : ¬ (0 ≤ r ∧ r < 6))  : zk_M (d + 1) RX8 cX8_mean 5 (some .int) none 0 (zk_loc [.ref 46, .int r] 5) [] mu lm (zk_R (some (.int (-1))) mu lm) := by
  refine zk_iload_n (pc := 0) 1 dX8_mean_0 rfl rfl ?_
  refine zk_iconst (pc := 1) (v := 0) dX8_mean_1 (by decide) ?_
  refine zk_iconst (pc := 2) (v := 5) dX8_mean_2 (by decide) ?_
  refine zk_callSI (pc := 3) dX8_mean_3 mtX8_in lkX8_66 stX8_in [_, _, _] _ rfl rfl (Nat.le_of_ble_eq_true rfl) (Nat.le_of_ble_eq_true rfl) (sp_X8_in _ _ _) ?_
  refine zk_if_ne (pc := 6) 11 dX8_mean_6 (by decide) (fun h6 => ?_) (fun h6 => ?_)
  · rw [zb_n] at h6
    exact absurd (show 0 ≤ r ∧ r < 6 from ⟨h6.1, by have := h6.2; simp only [zle, zlt, show (6 : Int32).toInt = 6 by decide, show (5 : Int32).toInt = 5 by decide] at *; omega⟩) hr --
  · rw [zb_e] at h6
    refine zk_iconst (pc := 9) (v := -1) dX8_mean_9 (by decide) ?_
    exact zk_ireturn (pc := 10) dX8_mean_10 (Or.inl rfl) (zk_ri rfl)
theorem sp_X8_who_n {r : Int32} (hr : ¬ (0 ≤ r ∧ r < 6))  : zk_M (d + 1) RX8 cX8_who 4 (some .int) none 0 (zk_loc [.ref 46, .int r] 4) [] mu lm (zk_R (some (.int (-1))) mu lm) := by
  refine zk_iload_n (pc := 0) 1 dX8_who_0 rfl rfl ?_
  refine zk_iconst (pc := 1) (v := 0) dX8_who_1 (by decide) ?_
  refine zk_iconst (pc := 2) (v := 5) dX8_who_2 (by decide) ?_
  refine zk_callSI (pc := 3) dX8_who_3 mtX8_in lkX8_66 stX8_in [_, _, _] _ rfl rfl (Nat.le_of_ble_eq_true rfl) (Nat.le_of_ble_eq_true rfl) (sp_X8_in _ _ _) ?_
  refine zk_if_ne (pc := 6) 11 dX8_who_6 (by decide) (fun h6 => ?_) (fun h6 => ?_)
  · rw [zb_n] at h6
    exact absurd (show 0 ≤ r ∧ r < 6 from ⟨h6.1, by have := h6.2; simp only [zle, zlt, show (6 : Int32).toInt = 6 by decide, show (5 : Int32).toInt = 5 by decide] at *; omega⟩) hr --
  · rw [zb_e] at h6
    refine zk_iconst (pc := 9) (v := -1) dX8_who_9 (by decide) ?_
    exact zk_ireturn (pc := 10) dX8_who_10 (Or.inl rfl) (zk_ri rfl)
theorem sp_X8_kinds_n {r : Int32} (hr : ¬ (0 ≤ r ∧ r < 6))  : zk_M (d + 1) RX8 cX8_kinds 2 (some .int) none 0 (zk_loc [.ref 46, .int r] 2) [] mu lm (zk_R (some (.int (-1))) mu lm) := by
  refine zk_iload_n (pc := 0) 1 dX8_kinds_0 rfl rfl ?_
  refine zk_iconst (pc := 1) (v := 0) dX8_kinds_1 (by decide) ?_
  refine zk_iconst (pc := 2) (v := 5) dX8_kinds_2 (by decide) ?_
  refine zk_callSI (pc := 3) dX8_kinds_3 mtX8_in lkX8_66 stX8_in [_, _, _] _ rfl rfl (Nat.le_of_ble_eq_true rfl) (Nat.le_of_ble_eq_true rfl) (sp_X8_in _ _ _) ?_
  refine zk_if_ne (pc := 6) 11 dX8_kinds_6 (by decide) (fun h6 => ?_) (fun h6 => ?_)
  · rw [zb_n] at h6
    exact absurd (show 0 ≤ r ∧ r < 6 from ⟨h6.1, by have := h6.2; simp only [zle, zlt, show (6 : Int32).toInt = 6 by decide, show (5 : Int32).toInt = 5 by decide] at *; omega⟩) hr --
  · rw [zb_e] at h6
    refine zk_iconst (pc := 9) (v := -1) dX8_kinds_9 (by decide) ?_
    exact zk_ireturn (pc := 10) dX8_kinds_10 (Or.inl rfl) (zk_ri rfl)
theorem sp_X8_test_n {r : Int32} (hr : ¬ (0 ≤ r ∧ r < 6))  : zk_M (d + 1) RX8 cX8_test 10 (some .int) none 0 (zk_loc [.ref 46, .int r] 10) [] mu lm (zk_R (some (.int (-1))) mu lm) := by
  refine zk_iload_n (pc := 0) 1 dX8_test_0 rfl rfl ?_
  refine zk_iconst (pc := 1) (v := 0) dX8_test_1 (by decide) ?_
  refine zk_iconst (pc := 2) (v := 5) dX8_test_2 (by decide) ?_
  refine zk_callSI (pc := 3) dX8_test_3 mtX8_in lkX8_66 stX8_in [_, _, _] _ rfl rfl (Nat.le_of_ble_eq_true rfl) (Nat.le_of_ble_eq_true rfl) (sp_X8_in _ _ _) ?_
  refine zk_if_ne (pc := 6) 11 dX8_test_6 (by decide) (fun h6 => ?_) (fun h6 => ?_)
  · rw [zb_n] at h6
    exact absurd (show 0 ≤ r ∧ r < 6 from ⟨h6.1, by have := h6.2; simp only [zle, zlt, show (6 : Int32).toInt = 6 by decide, show (5 : Int32).toInt = 5 by decide] at *; omega⟩) hr --
  · rw [zb_e] at h6
    refine zk_iconst (pc := 9) (v := -1) dX8_test_9 (by decide) ?_
    exact zk_ireturn (pc := 10) dX8_test_10 (Or.inl rfl) (zk_ri rfl)
theorem sp_X8_leaks_n {r : Int32} (hr : ¬ (0 ≤ r ∧ r < 6))  : zk_M (d + 1) RX8 cX8_leaks 8 (some .int) none 0 (zk_loc [.ref 46, .int r] 8) [] mu lm (zk_R (some (.int (-1))) mu lm) := by
  refine zk_iload_n (pc := 0) 1 dX8_leaks_0 rfl rfl ?_
  refine zk_iconst (pc := 1) (v := 0) dX8_leaks_1 (by decide) ?_
  refine zk_iconst (pc := 2) (v := 5) dX8_leaks_2 (by decide) ?_
  refine zk_callSI (pc := 3) dX8_leaks_3 mtX8_in lkX8_66 stX8_in [_, _, _] _ rfl rfl (Nat.le_of_ble_eq_true rfl) (Nat.le_of_ble_eq_true rfl) (sp_X8_in _ _ _) ?_
  refine zk_if_ne (pc := 6) 11 dX8_leaks_6 (by decide) (fun h6 => ?_) (fun h6 => ?_)
  · rw [zb_n] at h6
    exact absurd (show 0 ≤ r ∧ r < 6 from ⟨h6.1, by have := h6.2; simp only [zle, zlt, show (6 : Int32).toInt = 6 by decide, show (5 : Int32).toInt = 5 by decide] at *; omega⟩) hr --
  · rw [zb_e] at h6
    refine zk_iconst (pc := 9) (v := -1) dX8_leaks_9 (by decide) ?_
    exact zk_ireturn (pc := 10) dX8_leaks_10 (Or.inl rfl) (zk_ri rfl)
theorem sp_X8_fault_n {r : Int32} (hr : ¬ (0 ≤ r ∧ r < 4))  : zk_M (d + 1) RX8 cX8_fault 2 (some .int) none 0 (zk_loc [.ref 46, .int r] 2) [] mu lm (zk_R (some (.int (-1))) mu lm) := by
  refine zk_iload_n (pc := 0) 1 dX8_fault_0 rfl rfl ?_
  refine zk_iconst (pc := 1) (v := 0) dX8_fault_1 (by decide) ?_
  refine zk_iconst (pc := 2) (v := 3) dX8_fault_2 (by decide) ?_
  refine zk_callSI (pc := 3) dX8_fault_3 mtX8_in lkX8_66 stX8_in [_, _, _] _ rfl rfl (Nat.le_of_ble_eq_true rfl) (Nat.le_of_ble_eq_true rfl) (sp_X8_in _ _ _) ?_
  refine zk_if_ne (pc := 6) 11 dX8_fault_6 (by decide) (fun h6 => ?_) (fun h6 => ?_)
  · rw [zb_n] at h6
    exact absurd (show 0 ≤ r ∧ r < 4 from ⟨h6.1, by have := h6.2; simp only [zle, zlt, show (4 : Int32).toInt = 4 by decide, show (3 : Int32).toInt = 3 by decide] at *; omega⟩) hr --
  · rw [zb_e] at h6
    refine zk_iconst (pc := 9) (v := -1) dX8_fault_9 (by decide) ?_
    exact zk_ireturn (pc := 10) dX8_fault_10 (Or.inl rfl) (zk_ri rfl)
theorem sp_X8_club_n {r : Int32} (hr : ¬ (0 ≤ r ∧ r < 4))  : zk_M (d + 1) RX8 cX8_club 3 (some .int) none 0 (zk_loc [.ref 46, .int r] 3) [] mu lm (zk_R (some (.int (-1))) mu lm) := by
  refine zk_iload_n (pc := 0) 1 dX8_club_0 rfl rfl ?_
  refine zk_iconst (pc := 1) (v := 0) dX8_club_1 (by decide) ?_
  refine zk_iconst (pc := 2) (v := 3) dX8_club_2 (by decide) ?_
  refine zk_callSI (pc := 3) dX8_club_3 mtX8_in lkX8_66 stX8_in [_, _, _] _ rfl rfl (Nat.le_of_ble_eq_true rfl) (Nat.le_of_ble_eq_true rfl) (sp_X8_in _ _ _) ?_
  refine zk_if_ne (pc := 6) 11 dX8_club_6 (by decide) (fun h6 => ?_) (fun h6 => ?_)
  · rw [zb_n] at h6
    exact absurd (show 0 ≤ r ∧ r < 4 from ⟨h6.1, by have := h6.2; simp only [zle, zlt, show (4 : Int32).toInt = 4 by decide, show (3 : Int32).toInt = 3 by decide] at *; omega⟩) hr --
  · rw [zb_e] at h6
    refine zk_iconst (pc := 9) (v := -1) dX8_club_9 (by decide) ?_
    exact zk_ireturn (pc := 10) dX8_club_10 (Or.inl rfl) (zk_ri rfl)
theorem sp_X8_put_n {r : Int32} (hr : ¬ (0 ≤ r ∧ r < 4)) (i v : Int32) : zk_M (d + 1) RX8 cX8_put 5 (some .int) none 0 (zk_loc [.ref 46, .int r, .int i, .int v] 5) [] mu lm (zk_R (some (.int (-1))) mu lm) := by
  refine zk_iload_n (pc := 0) 1 dX8_put_0 rfl rfl ?_
  refine zk_iconst (pc := 1) (v := 0) dX8_put_1 (by decide) ?_
  refine zk_iconst (pc := 2) (v := 3) dX8_put_2 (by decide) ?_
  refine zk_callSI (pc := 3) dX8_put_3 mtX8_in lkX8_66 stX8_in [_, _, _] _ rfl rfl (Nat.le_of_ble_eq_true rfl) (Nat.le_of_ble_eq_true rfl) (sp_X8_in _ _ _) ?_
  refine zk_if_ne (pc := 6) 11 dX8_put_6 (by decide) (fun h6 => ?_) (fun h6 => ?_)
  · rw [zb_n] at h6
    exact absurd (show 0 ≤ r ∧ r < 4 from ⟨h6.1, by have := h6.2; simp only [zle, zlt, show (4 : Int32).toInt = 4 by decide, show (3 : Int32).toInt = 3 by decide] at *; omega⟩) hr --
  · rw [zb_e] at h6
    refine zk_iconst (pc := 9) (v := -1) dX8_put_9 (by decide) ?_
    exact zk_ireturn (pc := 10) dX8_put_10 (Or.inl rfl) (zk_ri rfl)
theorem sp_X8_wrongAt_n {r : Int32} (hr : ¬ (0 ≤ r ∧ r < 6)) (i : Int32) : zk_M (d + 1) RX8 cX8_wrongAt 3 (some .int) none 0 (zk_loc [.ref 46, .int r, .int i] 3) [] mu lm (zk_R (some (.int (-1))) mu lm) := by
  refine zk_iload_n (pc := 0) 1 dX8_wrongAt_0 rfl rfl ?_
  refine zk_iconst (pc := 1) (v := 0) dX8_wrongAt_1 (by decide) ?_
  refine zk_iconst (pc := 2) (v := 5) dX8_wrongAt_2 (by decide) ?_
  refine zk_callSI (pc := 3) dX8_wrongAt_3 mtX8_in lkX8_66 stX8_in [_, _, _] _ rfl rfl (Nat.le_of_ble_eq_true rfl) (Nat.le_of_ble_eq_true rfl) (sp_X8_in _ _ _) ?_
  refine zk_if_ne (pc := 6) 11 dX8_wrongAt_6 (by decide) (fun h6 => ?_) (fun h6 => ?_)
  · rw [zb_n] at h6
    exact absurd (show 0 ≤ r ∧ r < 6 from ⟨h6.1, by have := h6.2; simp only [zle, zlt, show (6 : Int32).toInt = 6 by decide, show (5 : Int32).toInt = 5 by decide] at *; omega⟩) hr --
  · rw [zb_e] at h6
    refine zk_iconst (pc := 9) (v := -1) dX8_wrongAt_9 (by decide) ?_
    exact zk_ireturn (pc := 10) dX8_wrongAt_10 (Or.inl rfl) (zk_ri rfl)
theorem sp_X8_lay_n {r : Int32} (hr : ¬ (0 ≤ r ∧ r < 6)) (i v : Int32) : zk_M (d + 2) RX8 cX8_lay 6 (some .int) none 0 (zk_loc [.ref 46, .int r, .int i, .int v] 6) [] mu lm (zk_R (some (.int (-1))) mu lm) := by
  refine zk_aload_n (pc := 0) 0 dX8_lay_0 rfl rfl ?_
  refine zk_iload_n (pc := 1) 1 dX8_lay_1 rfl rfl ?_
  refine zk_iload_n (pc := 2) 2 dX8_lay_2 rfl rfl ?_
  refine zk_callVI (pc := 3) dX8_lay_3 mtX8_wrongAt lkX8_77 stX8_wrongAt (by rfl) (by rfl) [_, _] _ rfl rfl (Nat.le_of_ble_eq_true rfl) (Nat.le_of_ble_eq_true rfl) (sp_X8_wrongAt_n hr i) ?_
  refine zs_istore (pc := 6) (ls' := [_, _, _, _, _, _]) 4 dX8_lay_6 (by decide) rfl ?_
  refine zk_iload (pc := 8) dX8_lay_8 rfl ?_
  refine zk_if_eq (pc := 10) 16 dX8_lay_10 (by decide) (fun h10 => ?_) (fun h10 => ?_)
  · exact absurd h10 (by decide) --
  · skip
    refine zk_iload (pc := 13) dX8_lay_13 rfl ?_
    exact zk_ireturn (pc := 15) dX8_lay_15 (Or.inl rfl) (zk_ri rfl)
theorem sp_X8_at_n {r : Int32} (hr : ¬ (0 ≤ r ∧ r < 6)) (i : Int32) : zk_M (d + 2) RX8 cX8_at 4 (some .int) none 0 (zk_loc [.ref 46, .int r, .int i] 4) [] mu lm (zk_R (some (.int (-1))) mu lm) := by
  refine zk_aload_n (pc := 0) 0 dX8_at_0 rfl rfl ?_
  refine zk_iload_n (pc := 1) 1 dX8_at_1 rfl rfl ?_
  refine zk_iload_n (pc := 2) 2 dX8_at_2 rfl rfl ?_
  refine zk_callVI (pc := 3) dX8_at_3 mtX8_wrongAt lkX8_77 stX8_wrongAt (by rfl) (by rfl) [_, _] _ rfl rfl (Nat.le_of_ble_eq_true rfl) (Nat.le_of_ble_eq_true rfl) (sp_X8_wrongAt_n hr i) ?_
  refine zs_istore_n (pc := 6) (ls' := [_, _, _, _]) 3 dX8_at_6 rfl (by decide) rfl ?_
  refine zk_iload_n (pc := 7) 3 dX8_at_7 rfl rfl ?_
  refine zk_if_eq (pc := 8) 15 dX8_at_8 (by decide) (fun h8 => ?_) (fun h8 => ?_)
  · exact absurd h8 (by decide) --
  · skip
    refine zk_iload_n (pc := 11) 3 dX8_at_11 rfl rfl ?_
    refine zk_goto (pc := 12) 30 dX8_at_12 (by decide) ?_
    exact zk_ireturn (pc := 30) dX8_at_30 (Or.inl rfl) (zk_ri rfl)
def wrAt (mu : Mem) (k : Nat) (i : Int32) : Int32 × Mem := if 0 ≤ mu 47 k then (if 0 ≤ i ∧ i < mu 47 k then (0, mu) else (-3, fndD mu 2)) else (-3, fndD mu 1)
theorem zsz_m {x i : Int32} {N : Nat} (hN : N ≤ 1000) (h : zSz x N) (h0 : 0 ≤ x) : (0 ≤ i ∧ i ≤ x - 1) ↔ (0 ≤ i ∧ i < x) := by
  obtain ⟨j, hj, rfl⟩ := zsz_pos h (by omega) h0
  exact zm_iff (by omega)
theorem sp_X8_wrongAt {k : Nat} (hk : k < 6) (hz : zSz (mu 47 k) 40) (i : Int32) : zk_M (d + 1) RX8 cX8_wrongAt 3 (some .int) none 0 (zk_loc [.ref 46, .int (nI k), .int i] 3) [] mu lm (zk_R (some (.int (wrAt mu k i).1)) (wrAt mu k i).2 lm) := by
  refine zk_iload_n (pc := 0) 1 dX8_wrongAt_0 rfl rfl ?_
  refine zk_iconst (pc := 1) (v := 0) dX8_wrongAt_1 (by decide) ?_
  refine zk_iconst (pc := 2) (v := 5) dX8_wrongAt_2 (by decide) ?_
  refine zk_callSI (pc := 3) dX8_wrongAt_3 mtX8_in lkX8_66 stX8_in [_, _, _] _ rfl rfl (Nat.le_of_ble_eq_true rfl) (Nat.le_of_ble_eq_true rfl) (sp_X8_in _ _ _) ?_
  refine zk_if_ne (pc := 6) 11 dX8_wrongAt_6 (by decide) (fun h6 => ?_) (fun h6 => ?_)
  · skip
    refine zk_aload_n (pc := 11) 0 dX8_wrongAt_11 rfl rfl ?_
    refine zk_getR (pc := 12) dX8_wrongAt_12 flX8_7 rfl rfl ?_
    refine zk_iload_n (pc := 15) 1 dX8_wrongAt_15 rfl rfl ?_
    refine zk_iaload (pc := 16) k dX8_wrongAt_16 rfl rfl hk ?_
    refine zk_if_ge (pc := 17) 26 dX8_wrongAt_17 (by decide) (fun h17 => ?_) (fun h17 => ?_)
    · skip
      refine zk_iload_n (pc := 26) 2 dX8_wrongAt_26 rfl rfl ?_
      refine zk_iconst (pc := 27) (v := 0) dX8_wrongAt_27 (by decide) ?_
      refine zk_aload_n (pc := 28) 0 dX8_wrongAt_28 rfl rfl ?_
      refine zk_getR (pc := 29) dX8_wrongAt_29 flX8_7 rfl rfl ?_
      refine zk_iload_n (pc := 32) 1 dX8_wrongAt_32 rfl rfl ?_
      refine zk_iaload (pc := 33) k dX8_wrongAt_33 rfl rfl hk ?_
      refine zk_iconst (pc := 34) (v := 1) dX8_wrongAt_34 (by decide) ?_
      refine zk_isub (pc := 35) dX8_wrongAt_35 ?_
      refine zk_callSI (pc := 36) dX8_wrongAt_36 mtX8_in lkX8_66 stX8_in [_, _, _] _ rfl rfl (Nat.le_of_ble_eq_true rfl) (Nat.le_of_ble_eq_true rfl) (sp_X8_in _ _ _) ?_
      refine zk_if_eq (pc := 39) 46 dX8_wrongAt_39 (by decide) (fun h39 => ?_) (fun h39 => ?_)
      · rw [zb_e, zsz_m (by decide) hz h17] at h39
        refine zk_aload_n (pc := 46) 0 dX8_wrongAt_46 rfl rfl ?_
        refine zk_iconst (pc := 47) (v := 2) dX8_wrongAt_47 (by decide) ?_
        refine zk_callVI (pc := 48) dX8_wrongAt_48 mtX8_finds lkX8_73 stX8_finds (by rfl) (by rfl) [_] _ rfl rfl (Nat.le_of_ble_eq_true rfl) (Nat.le_of_ble_eq_true rfl) (sp_X8_finds (f := 2) (by decide)) ?_
        exact zk_ireturn (pc := 51) dX8_wrongAt_51 (Or.inl rfl) (zk_pr (by unfold wrAt; rw [if_pos h17]; first | rw [if_pos h39] | rw [if_neg h39]))
      · rw [zb_n, zsz_m (by decide) hz h17] at h39
        refine zk_iconst (pc := 42) (v := 0) dX8_wrongAt_42 (by decide) ?_
        refine zk_goto (pc := 43) 51 dX8_wrongAt_43 (by decide) ?_
        exact zk_ireturn (pc := 51) dX8_wrongAt_51 (Or.inl rfl) (zk_pr (by unfold wrAt; rw [if_pos h17]; first | rw [if_pos h39] | rw [if_neg h39]))
    · skip
      refine zk_aload_n (pc := 20) 0 dX8_wrongAt_20 rfl rfl ?_
      refine zk_iconst (pc := 21) (v := 1) dX8_wrongAt_21 (by decide) ?_
      refine zk_callVI (pc := 22) dX8_wrongAt_22 mtX8_finds lkX8_73 stX8_finds (by rfl) (by rfl) [_] _ rfl rfl (Nat.le_of_ble_eq_true rfl) (Nat.le_of_ble_eq_true rfl) (sp_X8_finds (f := 1) (by decide)) ?_
      exact zk_ireturn (pc := 25) dX8_wrongAt_25 (Or.inl rfl) (zk_pr (by unfold wrAt; rw [if_neg h17]))
  · rw [zb_e] at h6
    exact absurd (show (0 : Int32) ≤ nI k ∧ nI k ≤ 5 from ⟨nI_pos' (by omega), show nI k ≤ nI 5 from nI_le (by omega) (by decide)⟩) h6 --
def mLay (mu : Mem) (k : Nat) (i v : Int32) : Int32 × Mem := if 0 ≤ mu 47 k then (if 0 ≤ i ∧ i < mu 47 k then (1, zk_up (zk_up mu 48 (40 * k + i.toNatClampNeg) v) 46 6 (mu 48 (40 * k + i.toNatClampNeg))) else (-3, fndD mu 2)) else (-3, fndD mu 1)
theorem sp_X8_lay {k : Nat} (hk : k < 6) (hz : zSz (mu 47 k) 40) (i v : Int32) : zk_M (d + 2) RX8 cX8_lay 6 (some .int) none 0 (zk_loc [.ref 46, .int (nI k), .int i, .int v] 6) [] mu lm (zk_R (some (.int (mLay mu k i v).1)) (mLay mu k i v).2 lm) := by
  by_cases a1 : 0 ≤ mu 47 k
  · by_cases a2 : 0 ≤ i ∧ i < mu 47 k
    · have e : wrAt mu k i = (0, mu) := by unfold wrAt; rw [if_pos a1, if_pos a2]
      have hf : mLay mu k i v = (1, zk_up (zk_up mu 48 (40 * k + i.toNatClampNeg) v) 46 6 (mu 48 (40 * k + i.toNatClampNeg))) := by unfold mLay; rw [if_pos a1, if_pos a2]
      rw [hf]
      obtain ⟨sz, hsz, hse⟩ := zsz_pos hz (by decide) a1
      rw [hse] at a2
      have hi := zix a2.1 a2.2 (by omega)
      refine zk_aload_n (pc := 0) 0 dX8_lay_0 rfl rfl ?_
      refine zk_iload_n (pc := 1) 1 dX8_lay_1 rfl rfl ?_
      refine zk_iload_n (pc := 2) 2 dX8_lay_2 rfl rfl ?_
      refine zk_callVI (pc := 3) dX8_lay_3 mtX8_wrongAt lkX8_77 stX8_wrongAt (by rfl) (by rfl) [_, _] _ rfl rfl (Nat.le_of_ble_eq_true rfl) (Nat.le_of_ble_eq_true rfl) (by have q := sp_X8_wrongAt (d := d) (mu := mu) (lm := lm) hk hz i; rw [e] at q; exact q) ?_
      refine zs_istore (pc := 6) (ls' := [_, _, _, _, _, _]) 4 dX8_lay_6 (by decide) rfl ?_
      refine zk_iload (pc := 8) dX8_lay_8 rfl ?_
      refine zk_if_eq (pc := 10) 16 dX8_lay_10 (by decide) (fun h10 => ?_) (fun h10 => ?_)
      · skip
        refine zk_aload_n (pc := 16) 0 dX8_lay_16 rfl rfl ?_
        refine zk_getR (pc := 17) dX8_lay_17 flX8_13 rfl rfl ?_
        refine zk_bipush (pc := 20) (v := 40) dX8_lay_20 (by decide) ?_
        refine zk_iload_n (pc := 22) 1 dX8_lay_22 rfl rfl ?_
        refine zk_imul (pc := 23) dX8_lay_23 ?_
        refine zk_iload_n (pc := 24) 2 dX8_lay_24 rfl rfl ?_
        refine zk_iadd (pc := 25) dX8_lay_25 ?_
        refine zk_iaload (pc := 26) (40 * k + i.toNatClampNeg) dX8_lay_26 rfl (by rw [show (40 : Int32) = nI 40 from rfl, pk_mul]; exact (congrArg (fun z => nI (40 * k) + z) hi.1).trans (nI_add _ _)) (by omega) ?_
        refine zs_istore (pc := 27) (ls' := [_, _, _, _, _, _]) 5 dX8_lay_27 (by decide) rfl ?_
        refine zk_aload_n (pc := 29) 0 dX8_lay_29 rfl rfl ?_
        refine zk_getR (pc := 30) dX8_lay_30 flX8_13 rfl rfl ?_
        refine zk_bipush (pc := 33) (v := 40) dX8_lay_33 (by decide) ?_
        refine zk_iload_n (pc := 35) 1 dX8_lay_35 rfl rfl ?_
        refine zk_imul (pc := 36) dX8_lay_36 ?_
        refine zk_iload_n (pc := 37) 2 dX8_lay_37 rfl rfl ?_
        refine zk_iadd (pc := 38) dX8_lay_38 ?_
        refine zk_iload_n (pc := 39) 3 dX8_lay_39 rfl rfl ?_
        refine zk_iastore (pc := 40) (40 * k + i.toNatClampNeg) dX8_lay_40 rfl (by rw [show (40 : Int32) = nI 40 from rfl, pk_mul]; exact (congrArg (fun z => nI (40 * k) + z) hi.1).trans (nI_add _ _)) (by omega) ?_
        refine zk_aload_n (pc := 41) 0 dX8_lay_41 rfl rfl ?_
        refine zk_iload (pc := 42) dX8_lay_42 rfl ?_
        refine zk_callVI (pc := 44) dX8_lay_44 mtX8_tells lkX8_81 stX8_tells (by rfl) (by rfl) [_] _ rfl rfl (Nat.le_of_ble_eq_true rfl) (Nat.le_of_ble_eq_true rfl) (sp_X8_tells _) ?_
        exact zk_ireturn (pc := 47) dX8_lay_47 (Or.inl rfl) (zk_pr rfl)
      · exact absurd rfl h10 --
    · have e : wrAt mu k i = (-3, fndD mu 2) := by unfold wrAt; rw [if_pos a1, if_neg a2]
      have hf : mLay mu k i v = (-3, fndD mu 2) := by unfold mLay; rw [if_pos a1, if_neg a2]
      rw [hf]
      refine zk_aload_n (pc := 0) 0 dX8_lay_0 rfl rfl ?_
      refine zk_iload_n (pc := 1) 1 dX8_lay_1 rfl rfl ?_
      refine zk_iload_n (pc := 2) 2 dX8_lay_2 rfl rfl ?_
      refine zk_callVI (pc := 3) dX8_lay_3 mtX8_wrongAt lkX8_77 stX8_wrongAt (by rfl) (by rfl) [_, _] _ rfl rfl (Nat.le_of_ble_eq_true rfl) (Nat.le_of_ble_eq_true rfl) (by have q := sp_X8_wrongAt (d := d) (mu := mu) (lm := lm) hk hz i; rw [e] at q; exact q) ?_
      refine zs_istore (pc := 6) (ls' := [_, _, _, _, _, _]) 4 dX8_lay_6 (by decide) rfl ?_
      refine zk_iload (pc := 8) dX8_lay_8 rfl ?_
      refine zk_if_eq (pc := 10) 16 dX8_lay_10 (by decide) (fun h10 => ?_) (fun h10 => ?_)
      · exact absurd h10 (show ¬ (-3 : Int32) = 0 by decide) --
      · skip
        refine zk_iload (pc := 13) dX8_lay_13 rfl ?_
        exact zk_ireturn (pc := 15) dX8_lay_15 (Or.inl rfl) (zk_pr rfl)
  · have e : wrAt mu k i = (-3, fndD mu 1) := by unfold wrAt; rw [if_neg a1]
    have hf : mLay mu k i v = (-3, fndD mu 1) := by unfold mLay; rw [if_neg a1]
    rw [hf]
    refine zk_aload_n (pc := 0) 0 dX8_lay_0 rfl rfl ?_
    refine zk_iload_n (pc := 1) 1 dX8_lay_1 rfl rfl ?_
    refine zk_iload_n (pc := 2) 2 dX8_lay_2 rfl rfl ?_
    refine zk_callVI (pc := 3) dX8_lay_3 mtX8_wrongAt lkX8_77 stX8_wrongAt (by rfl) (by rfl) [_, _] _ rfl rfl (Nat.le_of_ble_eq_true rfl) (Nat.le_of_ble_eq_true rfl) (by have q := sp_X8_wrongAt (d := d) (mu := mu) (lm := lm) hk hz i; rw [e] at q; exact q) ?_
    refine zs_istore (pc := 6) (ls' := [_, _, _, _, _, _]) 4 dX8_lay_6 (by decide) rfl ?_
    refine zk_iload (pc := 8) dX8_lay_8 rfl ?_
    refine zk_if_eq (pc := 10) 16 dX8_lay_10 (by decide) (fun h10 => ?_) (fun h10 => ?_)
    · exact absurd h10 (show ¬ (-3 : Int32) = 0 by decide) --
    · skip
      refine zk_iload (pc := 13) dX8_lay_13 rfl ?_
      exact zk_ireturn (pc := 15) dX8_lay_15 (Or.inl rfl) (zk_pr rfl)
def mAt (mu : Mem) (k : Nat) (i : Int32) : Int32 × Mem := if 0 ≤ mu 47 k then (if 0 ≤ i ∧ i < mu 47 k then (1, zk_up mu 46 6 (mu 48 (40 * k + i.toNatClampNeg))) else (-3, fndD mu 2)) else (-3, fndD mu 1)
theorem sp_X8_at {k : Nat} (hk : k < 6) (hz : zSz (mu 47 k) 40) (i : Int32) : zk_M (d + 2) RX8 cX8_at 4 (some .int) none 0 (zk_loc [.ref 46, .int (nI k), .int i] 4) [] mu lm (zk_R (some (.int (mAt mu k i).1)) (mAt mu k i).2 lm) := by
  by_cases a1 : 0 ≤ mu 47 k
  · by_cases a2 : 0 ≤ i ∧ i < mu 47 k
    · have e : wrAt mu k i = (0, mu) := by unfold wrAt; rw [if_pos a1, if_pos a2]
      have hf : mAt mu k i = (1, zk_up mu 46 6 (mu 48 (40 * k + i.toNatClampNeg))) := by unfold mAt; rw [if_pos a1, if_pos a2]
      rw [hf]
      obtain ⟨sz, hsz, hse⟩ := zsz_pos hz (by decide) a1
      rw [hse] at a2
      have hi := zix a2.1 a2.2 (by omega)
      refine zk_aload_n (pc := 0) 0 dX8_at_0 rfl rfl ?_
      refine zk_iload_n (pc := 1) 1 dX8_at_1 rfl rfl ?_
      refine zk_iload_n (pc := 2) 2 dX8_at_2 rfl rfl ?_
      refine zk_callVI (pc := 3) dX8_at_3 mtX8_wrongAt lkX8_77 stX8_wrongAt (by rfl) (by rfl) [_, _] _ rfl rfl (Nat.le_of_ble_eq_true rfl) (Nat.le_of_ble_eq_true rfl) (by have q := sp_X8_wrongAt (d := d) (mu := mu) (lm := lm) hk hz i; rw [e] at q; exact q) ?_
      refine zs_istore_n (pc := 6) (ls' := [_, _, _, _]) 3 dX8_at_6 rfl (by decide) rfl ?_
      refine zk_iload_n (pc := 7) 3 dX8_at_7 rfl rfl ?_
      refine zk_if_eq (pc := 8) 15 dX8_at_8 (by decide) (fun h8 => ?_) (fun h8 => ?_)
      · skip
        refine zk_aload_n (pc := 15) 0 dX8_at_15 rfl rfl ?_
        refine zk_aload_n (pc := 16) 0 dX8_at_16 rfl rfl ?_
        refine zk_getR (pc := 17) dX8_at_17 flX8_13 rfl rfl ?_
        refine zk_bipush (pc := 20) (v := 40) dX8_at_20 (by decide) ?_
        refine zk_iload_n (pc := 22) 1 dX8_at_22 rfl rfl ?_
        refine zk_imul (pc := 23) dX8_at_23 ?_
        refine zk_iload_n (pc := 24) 2 dX8_at_24 rfl rfl ?_
        refine zk_iadd (pc := 25) dX8_at_25 ?_
        refine zk_iaload (pc := 26) (40 * k + i.toNatClampNeg) dX8_at_26 rfl (by rw [show (40 : Int32) = nI 40 from rfl, pk_mul]; exact (congrArg (fun z => nI (40 * k) + z) hi.1).trans (nI_add _ _)) (by omega) ?_
        refine zk_callVI (pc := 27) dX8_at_27 mtX8_tells lkX8_81 stX8_tells (by rfl) (by rfl) [_] _ rfl rfl (Nat.le_of_ble_eq_true rfl) (Nat.le_of_ble_eq_true rfl) (sp_X8_tells _) ?_
        exact zk_ireturn (pc := 30) dX8_at_30 (Or.inl rfl) (zk_pr rfl)
      · exact absurd rfl h8 --
    · have e : wrAt mu k i = (-3, fndD mu 2) := by unfold wrAt; rw [if_pos a1, if_neg a2]
      have hf : mAt mu k i = (-3, fndD mu 2) := by unfold mAt; rw [if_pos a1, if_neg a2]
      rw [hf]
      refine zk_aload_n (pc := 0) 0 dX8_at_0 rfl rfl ?_
      refine zk_iload_n (pc := 1) 1 dX8_at_1 rfl rfl ?_
      refine zk_iload_n (pc := 2) 2 dX8_at_2 rfl rfl ?_
      refine zk_callVI (pc := 3) dX8_at_3 mtX8_wrongAt lkX8_77 stX8_wrongAt (by rfl) (by rfl) [_, _] _ rfl rfl (Nat.le_of_ble_eq_true rfl) (Nat.le_of_ble_eq_true rfl) (by have q := sp_X8_wrongAt (d := d) (mu := mu) (lm := lm) hk hz i; rw [e] at q; exact q) ?_
      refine zs_istore_n (pc := 6) (ls' := [_, _, _, _]) 3 dX8_at_6 rfl (by decide) rfl ?_
      refine zk_iload_n (pc := 7) 3 dX8_at_7 rfl rfl ?_
      refine zk_if_eq (pc := 8) 15 dX8_at_8 (by decide) (fun h8 => ?_) (fun h8 => ?_)
      · exact absurd h8 (show ¬ (-3 : Int32) = 0 by decide) --
      · skip
        refine zk_iload_n (pc := 11) 3 dX8_at_11 rfl rfl ?_
        refine zk_goto (pc := 12) 30 dX8_at_12 (by decide) ?_
        exact zk_ireturn (pc := 30) dX8_at_30 (Or.inl rfl) (zk_pr rfl)
  · have e : wrAt mu k i = (-3, fndD mu 1) := by unfold wrAt; rw [if_neg a1]
    have hf : mAt mu k i = (-3, fndD mu 1) := by unfold mAt; rw [if_neg a1]
    rw [hf]
    refine zk_aload_n (pc := 0) 0 dX8_at_0 rfl rfl ?_
    refine zk_iload_n (pc := 1) 1 dX8_at_1 rfl rfl ?_
    refine zk_iload_n (pc := 2) 2 dX8_at_2 rfl rfl ?_
    refine zk_callVI (pc := 3) dX8_at_3 mtX8_wrongAt lkX8_77 stX8_wrongAt (by rfl) (by rfl) [_, _] _ rfl rfl (Nat.le_of_ble_eq_true rfl) (Nat.le_of_ble_eq_true rfl) (by have q := sp_X8_wrongAt (d := d) (mu := mu) (lm := lm) hk hz i; rw [e] at q; exact q) ?_
    refine zs_istore_n (pc := 6) (ls' := [_, _, _, _]) 3 dX8_at_6 rfl (by decide) rfl ?_
    refine zk_iload_n (pc := 7) 3 dX8_at_7 rfl rfl ?_
    refine zk_if_eq (pc := 8) 15 dX8_at_8 (by decide) (fun h8 => ?_) (fun h8 => ?_)
    · exact absurd h8 (show ¬ (-3 : Int32) = 0 by decide) --
    · skip
      refine zk_iload_n (pc := 11) 3 dX8_at_11 rfl rfl ?_
      refine zk_goto (pc := 12) 30 dX8_at_12 (by decide) ?_
      exact zk_ireturn (pc := 30) dX8_at_30 (Or.inl rfl) (zk_pr rfl)
theorem sp_X8_tear {k : Nat} (hk : k < 6) : zk_M (d + 1) RX8 cX8_tear 2 (some .int) none 0 (zk_loc [.ref 46, .int (nI k)] 2) [] mu lm (zk_R (some (.int (if 0 ≤ mu 47 k then 1 else -3))) (if 0 ≤ mu 47 k then zk_up mu 47 k (-1) else fndD mu 1) lm) := by
  refine zk_iload_n (pc := 0) 1 dX8_tear_0 rfl rfl ?_
  refine zk_iconst (pc := 1) (v := 0) dX8_tear_1 (by decide) ?_
  refine zk_iconst (pc := 2) (v := 5) dX8_tear_2 (by decide) ?_
  refine zk_callSI (pc := 3) dX8_tear_3 mtX8_in lkX8_66 stX8_in [_, _, _] _ rfl rfl (Nat.le_of_ble_eq_true rfl) (Nat.le_of_ble_eq_true rfl) (sp_X8_in _ _ _) ?_
  refine zk_if_ne (pc := 6) 11 dX8_tear_6 (by decide) (fun h6 => ?_) (fun h6 => ?_)
  · skip
    refine zk_aload_n (pc := 11) 0 dX8_tear_11 rfl rfl ?_
    refine zk_getR (pc := 12) dX8_tear_12 flX8_7 rfl rfl ?_
    refine zk_iload_n (pc := 15) 1 dX8_tear_15 rfl rfl ?_
    refine zk_iaload (pc := 16) k dX8_tear_16 rfl rfl hk ?_
    refine zk_if_ge (pc := 17) 26 dX8_tear_17 (by decide) (fun h17 => ?_) (fun h17 => ?_)
    · skip
      refine zk_aload_n (pc := 26) 0 dX8_tear_26 rfl rfl ?_
      refine zk_getR (pc := 27) dX8_tear_27 flX8_7 rfl rfl ?_
      refine zk_iload_n (pc := 30) 1 dX8_tear_30 rfl rfl ?_
      refine zk_iconst (pc := 31) (v := -1) dX8_tear_31 (by decide) ?_
      refine zk_iastore (pc := 32) k dX8_tear_32 rfl rfl hk ?_
      refine zk_iconst (pc := 33) (v := 1) dX8_tear_33 (by decide) ?_
      rw [if_pos h17, if_pos h17]
      exact zk_ireturn (pc := 34) dX8_tear_34 (Or.inl rfl) ⟨rfl, rfl, rfl⟩
    · skip
      refine zk_aload_n (pc := 20) 0 dX8_tear_20 rfl rfl ?_
      refine zk_iconst (pc := 21) (v := 1) dX8_tear_21 (by decide) ?_
      refine zk_callVI (pc := 22) dX8_tear_22 mtX8_finds lkX8_73 stX8_finds (by rfl) (by rfl) [_] _ rfl rfl (Nat.le_of_ble_eq_true rfl) (Nat.le_of_ble_eq_true rfl) (sp_X8_finds (f := 1) (by decide)) ?_
      rw [if_neg h17, if_neg h17]
      exact zk_ireturn (pc := 25) dX8_tear_25 (Or.inl rfl) ⟨rfl, rfl, rfl⟩
  · rw [zb_e] at h6
    exact absurd (show (0 : Int32) ≤ nI k ∧ nI k ≤ 5 from ⟨nI_pos' (by omega), show nI k ≤ nI 5 from nI_le (by omega) (by decide)⟩) h6 --
def mPut (mu : Mem) (k : Nat) (i v : Int32) : Int32 × Mem := if 0 ≤ mu 49 k then (if 0 ≤ i ∧ i < mu 49 k then (mu 50 (60 * k + i.toNatClampNeg) + 1000, zk_up mu 50 (60 * k + i.toNatClampNeg) v.toInt8.toInt32) else (-3, fndD mu 2)) else (-3, fndD mu 1)
theorem sp_X8_put {k : Nat} (hk : k < 4) (hz : zSz (mu 49 k) 60) (i v : Int32) : zk_M (d + 1) RX8 cX8_put 5 (some .int) none 0 (zk_loc [.ref 46, .int (nI k), .int i, .int v] 5) [] mu lm (zk_R (some (.int (mPut mu k i v).1)) (mPut mu k i v).2 lm) := by
  refine zk_iload_n (pc := 0) 1 dX8_put_0 rfl rfl ?_
  refine zk_iconst (pc := 1) (v := 0) dX8_put_1 (by decide) ?_
  refine zk_iconst (pc := 2) (v := 3) dX8_put_2 (by decide) ?_
  refine zk_callSI (pc := 3) dX8_put_3 mtX8_in lkX8_66 stX8_in [_, _, _] _ rfl rfl (Nat.le_of_ble_eq_true rfl) (Nat.le_of_ble_eq_true rfl) (sp_X8_in _ _ _) ?_
  refine zk_if_ne (pc := 6) 11 dX8_put_6 (by decide) (fun h6 => ?_) (fun h6 => ?_)
  · skip
    refine zk_aload_n (pc := 11) 0 dX8_put_11 rfl rfl ?_
    refine zk_getR (pc := 12) dX8_put_12 flX8_16 rfl rfl ?_
    refine zk_iload_n (pc := 15) 1 dX8_put_15 rfl rfl ?_
    refine zk_iaload (pc := 16) k dX8_put_16 rfl rfl hk ?_
    refine zk_if_ge (pc := 17) 26 dX8_put_17 (by decide) (fun h17 => ?_) (fun h17 => ?_)
    · skip
      refine zk_iload_n (pc := 26) 2 dX8_put_26 rfl rfl ?_
      refine zk_iconst (pc := 27) (v := 0) dX8_put_27 (by decide) ?_
      refine zk_aload_n (pc := 28) 0 dX8_put_28 rfl rfl ?_
      refine zk_getR (pc := 29) dX8_put_29 flX8_16 rfl rfl ?_
      refine zk_iload_n (pc := 32) 1 dX8_put_32 rfl rfl ?_
      refine zk_iaload (pc := 33) k dX8_put_33 rfl rfl hk ?_
      refine zk_iconst (pc := 34) (v := 1) dX8_put_34 (by decide) ?_
      refine zk_isub (pc := 35) dX8_put_35 ?_
      refine zk_callSI (pc := 36) dX8_put_36 mtX8_in lkX8_66 stX8_in [_, _, _] _ rfl rfl (Nat.le_of_ble_eq_true rfl) (Nat.le_of_ble_eq_true rfl) (sp_X8_in _ _ _) ?_
      refine zk_if_ne (pc := 39) 48 dX8_put_39 (by decide) (fun h39 => ?_) (fun h39 => ?_)
      · rw [zb_n, zsz_m (by decide) hz h17] at h39
        have hf : mPut mu k i v = (mu 50 (60 * k + i.toNatClampNeg) + 1000, zk_up mu 50 (60 * k + i.toNatClampNeg) v.toInt8.toInt32) := by unfold mPut; rw [if_pos h17, if_pos h39]
        rw [hf]
        obtain ⟨sz, hsz, hse⟩ := zsz_pos hz (by decide) h17
        rw [hse] at h39
        have hi := zix h39.1 h39.2 (by omega)
        refine zk_aload_n (pc := 48) 0 dX8_put_48 rfl rfl ?_
        refine zk_getR (pc := 49) dX8_put_49 flX8_19 rfl rfl ?_
        refine zk_bipush (pc := 52) (v := 60) dX8_put_52 (by decide) ?_
        refine zk_iload_n (pc := 54) 1 dX8_put_54 rfl rfl ?_
        refine zk_imul (pc := 55) dX8_put_55 ?_
        refine zk_iload_n (pc := 56) 2 dX8_put_56 rfl rfl ?_
        refine zk_iadd (pc := 57) dX8_put_57 ?_
        refine zk_iaload (pc := 58) (60 * k + i.toNatClampNeg) dX8_put_58 rfl (by rw [show (60 : Int32) = nI 60 from rfl, pk_mul]; exact (congrArg (fun z => nI (60 * k) + z) hi.1).trans (nI_add _ _)) (by omega) ?_
        refine zs_istore (pc := 59) (ls' := [_, _, _, _, _]) 4 dX8_put_59 (by decide) rfl ?_
        refine zk_aload_n (pc := 61) 0 dX8_put_61 rfl rfl ?_
        refine zk_getR (pc := 62) dX8_put_62 flX8_19 rfl rfl ?_
        refine zk_bipush (pc := 65) (v := 60) dX8_put_65 (by decide) ?_
        refine zk_iload_n (pc := 67) 1 dX8_put_67 rfl rfl ?_
        refine zk_imul (pc := 68) dX8_put_68 ?_
        refine zk_iload_n (pc := 69) 2 dX8_put_69 rfl rfl ?_
        refine zk_iadd (pc := 70) dX8_put_70 ?_
        refine zk_iload_n (pc := 71) 3 dX8_put_71 rfl rfl ?_
        refine zk_i2b (pc := 72) dX8_put_72 ?_
        refine zk_iastore (pc := 73) (60 * k + i.toNatClampNeg) dX8_put_73 rfl (by rw [show (60 : Int32) = nI 60 from rfl, pk_mul]; exact (congrArg (fun z => nI (60 * k) + z) hi.1).trans (nI_add _ _)) (by omega) ?_
        refine zk_iload (pc := 74) dX8_put_74 rfl ?_
        refine zk_sipush (pc := 76) (v := 1000) dX8_put_76 (by decide) ?_
        refine zk_iadd (pc := 79) dX8_put_79 ?_
        exact zk_ireturn (pc := 80) dX8_put_80 (Or.inl rfl) (zk_pr rfl)
      · rw [zb_e, zsz_m (by decide) hz h17] at h39
        refine zk_aload_n (pc := 42) 0 dX8_put_42 rfl rfl ?_
        refine zk_iconst (pc := 43) (v := 2) dX8_put_43 (by decide) ?_
        refine zk_callVI (pc := 44) dX8_put_44 mtX8_finds lkX8_73 stX8_finds (by rfl) (by rfl) [_] _ rfl rfl (Nat.le_of_ble_eq_true rfl) (Nat.le_of_ble_eq_true rfl) (sp_X8_finds (f := 2) (by decide)) ?_
        exact zk_ireturn (pc := 47) dX8_put_47 (Or.inl rfl) (zk_pr (by unfold mPut; rw [if_pos h17, if_neg h39]))
    · skip
      refine zk_aload_n (pc := 20) 0 dX8_put_20 rfl rfl ?_
      refine zk_iconst (pc := 21) (v := 1) dX8_put_21 (by decide) ?_
      refine zk_callVI (pc := 22) dX8_put_22 mtX8_finds lkX8_73 stX8_finds (by rfl) (by rfl) [_] _ rfl rfl (Nat.le_of_ble_eq_true rfl) (Nat.le_of_ble_eq_true rfl) (sp_X8_finds (f := 1) (by decide)) ?_
      exact zk_ireturn (pc := 25) dX8_put_25 (Or.inl rfl) (zk_pr (by unfold mPut; rw [if_neg h17]))
  · rw [zb_e] at h6
    exact absurd (show (0 : Int32) ≤ nI k ∧ nI k ≤ 3 from ⟨nI_pos' (by omega), show nI k ≤ nI 3 from nI_le (by omega) (by decide)⟩) h6 --
def mMean (mu : Mem) (k : Nat) : Int32 × Mem := if 0 ≤ mu 47 k then (if mu 47 k = 0 then (-3, fndD mu 4) else (1, zk_up mu 46 6 (zsumL (mu 47 k).toNatClampNeg (fun q => mu 48 (40 * k + q)) / (mu 47 k).toInt64).toInt32)) else (-3, fndD mu 1)
theorem sp_X8_mean {k : Nat} (hk : k < 6) (hz : zSz (mu 47 k) 40) : zk_M (d + 1) RX8 cX8_mean 5 (some .int) none 0 (zk_loc [.ref 46, .int (nI k)] 5) [] mu lm (zk_R (some (.int (mMean mu k).1)) (mMean mu k).2 lm) := by
  refine zk_iload_n (pc := 0) 1 dX8_mean_0 rfl rfl ?_
  refine zk_iconst (pc := 1) (v := 0) dX8_mean_1 (by decide) ?_
  refine zk_iconst (pc := 2) (v := 5) dX8_mean_2 (by decide) ?_
  refine zk_callSI (pc := 3) dX8_mean_3 mtX8_in lkX8_66 stX8_in [_, _, _] _ rfl rfl (Nat.le_of_ble_eq_true rfl) (Nat.le_of_ble_eq_true rfl) (sp_X8_in _ _ _) ?_
  refine zk_if_ne (pc := 6) 11 dX8_mean_6 (by decide) (fun h6 => ?_) (fun h6 => ?_)
  · skip
    refine zk_aload_n (pc := 11) 0 dX8_mean_11 rfl rfl ?_
    refine zk_getR (pc := 12) dX8_mean_12 flX8_7 rfl rfl ?_
    refine zk_iload_n (pc := 15) 1 dX8_mean_15 rfl rfl ?_
    refine zk_iaload (pc := 16) k dX8_mean_16 rfl rfl hk ?_
    refine zk_if_ge (pc := 17) 26 dX8_mean_17 (by decide) (fun h17 => ?_) (fun h17 => ?_)
    · skip
      refine zk_aload_n (pc := 26) 0 dX8_mean_26 rfl rfl ?_
      refine zk_getR (pc := 27) dX8_mean_27 flX8_7 rfl rfl ?_
      refine zk_iload_n (pc := 30) 1 dX8_mean_30 rfl rfl ?_
      refine zk_iaload (pc := 31) k dX8_mean_31 rfl rfl hk ?_
      refine zk_if_ne (pc := 32) 41 dX8_mean_32 (by decide) (fun h32 => ?_) (fun h32 => ?_)
      · skip
        refine zk_lconst (pc := 41) (v := 0) dX8_mean_41 (by decide) ?_
        refine zs_lstore_n (pc := 42) (ls' := [_, _, _, _, _]) 2 dX8_mean_42 rfl (by decide) rfl ?_
        refine zk_iconst (pc := 43) (v := 0) dX8_mean_43 (by decide) ?_
        refine zs_istore (pc := 44) (ls' := [_, _, _, _, _]) 4 dX8_mean_44 (by decide) rfl ?_
        obtain ⟨j, hj, hs⟩ := zsz_pos hz (by decide) h17
        have hj0 : ¬ j = 0 := fun q => h32 (by rw [hs, q]; rfl)
        have hf : mMean mu k = (1, zk_up mu 46 6 (zsumL j (fun q => mu 48 (40 * k + q)) / (mu 47 k).toInt64).toInt32) := by
          unfold mMean; rw [if_pos h17, if_neg h32, show (mu 47 k).toNatClampNeg = j by rw [hs, nI_clamp (by omega)]]
        rw [hf]
        have loop : ∀ q, q ≤ j → zk_M (d + 1) RX8 cX8_mean 5 (some .int) none 46 [.ref 46, .int (nI k), .long (zsumL q (fun q => mu 48 (40 * k + q))), .retAddr 0, .int (nI q)] [] mu lm (zk_R (some (.int 1)) (zk_up mu 46 6 (zsumL j (fun q => mu 48 (40 * k + q)) / (mu 47 k).toInt64).toInt32) lm) := by
          refine zk_ind j (fun q hq ih => ?_)
          refine zk_iload (pc := 46) dX8_mean_46 rfl ?_
          refine zk_aload_n (pc := 48) 0 dX8_mean_48 rfl rfl ?_
          refine zk_getR (pc := 49) dX8_mean_49 flX8_7 rfl rfl ?_
          refine zk_iload_n (pc := 52) 1 dX8_mean_52 rfl rfl ?_
          refine zk_iaload (pc := 53) k dX8_mean_53 rfl rfl hk ?_
          refine zk_icmp_ge (pc := 54) 79 dX8_mean_54 (by decide) (fun h54 => ?_) (fun h54 => ?_)
          · rw [hs, nIle (by omega) (by omega)] at h54
            refine zk_aload_n (pc := 79) 0 dX8_mean_79 rfl rfl ?_
            refine zk_lload_n (pc := 80) 2 dX8_mean_80 rfl rfl ?_
            refine zk_aload_n (pc := 81) 0 dX8_mean_81 rfl rfl ?_
            refine zk_getR (pc := 82) dX8_mean_82 flX8_7 rfl rfl ?_
            refine zk_iload_n (pc := 85) 1 dX8_mean_85 rfl rfl ?_
            refine zk_iaload (pc := 86) k dX8_mean_86 rfl rfl hk ?_
            refine zk_i2l (pc := 87) dX8_mean_87 ?_
            refine zk_ldiv (pc := 88) dX8_mean_88 (by rw [hs, nI_l (by omega), show (0 : Int64) = lN 0 from rfl, propext (pk_lEQ (by omega) (by decide))]; exact hj0) ?_
            refine zk_l2i (pc := 89) dX8_mean_89 ?_
            refine zk_callVI (pc := 90) dX8_mean_90 mtX8_tells lkX8_81 stX8_tells (by rfl) (by rfl) [_] _ rfl rfl (Nat.le_of_ble_eq_true rfl) (Nat.le_of_ble_eq_true rfl) (sp_X8_tells _) ?_
            refine zk_ireturn (pc := 93) dX8_mean_93 (Or.inl rfl) (zk_rm rfl ?_ rfl)
            rw [show q = j by omega]
          · rw [hs, nIle (by omega) (by omega)] at h54
            refine zk_lload_n (pc := 57) 2 dX8_mean_57 rfl rfl ?_
            refine zk_aload_n (pc := 58) 0 dX8_mean_58 rfl rfl ?_
            refine zk_getR (pc := 59) dX8_mean_59 flX8_13 rfl rfl ?_
            refine zk_bipush (pc := 62) (v := 40) dX8_mean_62 (by decide) ?_
            refine zk_iload_n (pc := 64) 1 dX8_mean_64 rfl rfl ?_
            refine zk_imul (pc := 65) dX8_mean_65 ?_
            refine zk_iload (pc := 66) dX8_mean_66 rfl ?_
            refine zk_iadd (pc := 68) dX8_mean_68 ?_
            refine zk_iaload (pc := 69) (40 * k + q) dX8_mean_69 rfl (by rw [show (40 : Int32) = nI 40 from rfl, pk_mul, nI_add]) (by omega) ?_
            refine zk_i2l (pc := 70) dX8_mean_70 ?_
            refine zk_ladd (pc := 71) dX8_mean_71 ?_
            refine zs_lstore_n (pc := 72) (ls' := [_, _, _, _, _]) 2 dX8_mean_72 rfl (by decide) rfl ?_
            refine zs_iinc (pc := 73) (ls' := [_, _, _, _, _]) dX8_mean_73 rfl (nI_1 q) (by decide) rfl ?_
            refine zk_goto (pc := 76) 46 dX8_mean_76 (by decide) ?_
            exact ih (by omega)
        exact loop 0 (Nat.zero_le _)
      · skip
        refine zk_aload_n (pc := 35) 0 dX8_mean_35 rfl rfl ?_
        refine zk_iconst (pc := 36) (v := 4) dX8_mean_36 (by decide) ?_
        refine zk_callVI (pc := 37) dX8_mean_37 mtX8_finds lkX8_73 stX8_finds (by rfl) (by rfl) [_] _ rfl rfl (Nat.le_of_ble_eq_true rfl) (Nat.le_of_ble_eq_true rfl) (sp_X8_finds (f := 4) (by decide)) ?_
        exact zk_ireturn (pc := 40) dX8_mean_40 (Or.inl rfl) (zk_pr (by unfold mMean; rw [if_pos h17, if_pos h32]))
    · skip
      refine zk_aload_n (pc := 20) 0 dX8_mean_20 rfl rfl ?_
      refine zk_iconst (pc := 21) (v := 1) dX8_mean_21 (by decide) ?_
      refine zk_callVI (pc := 22) dX8_mean_22 mtX8_finds lkX8_73 stX8_finds (by rfl) (by rfl) [_] _ rfl rfl (Nat.le_of_ble_eq_true rfl) (Nat.le_of_ble_eq_true rfl) (sp_X8_finds (f := 1) (by decide)) ?_
      exact zk_ireturn (pc := 25) dX8_mean_25 (Or.inl rfl) (zk_pr (by unfold mMean; rw [if_neg h17]))
  · rw [zb_e] at h6
    exact absurd (show (0 : Int32) ≤ nI k ∧ nI k ≤ 5 from ⟨nI_pos' (by omega), show nI k ≤ nI 5 from nI_le (by omega) (by decide)⟩) h6 --
end M42
