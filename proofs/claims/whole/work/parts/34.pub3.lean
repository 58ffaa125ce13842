section M34
variable {d : Nat} {mu : Mem} {lm : MemL}
def cSays (mu : Mem) (i v : Int32) : Int32 := if (0 ≤ i ∧ i < mu 23 6) ∧ (0 ≤ v ∧ v ≤ 99) then kSay (mu 24 i.toNatClampNeg) v else -1
def cBrt (mu : Mem) (i v : Int32) : Int32 := if (0 ≤ i ∧ i < mu 23 6) ∧ (0 ≤ v ∧ v ≤ 99) then v - kSay (mu 24 i.toNatClampNeg) v else -1
theorem sp_X7_says {C M : Nat} (hC : mu 23 5 = nI C) (hC8 : C ≤ 8) (hM : mu 23 6 = nI M) (hM6 : M ≤ 6) (i v : Int32) : zk_M (d + 3) RX7 cX7_says 3 (some .int) none 0 (zk_loc [.ref 0, .int i, .int v] 3) [] mu lm (zk_R (some (.int (cSays mu i v))) mu lm) := by
  refine zk_aload_n (pc := 0) 0 dX7_says_0 rfl rfl ?_
  refine zk_getR (pc := 1) dX7_says_1 flX7_23 rfl rfl ?_
  refine zk_iload_n (pc := 4) 1 dX7_says_4 rfl rfl ?_
  refine zk_callVI (pc := 5) dX7_says_5 mtX0_hasMember lkX7_126 stX0_hasMember (by rfl) (by rfl) [_] _ rfl rfl (Nat.le_of_ble_eq_true rfl) (Nat.le_of_ble_eq_true rfl) (sp_X0_hasMember _) ?_
  refine zk_if_eq (pc := 8) 34 dX7_says_8 (by decide) (fun h8 => ?_) (fun h8 => ?_)
  · rw [zb_e] at h8
    refine zk_iconst (pc := 34) (v := -1) dX7_says_34 (by decide) ?_
    refine zk_ireturn (pc := 35) dX7_says_35 (Or.inl rfl) (zk_ri ?_)
    unfold cSays
    first | rw [if_neg (fun q => h8 q.1)] | rw [if_neg (fun q => h15 q.2)] | rw [if_pos ⟨h8, h15⟩, nI_clamp (by omega)]
  · rw [zb_n] at h8
    obtain ⟨j, hj, rfl⟩ := zget h8 hM (by omega)
    refine zk_iload_n (pc := 11) 2 dX7_says_11 rfl rfl ?_
    refine zk_callSI (pc := 12) dX7_says_12 mtX7_isMeaning lkX7_167 stX7_isMeaning [_] _ rfl rfl (Nat.le_of_ble_eq_true rfl) (Nat.le_of_ble_eq_true rfl) (sp_X7_isMeaning _) ?_
    refine zk_if_eq (pc := 15) 34 dX7_says_15 (by decide) (fun h15 => ?_) (fun h15 => ?_)
    · rw [zb_e] at h15
      refine zk_iconst (pc := 34) (v := -1) dX7_says_34 (by decide) ?_
      refine zk_ireturn (pc := 35) dX7_says_35 (Or.inl rfl) (zk_ri ?_)
      unfold cSays
      first | rw [if_neg (fun q => h8 q.1)] | rw [if_neg (fun q => h15 q.2)] | rw [if_pos ⟨h8, h15⟩, nI_clamp (by omega)]
    · rw [zb_n] at h15
      refine zk_aload_n (pc := 18) 0 dX7_says_18 rfl rfl ?_
      refine zk_getR (pc := 19) dX7_says_19 flX7_23 rfl rfl ?_
      refine zk_getR (pc := 22) dX7_says_22 flX7_140 rfl rfl ?_
      refine zk_iload_n (pc := 25) 1 dX7_says_25 rfl rfl ?_
      refine zk_iaload (pc := 26) j dX7_says_26 rfl rfl (by omega) ?_
      refine zk_iload_n (pc := 27) 2 dX7_says_27 rfl rfl ?_
      refine zk_callSI (pc := 28) dX7_says_28 mtX2_spoken lkX7_158 stX2_spoken [_, _] _ rfl rfl (Nat.le_of_ble_eq_true rfl) (Nat.le_of_ble_eq_true rfl) (sp_X2_spoken _ _) ?_
      refine zk_goto (pc := 31) 35 dX7_says_31 (by decide) ?_
      refine zk_ireturn (pc := 35) dX7_says_35 (Or.inl rfl) (zk_ri ?_)
      unfold cSays
      first | rw [if_neg (fun q => h8 q.1)] | rw [if_neg (fun q => h15 q.2)] | rw [if_pos ⟨h8, h15⟩, nI_clamp (by omega)]
theorem sp_X7_breathes {C M : Nat} (hC : mu 23 5 = nI C) (hC8 : C ≤ 8) (hM : mu 23 6 = nI M) (hM6 : M ≤ 6) (i v : Int32) : zk_M (d + 3) RX7 cX7_breathes 3 (some .int) none 0 (zk_loc [.ref 0, .int i, .int v] 3) [] mu lm (zk_R (some (.int (cBrt mu i v))) mu lm) := by
  refine zk_aload_n (pc := 0) 0 dX7_breathes_0 rfl rfl ?_
  refine zk_getR (pc := 1) dX7_breathes_1 flX7_23 rfl rfl ?_
  refine zk_iload_n (pc := 4) 1 dX7_breathes_4 rfl rfl ?_
  refine zk_callVI (pc := 5) dX7_breathes_5 mtX0_hasMember lkX7_126 stX0_hasMember (by rfl) (by rfl) [_] _ rfl rfl (Nat.le_of_ble_eq_true rfl) (Nat.le_of_ble_eq_true rfl) (sp_X0_hasMember _) ?_
  refine zk_if_eq (pc := 8) 34 dX7_breathes_8 (by decide) (fun h8 => ?_) (fun h8 => ?_)
  · rw [zb_e] at h8
    refine zk_iconst (pc := 34) (v := -1) dX7_breathes_34 (by decide) ?_
    refine zk_ireturn (pc := 35) dX7_breathes_35 (Or.inl rfl) (zk_ri ?_)
    unfold cBrt
    first | rw [if_neg (fun q => h8 q.1)] | rw [if_neg (fun q => h15 q.2)] | rw [if_pos ⟨h8, h15⟩, nI_clamp (by omega)]
  · rw [zb_n] at h8
    obtain ⟨j, hj, rfl⟩ := zget h8 hM (by omega)
    refine zk_iload_n (pc := 11) 2 dX7_breathes_11 rfl rfl ?_
    refine zk_callSI (pc := 12) dX7_breathes_12 mtX7_isMeaning lkX7_167 stX7_isMeaning [_] _ rfl rfl (Nat.le_of_ble_eq_true rfl) (Nat.le_of_ble_eq_true rfl) (sp_X7_isMeaning _) ?_
    refine zk_if_eq (pc := 15) 34 dX7_breathes_15 (by decide) (fun h15 => ?_) (fun h15 => ?_)
    · rw [zb_e] at h15
      refine zk_iconst (pc := 34) (v := -1) dX7_breathes_34 (by decide) ?_
      refine zk_ireturn (pc := 35) dX7_breathes_35 (Or.inl rfl) (zk_ri ?_)
      unfold cBrt
      first | rw [if_neg (fun q => h8 q.1)] | rw [if_neg (fun q => h15 q.2)] | rw [if_pos ⟨h8, h15⟩, nI_clamp (by omega)]
    · rw [zb_n] at h15
      refine zk_aload_n (pc := 18) 0 dX7_breathes_18 rfl rfl ?_
      refine zk_getR (pc := 19) dX7_breathes_19 flX7_23 rfl rfl ?_
      refine zk_getR (pc := 22) dX7_breathes_22 flX7_140 rfl rfl ?_
      refine zk_iload_n (pc := 25) 1 dX7_breathes_25 rfl rfl ?_
      refine zk_iaload (pc := 26) j dX7_breathes_26 rfl rfl (by omega) ?_
      refine zk_iload_n (pc := 27) 2 dX7_breathes_27 rfl rfl ?_
      refine zk_callSI (pc := 28) dX7_breathes_28 mtX2_breathed lkX7_188 stX2_breathed [_, _] _ rfl rfl (Nat.le_of_ble_eq_true rfl) (Nat.le_of_ble_eq_true rfl) (sp_X2_breathed _ _) ?_
      refine zk_goto (pc := 31) 35 dX7_breathes_31 (by decide) ?_
      refine zk_ireturn (pc := 35) dX7_breathes_35 (Or.inl rfl) (zk_ri ?_)
      unfold cBrt
      first | rw [if_neg (fun q => h8 q.1)] | rw [if_neg (fun q => h15 q.2)] | rw [if_pos ⟨h8, h15⟩, nI_clamp (by omega)]
def cMeans (mu : Mem) (i s : Int32) : Int32 × Mem := if (0 ≤ i ∧ i < mu 23 6) ∧ (0 ≤ s ∧ s ≤ 99) then (zsum 100 (fun v => zb (kSay (mu 24 i.toNatClampNeg) (nI v) = s)), zk_up mu 0 10 (zfst (fun v => decide (kSay (mu 24 i.toNatClampNeg) (nI v) = s)) (-9) 100 0)) else (-1, mu)
theorem sp_X7_means {C M : Nat} (hC : mu 23 5 = nI C) (hC8 : C ≤ 8) (hM : mu 23 6 = nI M) (hM6 : M ≤ 6) (i v : Int32) : zk_M (d + 3) RX7 cX7_means 3 (some .int) none 0 (zk_loc [.ref 0, .int i, .int v] 3) [] mu lm (zk_R (some (.int (cMeans mu i v).1)) (cMeans mu i v).2 lm) := by
  refine zk_aload_n (pc := 0) 0 dX7_means_0 rfl rfl ?_
  refine zk_getR (pc := 1) dX7_means_1 flX7_23 rfl rfl ?_
  refine zk_iload_n (pc := 4) 1 dX7_means_4 rfl rfl ?_
  refine zk_callVI (pc := 5) dX7_means_5 mtX0_hasMember lkX7_126 stX0_hasMember (by rfl) (by rfl) [_] _ rfl rfl (Nat.le_of_ble_eq_true rfl) (Nat.le_of_ble_eq_true rfl) (sp_X0_hasMember _) ?_
  refine zk_if_eq (pc := 8) 18 dX7_means_8 (by decide) (fun h8 => ?_) (fun h8 => ?_)
  · rw [zb_e] at h8
    refine zk_iconst (pc := 18) (v := -1) dX7_means_18 (by decide) ?_
    exact zk_ireturn (pc := 19) dX7_means_19 (Or.inl rfl) (zk_pr (by unfold cMeans; first | rw [if_neg (fun q => h8 q.1)] | rw [if_neg (fun q => h15 q.2)]))
  · rw [zb_n] at h8
    obtain ⟨j, hj, rfl⟩ := zget h8 hM (by omega)
    refine zk_iload_n (pc := 11) 2 dX7_means_11 rfl rfl ?_
    refine zk_callSI (pc := 12) dX7_means_12 mtX7_isMeaning lkX7_167 stX7_isMeaning [_] _ rfl rfl (Nat.le_of_ble_eq_true rfl) (Nat.le_of_ble_eq_true rfl) (sp_X7_isMeaning _) ?_
    refine zk_if_ne (pc := 15) 20 dX7_means_15 (by decide) (fun h15 => ?_) (fun h15 => ?_)
    · rw [zb_n] at h15
      refine zk_aload_n (pc := 20) 0 dX7_means_20 rfl rfl ?_
      refine zk_aload_n (pc := 21) 0 dX7_means_21 rfl rfl ?_
      refine zk_getR (pc := 22) dX7_means_22 flX7_23 rfl rfl ?_
      refine zk_getR (pc := 25) dX7_means_25 flX7_140 rfl rfl ?_
      refine zk_iload_n (pc := 28) 1 dX7_means_28 rfl rfl ?_
      refine zk_iaload (pc := 29) j dX7_means_29 rfl rfl (by omega) ?_
      refine zk_iload_n (pc := 30) 2 dX7_means_30 rfl rfl ?_
      refine zk_callSI (pc := 31) dX7_means_31 mtX2_leastMeaningOf lkX7_191 stX2_leastMeaningOf [_, _] _ rfl rfl (Nat.le_of_ble_eq_true rfl) (Nat.le_of_ble_eq_true rfl) (sp_X2_leastMeaningOf _ _) ?_
      refine zk_putI (pc := 34) dX7_means_34 flX7_82 rfl rfl ?_
      refine zk_aload_n (pc := 37) 0 dX7_means_37 rfl rfl ?_
      refine zk_getR (pc := 38) dX7_means_38 flX7_23 rfl rfl ?_
      refine zk_getR (pc := 41) dX7_means_41 flX7_140 rfl rfl ?_
      refine zk_iload_n (pc := 44) 1 dX7_means_44 rfl rfl ?_
      refine zk_iaload (pc := 45) j dX7_means_45 rfl rfl (by omega) ?_
      refine zk_iload_n (pc := 46) 2 dX7_means_46 rfl rfl ?_
      rw [zup_c _ _ _ (by decide)]
      refine zk_callSI (pc := 47) dX7_means_47 mtX2_meaningsOf lkX7_155 stX2_meaningsOf [_, _] _ rfl rfl (Nat.le_of_ble_eq_true rfl) (Nat.le_of_ble_eq_true rfl) (sp_X2_meaningsOf _ _) ?_
      exact zk_ireturn (pc := 50) dX7_means_50 (Or.inl rfl) (zk_pr (by unfold cMeans; rw [if_pos ⟨h8, h15⟩, nI_clamp (by omega)]))
    · rw [zb_e] at h15
      refine zk_iconst (pc := 18) (v := -1) dX7_means_18 (by decide) ?_
      exact zk_ireturn (pc := 19) dX7_means_19 (Or.inl rfl) (zk_pr (by unfold cMeans; first | rw [if_neg (fun q => h8 q.1)] | rw [if_neg (fun q => h15 q.2)]))
theorem sp_X7_least {C M : Nat} (hC : mu 23 5 = nI C) (hC8 : C ≤ 8) (hM : mu 23 6 = nI M) (hM6 : M ≤ 6) {j : Nat} (hj : j < M) {b : Int32} (hb : 0 ≤ b ∧ b ≤ 99) : zk_M (d + 3) RX7 cX7_least 4 (some .int) none 0 (zk_loc [.ref 0, .int (nI j), .int b] 4) [] mu lm (zk_R (some (.int (zfst (fun v => decide (b ≤ nI v - kSay (mu 24 j) (nI v))) (-9) 100 0))) mu lm) := by
  have hm : 0 ≤ nI j ∧ nI j < mu 23 6 := ⟨nI_pos' (by omega), by rw [hM, nIlt (by omega) (by omega)]; exact hj⟩
  have loop : ∀ k, k ≤ 100 → zk_M (d + 3) RX7 cX7_least 4 (some .int) none 22 [.ref 0, .int (nI j), .int b, .int (nI k)] [] mu lm (zk_R (some (.int (zfst (fun v => decide (b ≤ nI v - kSay (mu 24 j) (nI v))) (-9) (100 - k) k))) mu lm) := by
    refine zk_ind 100 (fun k hk ih => ?_)
    refine zk_iload_n (pc := 22) 3 dX7_least_22 rfl rfl ?_
    refine zk_bipush (pc := 23) (v := 99) dX7_least_23 (by decide) ?_
    refine zk_icmp_gt (pc := 25) 53 dX7_least_25 (by decide) (fun h25 => ?_) (fun h25 => ?_)
    · rw [show (99 : Int32) = nI 99 from rfl, nIlt (by omega) (by omega)] at h25
      refine zk_bipush (pc := 53) (v := -9) dX7_least_53 (by decide) ?_
      refine zk_ireturn (pc := 55) dX7_least_55 (Or.inl rfl) (zk_ri ?_)
      rw [show 100 - k = 0 by omega]; rfl
    · rw [show (99 : Int32) = nI 99 from rfl, nIlt (by omega) (by omega)] at h25
      refine zk_aload_n (pc := 28) 0 dX7_least_28 rfl rfl ?_
      refine zk_getR (pc := 29) dX7_least_29 flX7_23 rfl rfl ?_
      refine zk_getR (pc := 32) dX7_least_32 flX7_140 rfl rfl ?_
      refine zk_iload_n (pc := 35) 1 dX7_least_35 rfl rfl ?_
      refine zk_iaload (pc := 36) j dX7_least_36 rfl rfl (by omega) ?_
      refine zk_iload_n (pc := 37) 3 dX7_least_37 rfl rfl ?_
      refine zk_callSI (pc := 38) dX7_least_38 mtX2_breathed lkX7_188 stX2_breathed [_, _] _ rfl rfl (Nat.le_of_ble_eq_true rfl) (Nat.le_of_ble_eq_true rfl) (sp_X2_breathed _ _) ?_
      refine zk_iload_n (pc := 41) 2 dX7_least_41 rfl rfl ?_
      refine zk_icmp_lt (pc := 42) 47 dX7_least_42 (by decide) (fun h42 => ?_) (fun h42 => ?_)
      · skip
        refine zs_iinc (pc := 47) (ls' := [_, _, _, _]) dX7_least_47 rfl (nI_1 k) (by decide) rfl ?_
        refine zk_goto (pc := 50) 22 dX7_least_50 (by decide) ?_
        rw [show 100 - k = (100 - (k + 1)) + 1 by omega, zfst_f (decide_eq_false (by simp only [zlt, zle] at *; omega))]
        exact ih (by omega)
      · skip
        refine zk_iload_n (pc := 45) 3 dX7_least_45 rfl rfl ?_
        refine zk_ireturn (pc := 46) dX7_least_46 (Or.inl rfl) (zk_ri ?_)
        rw [show 100 - k = (100 - (k + 1)) + 1 by omega, zfst_t (decide_eq_true (by simp only [zlt, zle] at *; omega))]
  refine zk_aload_n (pc := 0) 0 dX7_least_0 rfl rfl ?_
  refine zk_getR (pc := 1) dX7_least_1 flX7_23 rfl rfl ?_
  refine zk_iload_n (pc := 4) 1 dX7_least_4 rfl rfl ?_
  refine zk_callVI (pc := 5) dX7_least_5 mtX0_hasMember lkX7_126 stX0_hasMember (by rfl) (by rfl) [_] _ rfl rfl (Nat.le_of_ble_eq_true rfl) (Nat.le_of_ble_eq_true rfl) (sp_X0_hasMember _) ?_
  refine zk_if_eq (pc := 8) 18 dX7_least_8 (by decide) (fun h8 => ?_) (fun h8 => ?_)
  · rw [zb_e] at h8
    exact absurd hm h8 --
  · skip
    refine zk_iload_n (pc := 11) 2 dX7_least_11 rfl rfl ?_
    refine zk_callSI (pc := 12) dX7_least_12 mtX7_isMeaning lkX7_167 stX7_isMeaning [_] _ rfl rfl (Nat.le_of_ble_eq_true rfl) (Nat.le_of_ble_eq_true rfl) (sp_X7_isMeaning _) ?_
    refine zk_if_ne (pc := 15) 20 dX7_least_15 (by decide) (fun h15 => ?_) (fun h15 => ?_)
    · skip
      refine zk_iconst (pc := 20) (v := 0) dX7_least_20 (by decide) ?_
      refine zs_istore_n (pc := 21) (ls' := [_, _, _, _]) 3 dX7_least_21 rfl (by decide) rfl ?_
      exact loop 0 (Nat.zero_le _)
    · rw [zb_e] at h15
      exact absurd hb h15 --
theorem sp_X7_least_n (i v : Int32) (hb : ¬ ((0 ≤ i ∧ i < mu 23 6) ∧ (0 ≤ v ∧ v ≤ 99))) : zk_M (d + 2) RX7 cX7_least 4 (some .int) none 0 (zk_loc [.ref 0, .int i, .int v] 4) [] mu lm (zk_R (some (.int (-1))) mu lm) := by
  refine zk_aload_n (pc := 0) 0 dX7_least_0 rfl rfl ?_
  refine zk_getR (pc := 1) dX7_least_1 flX7_23 rfl rfl ?_
  refine zk_iload_n (pc := 4) 1 dX7_least_4 rfl rfl ?_
  refine zk_callVI (pc := 5) dX7_least_5 mtX0_hasMember lkX7_126 stX0_hasMember (by rfl) (by rfl) [_] _ rfl rfl (Nat.le_of_ble_eq_true rfl) (Nat.le_of_ble_eq_true rfl) (sp_X0_hasMember _) ?_
  refine zk_if_eq (pc := 8) 18 dX7_least_8 (by decide) (fun h8 => ?_) (fun h8 => ?_)
  · rw [zb_e] at h8
    refine zk_iconst (pc := 18) (v := -1) dX7_least_18 (by decide) ?_
    exact zk_ireturn (pc := 19) dX7_least_19 (Or.inl rfl) (zk_ri rfl)
  · rw [zb_n] at h8
    refine zk_iload_n (pc := 11) 2 dX7_least_11 rfl rfl ?_
    refine zk_callSI (pc := 12) dX7_least_12 mtX7_isMeaning lkX7_167 stX7_isMeaning [_] _ rfl rfl (Nat.le_of_ble_eq_true rfl) (Nat.le_of_ble_eq_true rfl) (sp_X7_isMeaning _) ?_
    refine zk_if_ne (pc := 15) 20 dX7_least_15 (by decide) (fun h15 => ?_) (fun h15 => ?_)
    · rw [zb_n] at h15
      exact absurd ⟨h8, h15⟩ hb --
    · rw [zb_e] at h15
      refine zk_iconst (pc := 18) (v := -1) dX7_least_18 (by decide) ?_
      exact zk_ireturn (pc := 19) dX7_least_19 (Or.inl rfl) (zk_ri rfl)
def cHng (mu : Mem) (c n : Int32) : Int32 := if (0 ≤ c ∧ c < mu 23 5) ∧ (0 ≤ n ∧ n ≤ 60) then zmax 0 (mu 27 c.toNatClampNeg - mu 23 4 * n) else -1
theorem sp_X7_hangs {C M : Nat} (hC : mu 23 5 = nI C) (hC8 : C ≤ 8) (hM : mu 23 6 = nI M) (hM6 : M ≤ 6) (c n : Int32) : zk_M (d + 2) RX7 cX7_hangs 3 (some .int) none 0 (zk_loc [.ref 0, .int c, .int n] 3) [] mu lm (zk_R (some (.int (cHng mu c n))) mu lm) := by
  refine zk_aload_n (pc := 0) 0 dX7_hangs_0 rfl rfl ?_
  refine zk_getR (pc := 1) dX7_hangs_1 flX7_23 rfl rfl ?_
  refine zk_iload_n (pc := 4) 1 dX7_hangs_4 rfl rfl ?_
  refine zk_callVI (pc := 5) dX7_hangs_5 mtX0_hasCell lkX7_161 stX0_hasCell (by rfl) (by rfl) [_] _ rfl rfl (Nat.le_of_ble_eq_true rfl) (Nat.le_of_ble_eq_true rfl) (sp_X0_hasCell _) ?_
  refine zk_if_eq (pc := 8) 21 dX7_hangs_8 (by decide) (fun h8 => ?_) (fun h8 => ?_)
  · rw [zb_e] at h8
    refine zk_iconst (pc := 21) (v := -1) dX7_hangs_21 (by decide) ?_
    refine zk_ireturn (pc := 22) dX7_hangs_22 (Or.inl rfl) (zk_ri ?_)
    unfold cHng
    first | rw [if_neg (fun q => h8 q.1)] | rw [if_neg (fun q => h18 q.2)]
  · rw [zb_n] at h8
    obtain ⟨j, hj, rfl⟩ := zget h8 hC (by omega)
    refine zk_iload_n (pc := 11) 2 dX7_hangs_11 rfl rfl ?_
    refine zk_iconst (pc := 12) (v := 0) dX7_hangs_12 (by decide) ?_
    refine zk_bipush (pc := 13) (v := 60) dX7_hangs_13 (by decide) ?_
    refine zk_callSI (pc := 15) dX7_hangs_15 mtX7_within lkX7_130 stX7_within [_, _, _] _ rfl rfl (Nat.le_of_ble_eq_true rfl) (Nat.le_of_ble_eq_true rfl) (sp_X7_within _ _ _) ?_
    refine zk_if_ne (pc := 18) 23 dX7_hangs_18 (by decide) (fun h18 => ?_) (fun h18 => ?_)
    · rw [zb_n] at h18
      refine zk_aload_n (pc := 23) 0 dX7_hangs_23 rfl rfl ?_
      refine zk_getR (pc := 24) dX7_hangs_24 flX7_23 rfl rfl ?_
      refine zk_iload_n (pc := 27) 1 dX7_hangs_27 rfl rfl ?_
      refine zk_iload_n (pc := 28) 2 dX7_hangs_28 rfl rfl ?_
      refine zk_callVI (pc := 29) dX7_hangs_29 mtX0_smokeIn lkX7_194 stX0_smokeIn (by rfl) (by rfl) [_, _] _ rfl rfl (Nat.le_of_ble_eq_true rfl) (Nat.le_of_ble_eq_true rfl) (sp_X0_smokeIn (by omega) _) ?_
      refine zk_ireturn (pc := 32) dX7_hangs_32 (Or.inl rfl) (zk_ri ?_)
      unfold cHng
      rw [if_pos ⟨h8, h18⟩, nI_clamp (by omega)]
    · rw [zb_e] at h18
      refine zk_iconst (pc := 21) (v := -1) dX7_hangs_21 (by decide) ?_
      refine zk_ireturn (pc := 22) dX7_hangs_22 (Or.inl rfl) (zk_ri ?_)
      unfold cHng
      first | rw [if_neg (fun q => h8 q.1)] | rw [if_neg (fun q => h18 q.2)]
def cClr (mu : Mem) (C : Nat) : Int32 := if mu 23 6 = 0 then -4 else if zmx C (mu 27) = 0 then 0 else if mu 23 4 = 0 then -9 else (zmx C (mu 27) + mu 23 4 - 1) / mu 23 4
theorem sp_X7_clear {C M : Nat} (hC : mu 23 5 = nI C) (hC8 : C ≤ 8) (hM : mu 23 6 = nI M) (hM6 : M ≤ 6) : zk_M (d + 2) RX7 cX7_clear 2 (some .int) none 0 (zk_loc [.ref 0] 2) [] mu lm (zk_R (some (.int (cClr mu C))) mu lm) := by
  refine zk_aload_n (pc := 0) 0 dX7_clear_0 rfl rfl ?_
  refine zk_getR (pc := 1) dX7_clear_1 flX7_23 rfl rfl ?_
  refine zk_getI (pc := 4) dX7_clear_4 flX7_123 rfl rfl ?_
  refine zk_if_ne (pc := 7) 13 dX7_clear_7 (by decide) (fun h7 => ?_) (fun h7 => ?_)
  · skip
    refine zk_aload_n (pc := 13) 0 dX7_clear_13 rfl rfl ?_
    refine zk_getR (pc := 14) dX7_clear_14 flX7_23 rfl rfl ?_
    refine zk_aload_n (pc := 17) 0 dX7_clear_17 rfl rfl ?_
    refine zk_getR (pc := 18) dX7_clear_18 flX7_23 rfl rfl ?_
    refine zk_getR (pc := 21) dX7_clear_21 flX7_164 rfl rfl ?_
    refine zk_callVI (pc := 24) dX7_clear_24 mtX0_fullestOf lkX7_197 stX0_fullestOf (by rfl) (by rfl) [_] _ rfl rfl (Nat.le_of_ble_eq_true rfl) (Nat.le_of_ble_eq_true rfl) (sp_X0_fullestOf (c := 27) (n := 8) rfl hC hC8) ?_
    refine zs_istore_n (pc := 27) (ls' := [_, _]) 1 dX7_clear_27 rfl (by decide) rfl ?_
    refine zk_iload_n (pc := 28) 1 dX7_clear_28 rfl rfl ?_
    refine zk_if_ne (pc := 29) 34 dX7_clear_29 (by decide) (fun h29 => ?_) (fun h29 => ?_)
    · skip
      refine zk_aload_n (pc := 34) 0 dX7_clear_34 rfl rfl ?_
      refine zk_getR (pc := 35) dX7_clear_35 flX7_23 rfl rfl ?_
      refine zk_getI (pc := 38) dX7_clear_38 flX7_201 rfl rfl ?_
      refine zk_if_ne (pc := 41) 47 dX7_clear_41 (by decide) (fun h41 => ?_) (fun h41 => ?_)
      · skip
        refine zk_iload_n (pc := 47) 1 dX7_clear_47 rfl rfl ?_
        refine zk_aload_n (pc := 48) 0 dX7_clear_48 rfl rfl ?_
        refine zk_getR (pc := 49) dX7_clear_49 flX7_23 rfl rfl ?_
        refine zk_getI (pc := 52) dX7_clear_52 flX7_201 rfl rfl ?_
        refine zk_iadd (pc := 55) dX7_clear_55 ?_
        refine zk_iconst (pc := 56) (v := 1) dX7_clear_56 (by decide) ?_
        refine zk_isub (pc := 57) dX7_clear_57 ?_
        refine zk_aload_n (pc := 58) 0 dX7_clear_58 rfl rfl ?_
        refine zk_getR (pc := 59) dX7_clear_59 flX7_23 rfl rfl ?_
        refine zk_getI (pc := 62) dX7_clear_62 flX7_201 rfl rfl ?_
        refine zk_idiv (pc := 65) dX7_clear_65 (h41) ?_
        refine zk_ireturn (pc := 66) dX7_clear_66 (Or.inl rfl) ?_
        apply zk_ri; unfold cClr
        first | (rw [if_pos h7]; done) | (rw [if_neg h7, if_pos h29]; done) | (rw [if_neg h7, if_neg h29, if_pos h41]; done) | rw [if_neg h7, if_neg h29, if_neg h41]
      · skip
        refine zk_bipush (pc := 44) (v := -9) dX7_clear_44 (by decide) ?_
        refine zk_ireturn (pc := 46) dX7_clear_46 (Or.inl rfl) ?_
        apply zk_ri; unfold cClr
        first | (rw [if_pos h7]; done) | (rw [if_neg h7, if_pos h29]; done) | (rw [if_neg h7, if_neg h29, if_pos h41]; done) | rw [if_neg h7, if_neg h29, if_neg h41]
    · skip
      refine zk_iconst (pc := 32) (v := 0) dX7_clear_32 (by decide) ?_
      refine zk_ireturn (pc := 33) dX7_clear_33 (Or.inl rfl) ?_
      apply zk_ri; unfold cClr
      first | (rw [if_pos h7]; done) | (rw [if_neg h7, if_pos h29]; done) | (rw [if_neg h7, if_neg h29, if_pos h41]; done) | rw [if_neg h7, if_neg h29, if_neg h41]
  · skip
    refine zk_bipush (pc := 10) (v := -4) dX7_clear_10 (by decide) ?_
    refine zk_ireturn (pc := 12) dX7_clear_12 (Or.inl rfl) ?_
    apply zk_ri; unfold cClr
    first | (rw [if_pos h7]; done) | (rw [if_neg h7, if_pos h29]; done) | (rw [if_neg h7, if_neg h29, if_pos h41]; done) | rw [if_neg h7, if_neg h29, if_neg h41]
def bcE (x : Int32) : Int32 :=
  let u (a : Int32) (k : Int32) : Int32 := (a.toUInt32 >>> (k.toUInt32 &&& Int32.toUInt32 31)).toInt32
  let a := x - (u x 1 &&& 1431655765)
  let b := (a &&& 858993459) + (u a 2 &&& 858993459)
  let c := (b + u b 4) &&& 252645135
  let e := c + u c 8
  let f := e + u e 16
  f &&& 63
theorem bcE_n : ∀ n, n < 256 → bcE (nI n) = zsum 10 (fun k => (nI n >>> (nI k &&& 31)) &&& 1) := by decide +kernel
theorem sp_bit (x : Int32) : zk_M d RJ6 cJ6_bitCount_0f7a4 1 (some .int) none 0 (zk_loc [.int x] 1) [] mu lm (zk_R (some (.int (bcE x))) mu lm) := by
  refine zk_iload_n (pc := 0) 0 dJ6_bitCount_0f7a4_0 rfl rfl ?_
  refine zk_iload_n (pc := 1) 0 dJ6_bitCount_0f7a4_1 rfl rfl ?_
  refine zk_iconst (pc := 2) (v := 1) dJ6_bitCount_0f7a4_2 (by decide) ?_
  refine zk_iushr (pc := 3) dJ6_bitCount_0f7a4_3 ?_
  refine zk_ldcw (pc := 4) dJ6_bitCount_0f7a4_4 kcJ6_265 ?_
  refine zk_iand (pc := 7) dJ6_bitCount_0f7a4_7 ?_
  refine zk_isub (pc := 8) dJ6_bitCount_0f7a4_8 ?_
  refine zs_istore_n (pc := 9) (ls' := [_]) 0 dJ6_bitCount_0f7a4_9 rfl (by decide) rfl ?_
  refine zk_iload_n (pc := 10) 0 dJ6_bitCount_0f7a4_10 rfl rfl ?_
  refine zk_ldcw (pc := 11) dJ6_bitCount_0f7a4_11 kcJ6_266 ?_
  refine zk_iand (pc := 14) dJ6_bitCount_0f7a4_14 ?_
  refine zk_iload_n (pc := 15) 0 dJ6_bitCount_0f7a4_15 rfl rfl ?_
  refine zk_iconst (pc := 16) (v := 2) dJ6_bitCount_0f7a4_16 (by decide) ?_
  refine zk_iushr (pc := 17) dJ6_bitCount_0f7a4_17 ?_
  refine zk_ldcw (pc := 18) dJ6_bitCount_0f7a4_18 kcJ6_266 ?_
  refine zk_iand (pc := 21) dJ6_bitCount_0f7a4_21 ?_
  refine zk_iadd (pc := 22) dJ6_bitCount_0f7a4_22 ?_
  refine zs_istore_n (pc := 23) (ls' := [_]) 0 dJ6_bitCount_0f7a4_23 rfl (by decide) rfl ?_
  refine zk_iload_n (pc := 24) 0 dJ6_bitCount_0f7a4_24 rfl rfl ?_
  refine zk_iload_n (pc := 25) 0 dJ6_bitCount_0f7a4_25 rfl rfl ?_
  refine zk_iconst (pc := 26) (v := 4) dJ6_bitCount_0f7a4_26 (by decide) ?_
  refine zk_iushr (pc := 27) dJ6_bitCount_0f7a4_27 ?_
  refine zk_iadd (pc := 28) dJ6_bitCount_0f7a4_28 ?_
  refine zk_ldcw (pc := 29) dJ6_bitCount_0f7a4_29 kcJ6_267 ?_
  refine zk_iand (pc := 32) dJ6_bitCount_0f7a4_32 ?_
  refine zs_istore_n (pc := 33) (ls' := [_]) 0 dJ6_bitCount_0f7a4_33 rfl (by decide) rfl ?_
  refine zk_iload_n (pc := 34) 0 dJ6_bitCount_0f7a4_34 rfl rfl ?_
  refine zk_iload_n (pc := 35) 0 dJ6_bitCount_0f7a4_35 rfl rfl ?_
  refine zk_bipush (pc := 36) (v := 8) dJ6_bitCount_0f7a4_36 (by decide) ?_
  refine zk_iushr (pc := 38) dJ6_bitCount_0f7a4_38 ?_
  refine zk_iadd (pc := 39) dJ6_bitCount_0f7a4_39 ?_
  refine zs_istore_n (pc := 40) (ls' := [_]) 0 dJ6_bitCount_0f7a4_40 rfl (by decide) rfl ?_
  refine zk_iload_n (pc := 41) 0 dJ6_bitCount_0f7a4_41 rfl rfl ?_
  refine zk_iload_n (pc := 42) 0 dJ6_bitCount_0f7a4_42 rfl rfl ?_
  refine zk_bipush (pc := 43) (v := 16) dJ6_bitCount_0f7a4_43 (by decide) ?_
  refine zk_iushr (pc := 45) dJ6_bitCount_0f7a4_45 ?_
  refine zk_iadd (pc := 46) dJ6_bitCount_0f7a4_46 ?_
  refine zs_istore_n (pc := 47) (ls' := [_]) 0 dJ6_bitCount_0f7a4_47 rfl (by decide) rfl ?_
  refine zk_iload_n (pc := 48) 0 dJ6_bitCount_0f7a4_48 rfl rfl ?_
  refine zk_bipush (pc := 49) (v := 63) dJ6_bitCount_0f7a4_49 (by decide) ?_
  refine zk_iand (pc := 51) dJ6_bitCount_0f7a4_51 ?_
  refine zk_ireturn (pc := 52) dJ6_bitCount_0f7a4_52 (Or.inl rfl) ?_
  exact zk_ri rfl
def outS (mu : Mem) (C : Nat) (o : Int32) : Int32 := zsum C (fun k => if (o >>> (nI k &&& 31)) &&& 1 = 0 then mu 27 k else 0)
def wB (mu : Mem) (C : Nat) (w : Int32) : Nat → Int32
  | 0 => nI (2 ^ C - 1)
  | k + 1 => if bcE (nI k) < bcE (wB mu C w k) ∧ outS mu C (nI k) ≤ w then nI k else wB mu C w k
theorem wB_s (mu : Mem) (C : Nat) (w : Int32) (k : Nat) : wB mu C w (k + 1) = if bcE (nI k) < bcE (wB mu C w k) ∧ outS mu C (nI k) ≤ w then nI k else wB mu C w k := rfl
theorem sp_X7_window {C M : Nat} (hC : mu 23 5 = nI C) (hC8 : C ≤ 8) (hM : mu 23 6 = nI M) (hM6 : M ≤ 6) (hM0 : 0 < M) {w : Int32} (hw : 0 ≤ w ∧ w ≤ 7992) : zk_M (d + 2) RX7 cX7_window 6 (some .int) none 0 (zk_loc [.ref 0, .int w] 6) [] mu lm (zk_R (some (.int (bcE (wB mu C w (2 ^ C - 1))))) (zk_up mu 0 10 (wB mu C w (2 ^ C - 1))) lm) := by
  have hp : 2 ^ C ≤ 256 := zpow (by omega)
  have hp1 : 1 ≤ 2 ^ C := Nat.one_le_two_pow
  have loop : ∀ k, k ≤ 2 ^ C - 1 → ∀ b : Value, zk_M (d + 2) RX7 cX7_window 6 (some .int) none 43 [.ref 0, .int w, .int (nI (2 ^ C - 1)), .int (wB mu C w k), .int (nI k), b] [] mu lm (zk_R (some (.int (bcE (wB mu C w (2 ^ C - 1))))) (zk_up mu 0 10 (wB mu C w (2 ^ C - 1))) lm) := by
    refine zk_ind (2 ^ C - 1) (fun k hk ih => ?_)
    intro b
    refine zk_iload (pc := 43) dX7_window_43 rfl ?_
    refine zk_iload_n (pc := 45) 2 dX7_window_45 rfl rfl ?_
    refine zk_icmp_ge (pc := 46) 95 dX7_window_46 (by decide) (fun h46 => ?_) (fun h46 => ?_)
    · rw [nIle (by omega) (by omega)] at h46
      refine zk_aload_n (pc := 95) 0 dX7_window_95 rfl rfl ?_
      refine zk_iload_n (pc := 96) 3 dX7_window_96 rfl rfl ?_
      refine zk_putI (pc := 97) dX7_window_97 flX7_82 rfl rfl ?_
      refine zk_iload_n (pc := 100) 3 dX7_window_100 rfl rfl ?_
      refine zk_callSI (pc := 101) dX7_window_101 mtJ6_bitCount_0f7a4 lkX7_207 stJ6_bitCount_0f7a4 [_] _ rfl rfl (Nat.le_of_ble_eq_true rfl) (Nat.le_of_ble_eq_true rfl) (sp_bit _) ?_
      rw [show 2 ^ C - 1 = k by omega]
      exact zk_ireturn (pc := 104) dX7_window_104 (Or.inl rfl) ⟨rfl, rfl, rfl⟩
    · rw [nIle (by omega) (by omega)] at h46
      refine zk_iload (pc := 49) dX7_window_49 rfl ?_
      refine zk_callSI (pc := 51) dX7_window_51 mtJ6_bitCount_0f7a4 lkX7_207 stJ6_bitCount_0f7a4 [_] _ rfl rfl (Nat.le_of_ble_eq_true rfl) (Nat.le_of_ble_eq_true rfl) (sp_bit _) ?_
      refine zk_iload_n (pc := 54) 3 dX7_window_54 rfl rfl ?_
      refine zk_callSI (pc := 55) dX7_window_55 mtJ6_bitCount_0f7a4 lkX7_207 stJ6_bitCount_0f7a4 [_] _ rfl rfl (Nat.le_of_ble_eq_true rfl) (Nat.le_of_ble_eq_true rfl) (sp_bit _) ?_
      refine zk_icmp_ge (pc := 58) 65 dX7_window_58 (by decide) (fun h58 => ?_) (fun h58 => ?_)
      · skip
        refine zk_iconst (pc := 65) (v := 0) dX7_window_65 (by decide) ?_
        refine zs_istore (pc := 66) (ls' := [_, _, _, _, _, _]) 5 dX7_window_66 (by decide) rfl ?_
        refine zk_iload (pc := 68) dX7_window_68 rfl ?_
        refine zk_if_eq (pc := 70) 89 dX7_window_70 (by decide) (fun h70 => ?_) (fun h70 => ?_)
        · skip
          refine zs_iinc (pc := 89) (ls' := [_, _, _, _, _, _]) dX7_window_89 rfl (nI_1 k) (by decide) rfl ?_
          refine zk_goto (pc := 92) 43 dX7_window_92 (by decide) ?_
          have e := ih (by omega)
          rw [wB_s] at e
          first
            | exact absurd h70 (by decide)
            | exact absurd rfl h70
            | (rw [if_neg (fun q => by simp only [zlt, zle] at *; omega)] at e; exact e _)
            | (rw [if_pos ⟨by simp only [zlt, zle] at *; omega, by simp only [zlt, zle] at *; omega⟩] at e; exact e _)
        · skip
          refine zk_aload_n (pc := 73) 0 dX7_window_73 rfl rfl ?_
          refine zk_getR (pc := 74) dX7_window_74 flX7_23 rfl rfl ?_
          refine zk_iload (pc := 77) dX7_window_77 rfl ?_
          refine zk_callVI (pc := 79) dX7_window_79 mtX0_smokeOutside lkX7_212 stX0_smokeOutside (by rfl) (by rfl) [_] _ rfl rfl (Nat.le_of_ble_eq_true rfl) (Nat.le_of_ble_eq_true rfl) (sp_X0_smokeOutside hC hC8 _) ?_
          refine zk_iload_n (pc := 82) 1 dX7_window_82 rfl rfl ?_
          refine zk_icmp_gt (pc := 83) 89 dX7_window_83 (by decide) (fun h83 => ?_) (fun h83 => ?_)
          · replace h83 : ¬ outS mu C (nI k) ≤ w := by simp only [zlt, zle] at *; unfold outS; omega
            refine zs_iinc (pc := 89) (ls' := [_, _, _, _, _, _]) dX7_window_89 rfl (nI_1 k) (by decide) rfl ?_
            refine zk_goto (pc := 92) 43 dX7_window_92 (by decide) ?_
            have e := ih (by omega)
            rw [wB_s] at e
            first
              | exact absurd h70 (by decide)
              | exact absurd rfl h70
              | (rw [if_neg (fun q => by simp only [zlt, zle] at *; omega)] at e; exact e _)
              | (rw [if_pos ⟨by simp only [zlt, zle] at *; omega, by simp only [zlt, zle] at *; omega⟩] at e; exact e _)
          · replace h83 : outS mu C (nI k) ≤ w := by simp only [zlt, zle] at *; unfold outS; omega
            refine zk_iload (pc := 86) dX7_window_86 rfl ?_
            refine zs_istore_n (pc := 88) (ls' := [_, _, _, _, _, _]) 3 dX7_window_88 rfl (by decide) rfl ?_
            refine zs_iinc (pc := 89) (ls' := [_, _, _, _, _, _]) dX7_window_89 rfl (nI_1 k) (by decide) rfl ?_
            refine zk_goto (pc := 92) 43 dX7_window_92 (by decide) ?_
            have e := ih (by omega)
            rw [wB_s] at e
            first
              | exact absurd h70 (by decide)
              | exact absurd rfl h70
              | (rw [if_neg (fun q => by simp only [zlt, zle] at *; omega)] at e; exact e _)
              | (rw [if_pos ⟨by simp only [zlt, zle] at *; omega, by simp only [zlt, zle] at *; omega⟩] at e; exact e _)
      · skip
        refine zk_iconst (pc := 61) (v := 1) dX7_window_61 (by decide) ?_
        refine zk_goto (pc := 62) 66 dX7_window_62 (by decide) ?_
        refine zs_istore (pc := 66) (ls' := [_, _, _, _, _, _]) 5 dX7_window_66 (by decide) rfl ?_
        refine zk_iload (pc := 68) dX7_window_68 rfl ?_
        refine zk_if_eq (pc := 70) 89 dX7_window_70 (by decide) (fun h70 => ?_) (fun h70 => ?_)
        · skip
          refine zs_iinc (pc := 89) (ls' := [_, _, _, _, _, _]) dX7_window_89 rfl (nI_1 k) (by decide) rfl ?_
          refine zk_goto (pc := 92) 43 dX7_window_92 (by decide) ?_
          have e := ih (by omega)
          rw [wB_s] at e
          first
            | exact absurd h70 (by decide)
            | exact absurd rfl h70
            | (rw [if_neg (fun q => by simp only [zlt, zle] at *; omega)] at e; exact e _)
            | (rw [if_pos ⟨by simp only [zlt, zle] at *; omega, by simp only [zlt, zle] at *; omega⟩] at e; exact e _)
        · skip
          refine zk_aload_n (pc := 73) 0 dX7_window_73 rfl rfl ?_
          refine zk_getR (pc := 74) dX7_window_74 flX7_23 rfl rfl ?_
          refine zk_iload (pc := 77) dX7_window_77 rfl ?_
          refine zk_callVI (pc := 79) dX7_window_79 mtX0_smokeOutside lkX7_212 stX0_smokeOutside (by rfl) (by rfl) [_] _ rfl rfl (Nat.le_of_ble_eq_true rfl) (Nat.le_of_ble_eq_true rfl) (sp_X0_smokeOutside hC hC8 _) ?_
          refine zk_iload_n (pc := 82) 1 dX7_window_82 rfl rfl ?_
          refine zk_icmp_gt (pc := 83) 89 dX7_window_83 (by decide) (fun h83 => ?_) (fun h83 => ?_)
          · replace h83 : ¬ outS mu C (nI k) ≤ w := by simp only [zlt, zle] at *; unfold outS; omega
            refine zs_iinc (pc := 89) (ls' := [_, _, _, _, _, _]) dX7_window_89 rfl (nI_1 k) (by decide) rfl ?_
            refine zk_goto (pc := 92) 43 dX7_window_92 (by decide) ?_
            have e := ih (by omega)
            rw [wB_s] at e
            first
              | exact absurd h70 (by decide)
              | exact absurd rfl h70
              | (rw [if_neg (fun q => by simp only [zlt, zle] at *; omega)] at e; exact e _)
              | (rw [if_pos ⟨by simp only [zlt, zle] at *; omega, by simp only [zlt, zle] at *; omega⟩] at e; exact e _)
          · replace h83 : outS mu C (nI k) ≤ w := by simp only [zlt, zle] at *; unfold outS; omega
            refine zk_iload (pc := 86) dX7_window_86 rfl ?_
            refine zs_istore_n (pc := 88) (ls' := [_, _, _, _, _, _]) 3 dX7_window_88 rfl (by decide) rfl ?_
            refine zs_iinc (pc := 89) (ls' := [_, _, _, _, _, _]) dX7_window_89 rfl (nI_1 k) (by decide) rfl ?_
            refine zk_goto (pc := 92) 43 dX7_window_92 (by decide) ?_
            have e := ih (by omega)
            rw [wB_s] at e
            first
              | exact absurd h70 (by decide)
              | exact absurd rfl h70
              | (rw [if_neg (fun q => by simp only [zlt, zle] at *; omega)] at e; exact e _)
              | (rw [if_pos ⟨by simp only [zlt, zle] at *; omega, by simp only [zlt, zle] at *; omega⟩] at e; exact e _)
  refine zk_iload_n (pc := 0) 1 dX7_window_0 rfl rfl ?_
  refine zk_iconst (pc := 1) (v := 0) dX7_window_1 (by decide) ?_
  refine zk_sipush (pc := 2) (v := 7992) dX7_window_2 (by decide) ?_
  refine zk_callSI (pc := 5) dX7_window_5 mtX7_within lkX7_130 stX7_within [_, _, _] _ rfl rfl (Nat.le_of_ble_eq_true rfl) (Nat.le_of_ble_eq_true rfl) (sp_X7_within _ _ _) ?_
  refine zk_if_ne (pc := 8) 13 dX7_window_8 (by decide) (fun h8 => ?_) (fun h8 => ?_)
  · skip
    refine zk_aload_n (pc := 13) 0 dX7_window_13 rfl rfl ?_
    refine zk_getR (pc := 14) dX7_window_14 flX7_23 rfl rfl ?_
    refine zk_getI (pc := 17) dX7_window_17 flX7_123 rfl rfl ?_
    refine zk_if_ne (pc := 20) 26 dX7_window_20 (by decide) (fun h20 => ?_) (fun h20 => ?_)
    · skip
      refine zk_iconst (pc := 26) (v := 1) dX7_window_26 (by decide) ?_
      refine zk_aload_n (pc := 27) 0 dX7_window_27 rfl rfl ?_
      refine zk_getR (pc := 28) dX7_window_28 flX7_23 rfl rfl ?_
      refine zk_getI (pc := 31) dX7_window_31 flX7_204 rfl rfl ?_
      refine zk_ishl (pc := 34) dX7_window_34 ?_
      refine zk_iconst (pc := 35) (v := 1) dX7_window_35 (by decide) ?_
      refine zk_isub (pc := 36) dX7_window_36 ?_
      refine zs_istore_n (pc := 37) (ls' := [_, _, _, _, _, _]) 2 dX7_window_37 rfl (by decide) rfl ?_
      refine zk_iload_n (pc := 38) 2 dX7_window_38 rfl rfl ?_
      refine zs_istore_n (pc := 39) (ls' := [_, _, _, _, _, _]) 3 dX7_window_39 rfl (by decide) rfl ?_
      refine zk_iconst (pc := 40) (v := 0) dX7_window_40 (by decide) ?_
      refine zs_istore (pc := 41) (ls' := [_, _, _, _, _, _]) 4 dX7_window_41 (by decide) rfl ?_
      rw [hC, zshl (by omega), show (1 : Int32) = nI 1 from rfl, pk_sub hp1]
      exact loop 0 (Nat.zero_le _) _
    · rw [hM] at h20
      exact absurd h20 (nI_ne0 hM0 (by omega)) --
  · rw [zb_e] at h8
    exact absurd hw h8 --
theorem sp_X7_window_n {w : Int32} (hw : ¬ (0 ≤ w ∧ w ≤ 7992)) : zk_M (d + 1) RX7 cX7_window 6 (some .int) none 0 (zk_loc [.ref 0, .int w] 6) [] mu lm (zk_R (some (.int (-1))) mu lm) := by
  refine zk_iload_n (pc := 0) 1 dX7_window_0 rfl rfl ?_
  refine zk_iconst (pc := 1) (v := 0) dX7_window_1 (by decide) ?_
  refine zk_sipush (pc := 2) (v := 7992) dX7_window_2 (by decide) ?_
  refine zk_callSI (pc := 5) dX7_window_5 mtX7_within lkX7_130 stX7_within [_, _, _] _ rfl rfl (Nat.le_of_ble_eq_true rfl) (Nat.le_of_ble_eq_true rfl) (sp_X7_within _ _ _) ?_
  refine zk_if_ne (pc := 8) 13 dX7_window_8 (by decide) (fun h8 => ?_) (fun h8 => ?_)
  · rw [zb_n] at h8
    exact absurd h8 hw --
  · rw [zb_e] at h8
    refine zk_iconst (pc := 11) (v := -1) dX7_window_11 (by decide) ?_
    exact zk_ireturn (pc := 12) dX7_window_12 (Or.inl rfl) (zk_ri rfl)
theorem sp_X7_window_0 {w : Int32} (hw : 0 ≤ w ∧ w ≤ 7992) (hM : mu 23 6 = 0) : zk_M (d + 1) RX7 cX7_window 6 (some .int) none 0 (zk_loc [.ref 0, .int w] 6) [] mu lm (zk_R (some (.int (-4))) mu lm) := by
  refine zk_iload_n (pc := 0) 1 dX7_window_0 rfl rfl ?_
  refine zk_iconst (pc := 1) (v := 0) dX7_window_1 (by decide) ?_
  refine zk_sipush (pc := 2) (v := 7992) dX7_window_2 (by decide) ?_
  refine zk_callSI (pc := 5) dX7_window_5 mtX7_within lkX7_130 stX7_within [_, _, _] _ rfl rfl (Nat.le_of_ble_eq_true rfl) (Nat.le_of_ble_eq_true rfl) (sp_X7_within _ _ _) ?_
  refine zk_if_ne (pc := 8) 13 dX7_window_8 (by decide) (fun h8 => ?_) (fun h8 => ?_)
  · skip
    refine zk_aload_n (pc := 13) 0 dX7_window_13 rfl rfl ?_
    refine zk_getR (pc := 14) dX7_window_14 flX7_23 rfl rfl ?_
    refine zk_getI (pc := 17) dX7_window_17 flX7_123 rfl rfl ?_
    refine zk_if_ne (pc := 20) 26 dX7_window_20 (by decide) (fun h20 => ?_) (fun h20 => ?_)
    · exact absurd hM h20 --
    · skip
      refine zk_bipush (pc := 23) (v := -4) dX7_window_23 (by decide) ?_
      exact zk_ireturn (pc := 25) dX7_window_25 (Or.inl rfl) (zk_ri rfl)
  · rw [zb_e] at h8
    exact absurd hw h8 --
end M34
