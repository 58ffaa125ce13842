section M37
variable {d : Nat} {mu : Mem} {lm : MemL}
def lotN (S : Nat) : Nat → Nat
  | 0 => S
  | k + 1 => lotN S k * 48271 % 2147483647
theorem lotN_lt {S : Nat} (hS : S < 2147483647) : ∀ k, lotN S k < 2147483647
  | 0 => hS
  | k + 1 => Nat.mod_lt _ (by decide)
def ltM (mu : Mem) (C M n S : Nat) : Nat → Mem
  | 0 => mu
  | k + 1 => prfM (ltM mu C M n S k) C (n + k) (lotD (lotN S (k + 1)) C M)
theorem prfM_k {mu : Mem} {C n k : Nat} {D : Nat × Nat × Nat} (h1 : k ≠ 7) (h2 : k ≠ 8) (h3 : k ≠ 9) : prfM mu C n D 23 k = mu 23 k := by
  unfold prfM; rw [enM_k h1 h2 h3, wrD_c (by decide) (by decide)]
theorem prfM_c {mu : Mem} {C n c k : Nat} {D : Nat × Nat × Nat} (h1 : c ≠ 23) (h2 : c ≠ 26) (h3 : c ≠ 27) (h4 : c ≠ 28) (h5 : c ≠ 29) : prfM mu C n D c k = mu c k := by
  unfold prfM; rw [enM_c h1 h2 h3, wrD_c h4 h5]
theorem prfM_n {mu : Mem} {C n : Nat} {D : Nat × Nat × Nat} : prfM mu C n D 28 1 = nI (n + 1) := by
  unfold prfM; rw [enM_c (by decide) (by decide) (by decide)]; unfold wrD; rw [zup_s]
theorem ltM_k {mu : Mem} {C M n S j : Nat} (h1 : j ≠ 7) (h2 : j ≠ 8) (h3 : j ≠ 9) : ∀ k, ltM mu C M n S k 23 j = mu 23 j
  | 0 => rfl
  | k + 1 => by rw [ltM, prfM_k h1 h2 h3, ltM_k h1 h2 h3 k]
theorem ltM_n {mu : Mem} {C M n S : Nat} (hn : mu 28 1 = nI n) : ∀ k, ltM mu C M n S k 28 1 = nI (n + k)
  | 0 => hn
  | k + 1 => by rw [ltM, prfM_n]; rfl
theorem sp_X7_lots {C M : Nat} (hC : mu 23 5 = nI C) (hC8 : C ≤ 8) (hM : mu 23 6 = nI M) (hM6 : M ≤ 6) (hC0 : 0 < C) (hM0 : 0 < M) {n N S : Nat} (hn : mu 28 1 = nI n) (hN : 1 ≤ N) (hN20 : N ≤ 20) (hnN : n + N ≤ 40) (hS : 1 ≤ S) (hS2 : S ≤ 2147483646) : zk_M (d + 9) RX7 cX7_lots 5 (some .int) none 0 (zk_loc [.ref 0, .int (nI N), .int (nI S)] 5) [] mu lm (zk_R (some (.int (zsum C (ltM mu C M n S N 27)))) (ltM mu C M n S N) lm) := by
  have hw1 : (1 : Int32) ≤ nI N ∧ nI N ≤ 20 := ⟨show nI 1 ≤ nI N from nI_le hN (by omega), show nI N ≤ nI 20 from nI_le hN20 (by decide)⟩
  have hw2 : (1 : Int32) ≤ nI S ∧ nI S ≤ 2147483646 := ⟨show nI 1 ≤ nI S from nI_le hS (by omega), show nI S ≤ nI 2147483646 from nI_le hS2 (by decide)⟩
  have loop : ∀ k, k ≤ N → zk_M (d + 9) RX7 cX7_lots 5 (some .int) none 58 [.ref 0, .int (nI N), .int (nI S), .int (nI (lotN S k)), .int (nI k)] [] (ltM mu C M n S k) lm (zk_R (some (.int (zsum C (ltM mu C M n S N 27)))) (ltM mu C M n S N) lm) := by
    refine zk_ind N (fun k hk ih => ?_)
    have hl := lotN_lt (S := S) (by omega) k
    have hl1 := lotN_lt (S := S) (by omega) (k + 1)
    refine zk_iload (pc := 58) dX7_lots_58 rfl ?_
    refine zk_iload_n (pc := 60) 1 dX7_lots_60 rfl rfl ?_
    refine zk_icmp_ge (pc := 61) 87 dX7_lots_61 (by decide) (fun h61 => ?_) (fun h61 => ?_)
    · rw [nIle (by omega) (by omega)] at h61
      obtain rfl : k = N := by omega
      refine zk_aload_n (pc := 87) 0 dX7_lots_87 rfl rfl ?_
      refine zk_getR (pc := 88) dX7_lots_88 flX7_23 rfl rfl ?_
      refine zk_callVI (pc := 91) dX7_lots_91 mtX0_allSmoke lkX7_177 stX0_allSmoke (by rfl) (by rfl) [] _ rfl rfl (Nat.le_of_ble_eq_true rfl) (Nat.le_of_ble_eq_true rfl) (sp_X0_allSmoke (C := C) (by rw [ltM_k (by decide) (by decide) (by decide)]; exact hC) hC8) ?_
      exact zk_ireturn (pc := 94) dX7_lots_94 (Or.inl rfl) ⟨rfl, rfl, rfl⟩
    · rw [nIle (by omega) (by omega)] at h61
      refine zk_iload_n (pc := 64) 3 dX7_lots_64 rfl rfl ?_
      refine zk_i2l (pc := 65) dX7_lots_65 ?_
      refine zk_ldc2 (pc := 66) dX7_lots_66 kcX7_282 ?_
      refine zk_lmul (pc := 69) dX7_lots_69 ?_
      refine zk_ldc2 (pc := 70) dX7_lots_70 kcX7_284 ?_
      refine zk_lrem (pc := 73) dX7_lots_73 (by decide) ?_
      rw [nI_l (show lotN S k < 2 ^ 31 by omega), show (48271 : Int64) = lN 48271 from rfl, lN_mul, show (2147483647 : Int64) = lN 2147483647 from rfl, pk_lRem (by omega) (by decide) (by decide)]
      refine zk_l2i (pc := 74) dX7_lots_74 ?_
      rw [lN_i]
      refine zs_istore_n (pc := 75) (ls' := [_, _, _, _, _]) 3 dX7_lots_75 rfl (by decide) rfl ?_
      refine zk_aload_n (pc := 76) 0 dX7_lots_76 rfl rfl ?_
      refine zk_iload_n (pc := 77) 3 dX7_lots_77 rfl rfl ?_
      refine zk_callVV (pc := 78) dX7_lots_78 mtX7_performLot lkX7_286 stX7_performLot (by rfl) (by rfl) [_] _ rfl rfl (Nat.le_of_ble_eq_true rfl) (Nat.le_of_ble_eq_true rfl) (sp_X7_performLot (L := lotN S (k + 1)) (n := n + k) (by rw [ltM_k (by decide) (by decide) (by decide)]; exact hC) hC0 hC8 (by rw [ltM_k (by decide) (by decide) (by decide)]; exact hM) hM0 hM6 (ltM_n hn k) (by omega) (by omega)) ?_
      refine zs_iinc (pc := 81) (ls' := [_, _, _, _, _]) dX7_lots_81 rfl (nI_1 k) (by decide) rfl ?_
      refine zk_goto (pc := 84) 58 dX7_lots_84 (by decide) ?_
      exact ih (by omega)
  refine zk_iload_n (pc := 0) 1 dX7_lots_0 rfl rfl ?_
  refine zk_iconst (pc := 1) (v := 1) dX7_lots_1 (by decide) ?_
  refine zk_bipush (pc := 2) (v := 20) dX7_lots_2 (by decide) ?_
  refine zk_callSI (pc := 4) dX7_lots_4 mtX7_within lkX7_130 stX7_within [_, _, _] _ rfl rfl (Nat.le_of_ble_eq_true rfl) (Nat.le_of_ble_eq_true rfl) (sp_X7_within _ _ _) ?_
  refine zk_if_eq (pc := 7) 21 dX7_lots_7 (by decide) (fun h7 => ?_) (fun h7 => ?_)
  · rw [zb_e] at h7
    exact absurd hw1 h7 --
  · skip
    refine zk_iload_n (pc := 10) 2 dX7_lots_10 rfl rfl ?_
    refine zk_iconst (pc := 11) (v := 1) dX7_lots_11 (by decide) ?_
    refine zk_ldcw (pc := 12) dX7_lots_12 kcX7_281 ?_
    refine zk_callSI (pc := 15) dX7_lots_15 mtX7_within lkX7_130 stX7_within [_, _, _] _ rfl rfl (Nat.le_of_ble_eq_true rfl) (Nat.le_of_ble_eq_true rfl) (sp_X7_within _ _ _) ?_
    refine zk_if_ne (pc := 18) 23 dX7_lots_18 (by decide) (fun h18 => ?_) (fun h18 => ?_)
    · skip
      refine zk_aload_n (pc := 23) 0 dX7_lots_23 rfl rfl ?_
      refine zk_getR (pc := 24) dX7_lots_24 flX7_23 rfl rfl ?_
      refine zk_getI (pc := 27) dX7_lots_27 flX7_123 rfl rfl ?_
      refine zk_if_ne (pc := 30) 36 dX7_lots_30 (by decide) (fun h30 => ?_) (fun h30 => ?_)
      · skip
        refine zk_aload_n (pc := 36) 0 dX7_lots_36 rfl rfl ?_
        refine zk_getR (pc := 37) dX7_lots_37 flX7_30 rfl rfl ?_
        refine zk_getI (pc := 40) dX7_lots_40 flX7_34 rfl rfl ?_
        refine zk_iload_n (pc := 43) 1 dX7_lots_43 rfl rfl ?_
        refine zk_iadd (pc := 44) dX7_lots_44 ?_
        refine zk_bipush (pc := 45) (v := 40) dX7_lots_45 (by decide) ?_
        refine zk_icmp_le (pc := 47) 53 dX7_lots_47 (by decide) (fun h47 => ?_) (fun h47 => ?_)
        · skip
          refine zk_iload_n (pc := 53) 2 dX7_lots_53 rfl rfl ?_
          refine zs_istore_n (pc := 54) (ls' := [_, _, _, _, _]) 3 dX7_lots_54 rfl (by decide) rfl ?_
          refine zk_iconst (pc := 55) (v := 0) dX7_lots_55 (by decide) ?_
          refine zs_istore (pc := 56) (ls' := [_, _, _, _, _]) 4 dX7_lots_56 (by decide) rfl ?_
          exact loop 0 (Nat.zero_le _)
        · rw [hn, nI_add, show (40 : Int32) = nI 40 from rfl, nIle (by omega) (by omega)] at h47
          omega --
      · rw [hM] at h30
        exact absurd h30 (nI_ne0 hM0 (by omega)) --
    · rw [zb_e] at h18
      exact absurd hw2 h18 --
theorem sp_X7_lots_n (n p : Int32) (hb : ¬ ((1 ≤ n ∧ n ≤ 20) ∧ (1 ≤ p ∧ p ≤ 2147483646))) : zk_M (d + 1) RX7 cX7_lots 5 (some .int) none 0 (zk_loc [.ref 0, .int n, .int p] 5) [] mu lm (zk_R (some (.int (-1))) mu lm) := by
  refine zk_iload_n (pc := 0) 1 dX7_lots_0 rfl rfl ?_
  refine zk_iconst (pc := 1) (v := 1) dX7_lots_1 (by decide) ?_
  refine zk_bipush (pc := 2) (v := 20) dX7_lots_2 (by decide) ?_
  refine zk_callSI (pc := 4) dX7_lots_4 mtX7_within lkX7_130 stX7_within [_, _, _] _ rfl rfl (Nat.le_of_ble_eq_true rfl) (Nat.le_of_ble_eq_true rfl) (sp_X7_within _ _ _) ?_
  refine zk_if_eq (pc := 7) 21 dX7_lots_7 (by decide) (fun h7 => ?_) (fun h7 => ?_)
  · rw [zb_e] at h7
    refine zk_iconst (pc := 21) (v := -1) dX7_lots_21 (by decide) ?_
    exact zk_ireturn (pc := 22) dX7_lots_22 (Or.inl rfl) (zk_ri rfl)
  · rw [zb_n] at h7
    refine zk_iload_n (pc := 10) 2 dX7_lots_10 rfl rfl ?_
    refine zk_iconst (pc := 11) (v := 1) dX7_lots_11 (by decide) ?_
    refine zk_ldcw (pc := 12) dX7_lots_12 kcX7_281 ?_
    refine zk_callSI (pc := 15) dX7_lots_15 mtX7_within lkX7_130 stX7_within [_, _, _] _ rfl rfl (Nat.le_of_ble_eq_true rfl) (Nat.le_of_ble_eq_true rfl) (sp_X7_within _ _ _) ?_
    refine zk_if_ne (pc := 18) 23 dX7_lots_18 (by decide) (fun h18 => ?_) (fun h18 => ?_)
    · rw [zb_n] at h18
      exact absurd ⟨h7, h18⟩ hb --
    · rw [zb_e] at h18
      refine zk_iconst (pc := 21) (v := -1) dX7_lots_21 (by decide) ?_
      exact zk_ireturn (pc := 22) dX7_lots_22 (Or.inl rfl) (zk_ri rfl)
theorem sp_X7_lots_0 {n p : Int32} (hb : (1 ≤ n ∧ n ≤ 20) ∧ (1 ≤ p ∧ p ≤ 2147483646)) (hM : mu 23 6 = 0) : zk_M (d + 1) RX7 cX7_lots 5 (some .int) none 0 (zk_loc [.ref 0, .int n, .int p] 5) [] mu lm (zk_R (some (.int (-4))) mu lm) := by
  refine zk_iload_n (pc := 0) 1 dX7_lots_0 rfl rfl ?_
  refine zk_iconst (pc := 1) (v := 1) dX7_lots_1 (by decide) ?_
  refine zk_bipush (pc := 2) (v := 20) dX7_lots_2 (by decide) ?_
  refine zk_callSI (pc := 4) dX7_lots_4 mtX7_within lkX7_130 stX7_within [_, _, _] _ rfl rfl (Nat.le_of_ble_eq_true rfl) (Nat.le_of_ble_eq_true rfl) (sp_X7_within _ _ _) ?_
  refine zk_if_eq (pc := 7) 21 dX7_lots_7 (by decide) (fun h7 => ?_) (fun h7 => ?_)
  · rw [zb_e] at h7
    exact absurd hb.1 h7 --
  · skip
    refine zk_iload_n (pc := 10) 2 dX7_lots_10 rfl rfl ?_
    refine zk_iconst (pc := 11) (v := 1) dX7_lots_11 (by decide) ?_
    refine zk_ldcw (pc := 12) dX7_lots_12 kcX7_281 ?_
    refine zk_callSI (pc := 15) dX7_lots_15 mtX7_within lkX7_130 stX7_within [_, _, _] _ rfl rfl (Nat.le_of_ble_eq_true rfl) (Nat.le_of_ble_eq_true rfl) (sp_X7_within _ _ _) ?_
    refine zk_if_ne (pc := 18) 23 dX7_lots_18 (by decide) (fun h18 => ?_) (fun h18 => ?_)
    · skip
      refine zk_aload_n (pc := 23) 0 dX7_lots_23 rfl rfl ?_
      refine zk_getR (pc := 24) dX7_lots_24 flX7_23 rfl rfl ?_
      refine zk_getI (pc := 27) dX7_lots_27 flX7_123 rfl rfl ?_
      refine zk_if_ne (pc := 30) 36 dX7_lots_30 (by decide) (fun h30 => ?_) (fun h30 => ?_)
      · exact absurd hM h30 --
      · skip
        refine zk_bipush (pc := 33) (v := -4) dX7_lots_33 (by decide) ?_
        exact zk_ireturn (pc := 35) dX7_lots_35 (Or.inl rfl) (zk_ri rfl)
    · rw [zb_e] at h18
      exact absurd hb.2 h18 --
theorem sp_X7_lots_f {n p : Int32} (hb : (1 ≤ n ∧ n ≤ 20) ∧ (1 ≤ p ∧ p ≤ 2147483646)) (hM : ¬ mu 23 6 = 0) (hf : ¬ mu 28 1 + n ≤ 40) : zk_M (d + 1) RX7 cX7_lots 5 (some .int) none 0 (zk_loc [.ref 0, .int n, .int p] 5) [] mu lm (zk_R (some (.int (-2))) mu lm) := by
  refine zk_iload_n (pc := 0) 1 dX7_lots_0 rfl rfl ?_
  refine zk_iconst (pc := 1) (v := 1) dX7_lots_1 (by decide) ?_
  refine zk_bipush (pc := 2) (v := 20) dX7_lots_2 (by decide) ?_
  refine zk_callSI (pc := 4) dX7_lots_4 mtX7_within lkX7_130 stX7_within [_, _, _] _ rfl rfl (Nat.le_of_ble_eq_true rfl) (Nat.le_of_ble_eq_true rfl) (sp_X7_within _ _ _) ?_
  refine zk_if_eq (pc := 7) 21 dX7_lots_7 (by decide) (fun h7 => ?_) (fun h7 => ?_)
  · rw [zb_e] at h7
    exact absurd hb.1 h7 --
  · skip
    refine zk_iload_n (pc := 10) 2 dX7_lots_10 rfl rfl ?_
    refine zk_iconst (pc := 11) (v := 1) dX7_lots_11 (by decide) ?_
    refine zk_ldcw (pc := 12) dX7_lots_12 kcX7_281 ?_
    refine zk_callSI (pc := 15) dX7_lots_15 mtX7_within lkX7_130 stX7_within [_, _, _] _ rfl rfl (Nat.le_of_ble_eq_true rfl) (Nat.le_of_ble_eq_true rfl) (sp_X7_within _ _ _) ?_
    refine zk_if_ne (pc := 18) 23 dX7_lots_18 (by decide) (fun h18 => ?_) (fun h18 => ?_)
    · skip
      refine zk_aload_n (pc := 23) 0 dX7_lots_23 rfl rfl ?_
      refine zk_getR (pc := 24) dX7_lots_24 flX7_23 rfl rfl ?_
      refine zk_getI (pc := 27) dX7_lots_27 flX7_123 rfl rfl ?_
      refine zk_if_ne (pc := 30) 36 dX7_lots_30 (by decide) (fun h30 => ?_) (fun h30 => ?_)
      · skip
        refine zk_aload_n (pc := 36) 0 dX7_lots_36 rfl rfl ?_
        refine zk_getR (pc := 37) dX7_lots_37 flX7_30 rfl rfl ?_
        refine zk_getI (pc := 40) dX7_lots_40 flX7_34 rfl rfl ?_
        refine zk_iload_n (pc := 43) 1 dX7_lots_43 rfl rfl ?_
        refine zk_iadd (pc := 44) dX7_lots_44 ?_
        refine zk_bipush (pc := 45) (v := 40) dX7_lots_45 (by decide) ?_
        refine zk_icmp_le (pc := 47) 53 dX7_lots_47 (by decide) (fun h47 => ?_) (fun h47 => ?_)
        · exact absurd h47 hf --
        · skip
          refine zk_bipush (pc := 50) (v := -2) dX7_lots_50 (by decide) ?_
          exact zk_ireturn (pc := 52) dX7_lots_52 (Or.inl rfl) (zk_ri rfl)
      · exact absurd h30 hM --
    · rw [zb_e] at h18
      exact absurd hb.2 h18 --
theorem sp_X7_asked  : zk_M d RX7 cX7_asked 1 (some .int) none 0 (zk_loc [.ref 0] 1) [] mu lm (zk_R (some (.int (mu 0 10))) mu lm) := by
  refine zk_aload_n (pc := 0) 0 dX7_asked_0 rfl rfl ?_
  refine zk_getI (pc := 1) dX7_asked_1 flX7_82 rfl rfl ?_
  refine zk_ireturn (pc := 4) dX7_asked_4 (Or.inl rfl) ?_
  exact zk_ri rfl
theorem sp_X7_finding  : zk_M d RX7 cX7_finding 1 (some .int) none 0 (zk_loc [.ref 0] 1) [] mu lm (zk_R (some (.int (mu 0 9))) mu lm) := by
  refine zk_aload_n (pc := 0) 0 dX7_finding_0 rfl rfl ?_
  refine zk_getI (pc := 1) dX7_finding_1 flX7_311 rfl rfl ?_
  refine zk_ireturn (pc := 4) dX7_finding_4 (Or.inl rfl) ?_
  exact zk_ri rfl
theorem sp_X7_upper  : zk_M d RX7 cX7_upper 1 (some .long) none 0 (zk_loc [.ref 0] 1) [] mu lm (zk_R (some (.long (lm 0 11))) mu lm) := by
  refine zk_aload_n (pc := 0) 0 dX7_upper_0 rfl rfl ?_
  refine zk_getL (pc := 1) dX7_upper_1 flX7_289 rfl rfl ?_
  refine zk_lreturn (pc := 4) dX7_upper_4 rfl ?_
  exact zk_rl rfl
theorem sp_X7_lower  : zk_M d RX7 cX7_lower 1 (some .long) none 0 (zk_loc [.ref 0] 1) [] mu lm (zk_R (some (.long (lm 0 12))) mu lm) := by
  refine zk_aload_n (pc := 0) 0 dX7_lower_0 rfl rfl ?_
  refine zk_getL (pc := 1) dX7_lower_1 flX7_60 rfl rfl ?_
  refine zk_lreturn (pc := 4) dX7_lower_4 rfl ?_
  exact zk_rl rfl
theorem sp_X7_findings (f : Int32) : zk_M (d + 1) RX7 cX7_findings 2 (some .int) none 0 (zk_loc [.ref 0, .int f] 2) [] mu lm (zk_R (some (.int (if 1 ≤ f ∧ f ≤ 5 then mu 45 f.toNatClampNeg else -1))) mu lm) := by
  refine zk_iload_n (pc := 0) 1 dX7_findings_0 rfl rfl ?_
  refine zk_iconst (pc := 1) (v := 1) dX7_findings_1 (by decide) ?_
  refine zk_iconst (pc := 2) (v := 5) dX7_findings_2 (by decide) ?_
  refine zk_callSI (pc := 3) dX7_findings_3 mtX7_within lkX7_130 stX7_within [_, _, _] _ rfl rfl (Nat.le_of_ble_eq_true rfl) (Nat.le_of_ble_eq_true rfl) (sp_X7_within _ _ _) ?_
  refine zk_if_eq (pc := 6) 18 dX7_findings_6 (by decide) (fun h6 => ?_) (fun h6 => ?_)
  · rw [zb_e] at h6
    refine zk_iconst (pc := 18) (v := -1) dX7_findings_18 (by decide) ?_
    refine zk_ireturn (pc := 19) dX7_findings_19 (Or.inl rfl) (zk_ri ?_)
    first | rw [if_neg h6] | rw [if_pos h6, nI_clamp (by omega)]
  · rw [zb_n] at h6
    obtain ⟨j, hj, rfl⟩ := zgetl (i := f) (M := 5) ⟨by have := h6.1; simp only [zle, show (1 : Int32).toInt = 1 by decide, show (0 : Int32).toInt = 0 by decide] at *; omega, h6.2⟩ (by decide)
    refine zk_aload_n (pc := 9) 0 dX7_findings_9 rfl rfl ?_
    refine zk_getR (pc := 10) dX7_findings_10 flX7_57 rfl rfl ?_
    refine zk_iload_n (pc := 13) 1 dX7_findings_13 rfl rfl ?_
    refine zk_iaload (pc := 14) j dX7_findings_14 rfl rfl (by omega) ?_
    refine zk_goto (pc := 15) 19 dX7_findings_15 (by decide) ?_
    refine zk_ireturn (pc := 19) dX7_findings_19 (Or.inl rfl) (zk_ri ?_)
    first | rw [if_neg h6] | rw [if_pos h6, nI_clamp (by omega)]
def cCnt (mu : Mem) (C M : Nat) : Nat → Int32
  | 0 => mu 23 6
  | 1 => mu 23 5
  | 2 => mu 23 7
  | 3 => mu 28 1
  | 4 => zsum C (mu 27)
  | 5 => mu 23 8
  | 6 => mu 23 9
  | 7 => mu 23 4
  | 8 => zsum M (fun k => zb (mu 24 k = 1 ∨ mu 24 k = 4))
  | 9 => zsum M (fun k => zb (mu 24 k = 2 ∨ mu 24 k = 5))
  | 10 => zsum 6 (fun k => zb (0 ≤ mu (2 + 2 * k) 1))
  | 11 => zsum 4 (fun k => zb (0 ≤ mu (15 + 2 * k) 1))
  | 12 => zsum 3 (fun k => if mu (31 + 2 * k) 1 = -1 then 0 else 1)
  | _ => -1
theorem sp_X7_count {C M : Nat} (hC : mu 23 5 = nI C) (hC8 : C ≤ 8) (hM : mu 23 6 = nI M) (hM6 : M ≤ 6) {w : Nat} (hw : w ≤ 12) : zk_M (d + 2) RX7 cX7_count 2 (some .int) none 0 (zk_loc [.ref 0, .int (nI w)] 2) [] mu lm (zk_R (some (.int (cCnt mu C M w))) mu lm) := by
  refine zk_iload_n (pc := 0) 1 dX7_count_0 rfl rfl ?_
  match w, hw with
  | 0, _ =>
    refine zk_tabIn (pc := 1) 68 dX7_count_1 (by decide) (by decide) (by rfl) (by decide) ?_
    refine zk_aload_n (pc := 68) 0 dX7_count_68 rfl rfl ?_
    refine zk_getR (pc := 69) dX7_count_69 flX7_23 rfl rfl ?_
    refine zk_getI (pc := 72) dX7_count_72 flX7_123 rfl rfl ?_
    refine zk_ireturn (pc := 75) dX7_count_75 (Or.inl rfl) ?_
    exact zk_ri rfl
  | 1, _ =>
    refine zk_tabIn (pc := 1) 76 dX7_count_1 (by decide) (by decide) (by rfl) (by decide) ?_
    refine zk_aload_n (pc := 76) 0 dX7_count_76 rfl rfl ?_
    refine zk_getR (pc := 77) dX7_count_77 flX7_23 rfl rfl ?_
    refine zk_getI (pc := 80) dX7_count_80 flX7_204 rfl rfl ?_
    refine zk_ireturn (pc := 83) dX7_count_83 (Or.inl rfl) ?_
    exact zk_ri rfl
  | 2, _ =>
    refine zk_tabIn (pc := 1) 84 dX7_count_1 (by decide) (by decide) (by rfl) (by decide) ?_
    refine zk_aload_n (pc := 84) 0 dX7_count_84 rfl rfl ?_
    refine zk_getR (pc := 85) dX7_count_85 flX7_23 rfl rfl ?_
    refine zk_getI (pc := 88) dX7_count_88 flX7_292 rfl rfl ?_
    refine zk_ireturn (pc := 91) dX7_count_91 (Or.inl rfl) ?_
    exact zk_ri rfl
  | 3, _ =>
    refine zk_tabIn (pc := 1) 92 dX7_count_1 (by decide) (by decide) (by rfl) (by decide) ?_
    refine zk_aload_n (pc := 92) 0 dX7_count_92 rfl rfl ?_
    refine zk_getR (pc := 93) dX7_count_93 flX7_30 rfl rfl ?_
    refine zk_getI (pc := 96) dX7_count_96 flX7_34 rfl rfl ?_
    refine zk_ireturn (pc := 99) dX7_count_99 (Or.inl rfl) ?_
    exact zk_ri rfl
  | 4, _ =>
    refine zk_tabIn (pc := 1) 100 dX7_count_1 (by decide) (by decide) (by rfl) (by decide) ?_
    refine zk_aload_n (pc := 100) 0 dX7_count_100 rfl rfl ?_
    refine zk_getR (pc := 101) dX7_count_101 flX7_23 rfl rfl ?_
    refine zk_callVI (pc := 104) dX7_count_104 mtX0_allSmoke lkX7_177 stX0_allSmoke (by rfl) (by rfl) [] _ rfl rfl (Nat.le_of_ble_eq_true rfl) (Nat.le_of_ble_eq_true rfl) (sp_X0_allSmoke hC hC8) ?_
    refine zk_ireturn (pc := 107) dX7_count_107 (Or.inl rfl) ?_
    exact zk_ri rfl
  | 5, _ =>
    refine zk_tabIn (pc := 1) 108 dX7_count_1 (by decide) (by decide) (by rfl) (by decide) ?_
    refine zk_aload_n (pc := 108) 0 dX7_count_108 rfl rfl ?_
    refine zk_getR (pc := 109) dX7_count_109 flX7_23 rfl rfl ?_
    refine zk_getI (pc := 112) dX7_count_112 flX7_295 rfl rfl ?_
    refine zk_ireturn (pc := 115) dX7_count_115 (Or.inl rfl) ?_
    exact zk_ri rfl
  | 6, _ =>
    refine zk_tabIn (pc := 1) 116 dX7_count_1 (by decide) (by decide) (by rfl) (by decide) ?_
    refine zk_aload_n (pc := 116) 0 dX7_count_116 rfl rfl ?_
    refine zk_getR (pc := 117) dX7_count_117 flX7_23 rfl rfl ?_
    refine zk_getI (pc := 120) dX7_count_120 flX7_298 rfl rfl ?_
    refine zk_ireturn (pc := 123) dX7_count_123 (Or.inl rfl) ?_
    exact zk_ri rfl
  | 7, _ =>
    refine zk_tabIn (pc := 1) 124 dX7_count_1 (by decide) (by decide) (by rfl) (by decide) ?_
    refine zk_aload_n (pc := 124) 0 dX7_count_124 rfl rfl ?_
    refine zk_getR (pc := 125) dX7_count_125 flX7_23 rfl rfl ?_
    refine zk_getI (pc := 128) dX7_count_128 flX7_201 rfl rfl ?_
    refine zk_ireturn (pc := 131) dX7_count_131 (Or.inl rfl) ?_
    exact zk_ri rfl
  | 8, _ =>
    refine zk_tabIn (pc := 1) 132 dX7_count_1 (by decide) (by decide) (by rfl) (by decide) ?_
    refine zk_aload_n (pc := 132) 0 dX7_count_132 rfl rfl ?_
    refine zk_getR (pc := 133) dX7_count_133 flX7_23 rfl rfl ?_
    refine zk_iconst (pc := 136) (v := 1) dX7_count_136 (by decide) ?_
    refine zk_callVI (pc := 137) dX7_count_137 mtX0_membersOf lkX7_301 stX0_membersOf (by rfl) (by rfl) [_] _ rfl rfl (Nat.le_of_ble_eq_true rfl) (Nat.le_of_ble_eq_true rfl) (sp_X0_membersOf1 hM hM6) ?_
    refine zk_ireturn (pc := 140) dX7_count_140 (Or.inl rfl) ?_
    exact zk_ri rfl
  | 9, _ =>
    refine zk_tabIn (pc := 1) 141 dX7_count_1 (by decide) (by decide) (by rfl) (by decide) ?_
    refine zk_aload_n (pc := 141) 0 dX7_count_141 rfl rfl ?_
    refine zk_getR (pc := 142) dX7_count_142 flX7_23 rfl rfl ?_
    refine zk_iconst (pc := 145) (v := 2) dX7_count_145 (by decide) ?_
    refine zk_callVI (pc := 146) dX7_count_146 mtX0_membersOf lkX7_301 stX0_membersOf (by rfl) (by rfl) [_] _ rfl rfl (Nat.le_of_ble_eq_true rfl) (Nat.le_of_ble_eq_true rfl) (sp_X0_membersOf2 hM hM6) ?_
    refine zk_ireturn (pc := 149) dX7_count_149 (Or.inl rfl) ?_
    exact zk_ri rfl
  | 10, _ =>
    refine zk_tabIn (pc := 1) 150 dX7_count_1 (by decide) (by decide) (by rfl) (by decide) ?_
    refine zk_aload_n (pc := 150) 0 dX7_count_150 rfl rfl ?_
    refine zk_getR (pc := 151) dX7_count_151 flX7_13 rfl rfl ?_
    refine zk_callSI (pc := 154) dX7_count_154 mtX7_thereOn lkX7_304 stX7_thereOn [_] _ rfl rfl (Nat.le_of_ble_eq_true rfl) (Nat.le_of_ble_eq_true rfl) (sp_X7_thereOn (sc := 1) (n := 6) (b := 2) (N := 40) rfl (fun k hk => ⟨(by have := (zRows hk).1; rwa [show 3 + 2 * k = 2 + 1 + 2 * k by omega] at this), (zRows hk).2⟩)) ?_
    refine zk_ireturn (pc := 157) dX7_count_157 (Or.inl rfl) ?_
    exact zk_ri rfl
  | 11, _ =>
    refine zk_tabIn (pc := 1) 158 dX7_count_1 (by decide) (by decide) (by rfl) (by decide) ?_
    refine zk_aload_n (pc := 158) 0 dX7_count_158 rfl rfl ?_
    refine zk_getR (pc := 159) dX7_count_159 flX7_17 rfl rfl ?_
    refine zk_callSI (pc := 162) dX7_count_162 mtX7_thereOn lkX7_304 stX7_thereOn [_] _ rfl rfl (Nat.le_of_ble_eq_true rfl) (Nat.le_of_ble_eq_true rfl) (sp_X7_thereOn (sc := 14) (n := 4) (b := 15) (N := 60) rfl (fun k hk => ⟨(by have := (zTexts hk).1; rwa [show 16 + 2 * k = 15 + 1 + 2 * k by omega] at this), (zTexts hk).2⟩)) ?_
    refine zk_ireturn (pc := 165) dX7_count_165 (Or.inl rfl) ?_
    exact zk_ri rfl
  | 12, _ =>
    refine zk_tabIn (pc := 1) 166 dX7_count_1 (by decide) (by decide) (by rfl) (by decide) ?_
    refine zk_aload_n (pc := 166) 0 dX7_count_166 rfl rfl ?_
    refine zk_callVI (pc := 167) dX7_count_167 mtX7_keptClubs lkX7_308 stX7_keptClubs (by rfl) (by rfl) [] _ rfl rfl (Nat.le_of_ble_eq_true rfl) (Nat.le_of_ble_eq_true rfl) (sp_X7_keptClubs) ?_
    refine zk_ireturn (pc := 170) dX7_count_170 (Or.inl rfl) ?_
    exact zk_ri rfl
theorem sp_X7_count_n {w : Int32} (hw : ¬ (0 ≤ w ∧ w ≤ 12)) : zk_M d RX7 cX7_count 2 (some .int) none 0 (zk_loc [.ref 0, .int w] 2) [] mu lm (zk_R (some (.int (-1))) mu lm) := by
  refine zk_iload_n (pc := 0) 1 dX7_count_0 rfl rfl ?_
  refine zk_tabOut (pc := 1) (x := w) 171 dX7_count_1 (by simp only [zle, show (0 : Int32).toInt = 0 by decide, show (12 : Int32).toInt = 12 by decide] at hw; omega) (by decide) ?_
  refine zk_iconst (pc := 171) (v := -1) dX7_count_171 (by decide) ?_
  refine zk_ireturn (pc := 172) dX7_count_172 (Or.inl rfl) ?_
  exact zk_ri rfl
def dgM (mu : Mem) : Nat → Int64 → Int64
  | 0, h => h
  | i + 1, h => dgA (fun w => mFact mu i (nI w)) 4 (dgM mu i h)
def dg1 (mu : Mem) (C M : Nat) : Int64 := dgA (fun w => cCnt mu C M w) 13 17
def dg2 (mu : Mem) (C M : Nat) : Int64 := dgA (mu 27) C (dg1 mu C M)
def dg3 (mu : Mem) (C M : Nat) : Int64 := dgM mu M (dg2 mu C M)
def dg4 (mu : Mem) (C M : Nat) : Int64 := dgA (fun k => mu (31 + 2 * k) 1) 3 (dg3 mu C M)
def dg5 (mu : Mem) (C M : Nat) : Int64 := dgS (fun k => mu (2 + 2 * k) 1) (fun k => mu (2 + 1 + 2 * k)) 6 (dg4 mu C M)
def dg6 (mu : Mem) (C M : Nat) : Int64 := dgS (fun k => mu (15 + 2 * k) 1) (fun k => mu (15 + 1 + 2 * k)) 4 (dg5 mu C M)
theorem sp_X7_digest {C M : Nat} (hC : mu 23 5 = nI C) (hC8 : C ≤ 8) (hM : mu 23 6 = nI M) (hM6 : M ≤ 6) (hS : ∀ j, j < M → ∃ q, q < C ∧ mu 25 j = nI q) (hz1 : ∀ k, k < 6 → zSz (mu (2 + 2 * k) 1) 40) (hz2 : ∀ k, k < 4 → zSz (mu (15 + 2 * k) 1) 60) : zk_M (d + 3) RX7 cX7_digest 5 (some .long) none 0 (zk_loc [.ref 0] 5) [] mu lm (zk_R (some (.long (dg6 mu C M))) mu lm) := by
  have loop4 : ∀ k, k ≤ 3 → ∀ b4 : Value, zk_M (d + 3) RX7 cX7_digest 5 (some .long) none 118 [.ref 0, .long (dgA (fun k => mu (31 + 2 * k) 1) k (dg3 mu C M)), .retAddr 0, .int (nI k), b4] [] mu lm (zk_R (some (.long (dg6 mu C M))) mu lm) := by
    refine zk_ind 3 (fun k hk ih => ?_)
    intro b4
    refine zk_iload_n (pc := 118) 3 dX7_digest_118 rfl rfl ?_
    refine zk_aload_n (pc := 119) 0 dX7_digest_119 rfl rfl ?_
    refine zk_getR (pc := 120) dX7_digest_120 flX7_38 rfl rfl ?_
    refine zk_alen (pc := 123) dX7_digest_123 rfl (by decide) ?_
    refine zk_icmp_ge (pc := 124) 150 dX7_digest_124 (by decide) (fun h124 => ?_) (fun h124 => ?_)
    · rw [nIle (by omega) (by omega)] at h124
      obtain rfl : k = 3 := by omega
      refine zk_aload_n (pc := 150) 0 dX7_digest_150 rfl rfl ?_
      refine zk_getR (pc := 151) dX7_digest_151 flX7_17 rfl rfl ?_
      refine zk_aload_n (pc := 154) 0 dX7_digest_154 rfl rfl ?_
      refine zk_getR (pc := 155) dX7_digest_155 flX7_13 rfl rfl ?_
      refine zk_lload_n (pc := 158) 1 dX7_digest_158 rfl rfl ?_
      refine zk_callSJ (pc := 159) dX7_digest_159 mtX7_digestOf lkX7_321 stX7_digestOf [_, _] _ rfl rfl (Nat.le_of_ble_eq_true rfl) (Nat.le_of_ble_eq_true rfl) (sp_X7_digestOf (sc := 1) (n := 6) (b := 2) (N := 40) rfl (by decide) (fun k hk => ⟨(by have := (zRows hk).1; rwa [show 3 + 2 * k = 2 + 1 + 2 * k by omega] at this), (zRows hk).2⟩) hz1 _) ?_
      refine zk_callSJ (pc := 162) dX7_digest_162 mtX7_digestOf lkX7_321 stX7_digestOf [_, _] _ rfl rfl (Nat.le_of_ble_eq_true rfl) (Nat.le_of_ble_eq_true rfl) (sp_X7_digestOf (sc := 14) (n := 4) (b := 15) (N := 60) rfl (by decide) (fun k hk => ⟨(by have := (zTexts hk).1; rwa [show 16 + 2 * k = 15 + 1 + 2 * k by omega] at this), (zTexts hk).2⟩) hz2 _) ?_
      exact zk_lreturn (pc := 165) dX7_digest_165 rfl (zk_rl rfl)
    · rw [nIle (by omega) (by omega)] at h124
      refine zk_ldc2 (pc := 127) dX7_digest_127 kcX7_316 ?_
      refine zk_lload_n (pc := 130) 1 dX7_digest_130 rfl rfl ?_
      refine zk_lmul (pc := 131) dX7_digest_131 ?_
      refine zk_aload_n (pc := 132) 0 dX7_digest_132 rfl rfl ?_
      refine zk_getR (pc := 133) dX7_digest_133 flX7_38 rfl rfl ?_
      refine zk_iload_n (pc := 136) 3 dX7_digest_136 rfl rfl ?_
      refine zk_aaload (pc := 137) k dX7_digest_137 rfl (by decide) rfl (by omega) (zKepts (by omega)).2 ?_
      refine zk_getI (pc := 138) dX7_digest_138 flX7_34 (zKepts (by omega)).1.1 rfl ?_
      refine zk_i2l (pc := 141) dX7_digest_141 ?_
      refine zk_ladd (pc := 142) dX7_digest_142 ?_
      refine zs_lstore_n (pc := 143) (ls' := [_, _, _, _, _]) 1 dX7_digest_143 rfl (by decide) rfl ?_
      refine zs_iinc (pc := 144) (ls' := [_, _, _, _, _]) dX7_digest_144 rfl (nI_1 k) (by decide) rfl ?_
      refine zk_goto (pc := 147) 118 dX7_digest_147 (by decide) ?_
      exact ih (by omega) _
  have loop3 : ∀ k, k ≤ M → ∀ b4 : Value, zk_M (d + 3) RX7 cX7_digest 5 (some .long) none 69 [.ref 0, .long (dgM mu k (dg2 mu C M)), .retAddr 0, .int (nI k), b4] [] mu lm (zk_R (some (.long (dg6 mu C M))) mu lm) := by
    refine zk_ind M (fun k hk ih => ?_)
    intro b4
    have inner : k < M → ∀ q, q ≤ 4 → zk_M (d + 3) RX7 cX7_digest 5 (some .long) none 83 [.ref 0, .long (dgA (fun w => mFact mu k (nI w)) q (dgM mu k (dg2 mu C M))), .retAddr 0, .int (nI k), .int (nI q)] [] mu lm (zk_R (some (.long (dg6 mu C M))) mu lm) := by
      intro hkM
      obtain ⟨z, hz, hsz⟩ := hS k hkM
      refine zk_ind 4 (fun q hq ih2 => ?_)
      refine zk_iload (pc := 83) dX7_digest_83 rfl ?_
      refine zk_iconst (pc := 85) (v := 4) dX7_digest_85 (by decide) ?_
      refine zk_icmp_ge (pc := 86) 110 dX7_digest_86 (by decide) (fun h86 => ?_) (fun h86 => ?_)
      · rw [show (4 : Int32) = nI 4 from rfl, nIle (by omega) (by omega)] at h86
        refine zs_iinc (pc := 110) (ls' := [_, _, _, _, _]) dX7_digest_110 rfl (nI_1 k) (by decide) rfl ?_
        refine zk_goto (pc := 113) 69 dX7_digest_113 (by decide) ?_
        obtain rfl : q = 4 := by omega
        exact ih (by omega) _
      · rw [show (4 : Int32) = nI 4 from rfl, nIle (by omega) (by omega)] at h86
        refine zk_ldc2 (pc := 89) dX7_digest_89 kcX7_316 ?_
        refine zk_lload_n (pc := 92) 1 dX7_digest_92 rfl rfl ?_
        refine zk_lmul (pc := 93) dX7_digest_93 ?_
        refine zk_aload_n (pc := 94) 0 dX7_digest_94 rfl rfl ?_
        refine zk_iload_n (pc := 95) 3 dX7_digest_95 rfl rfl ?_
        refine zk_iload (pc := 96) dX7_digest_96 rfl ?_
        refine zk_callVI (pc := 98) dX7_digest_98 mtX7_memberFact lkX7_134 stX7_memberFact (by rfl) (by rfl) [_, _] _ rfl rfl (Nat.le_of_ble_eq_true rfl) (Nat.le_of_ble_eq_true rfl) (sp_mf (by omega) hsz (by omega) (by omega)) ?_
        refine zk_i2l (pc := 101) dX7_digest_101 ?_
        refine zk_ladd (pc := 102) dX7_digest_102 ?_
        refine zs_lstore_n (pc := 103) (ls' := [_, _, _, _, _]) 1 dX7_digest_103 rfl (by decide) rfl ?_
        refine zs_iinc (pc := 104) (ls' := [_, _, _, _, _]) dX7_digest_104 rfl (nI_1 q) (by decide) rfl ?_
        refine zk_goto (pc := 107) 83 dX7_digest_107 (by decide) ?_
        exact ih2 (by omega)
    refine zk_iload_n (pc := 69) 3 dX7_digest_69 rfl rfl ?_
    refine zk_aload_n (pc := 70) 0 dX7_digest_70 rfl rfl ?_
    refine zk_getR (pc := 71) dX7_digest_71 flX7_23 rfl rfl ?_
    refine zk_getI (pc := 74) dX7_digest_74 flX7_123 rfl rfl ?_
    refine zk_icmp_ge (pc := 77) 116 dX7_digest_77 (by decide) (fun h77 => ?_) (fun h77 => ?_)
    · rw [hM, nIle (by omega) (by omega)] at h77
      refine zk_iconst (pc := 116) (v := 0) dX7_digest_116 (by decide) ?_
      refine zs_istore_n (pc := 117) (ls' := [_, _, _, _, _]) 3 dX7_digest_117 rfl (by decide) rfl ?_
      obtain rfl : k = M := by omega
      exact loop4 0 (Nat.zero_le _) _
    · rw [hM, nIle (by omega) (by omega)] at h77
      refine zk_iconst (pc := 80) (v := 0) dX7_digest_80 (by decide) ?_
      refine zs_istore (pc := 81) (ls' := [_, _, _, _, _]) 4 dX7_digest_81 (by decide) rfl ?_
      exact inner (by omega) 0 (Nat.zero_le _)
  have loop2 : ∀ k, k ≤ C → ∀ b4 : Value, zk_M (d + 3) RX7 cX7_digest 5 (some .long) none 33 [.ref 0, .long (dgA (mu 27) k (dg1 mu C M)), .retAddr 0, .int (nI k), b4] [] mu lm (zk_R (some (.long (dg6 mu C M))) mu lm) := by
    refine zk_ind C (fun k hk ih => ?_)
    intro b4
    refine zk_iload_n (pc := 33) 3 dX7_digest_33 rfl rfl ?_
    refine zk_aload_n (pc := 34) 0 dX7_digest_34 rfl rfl ?_
    refine zk_getR (pc := 35) dX7_digest_35 flX7_23 rfl rfl ?_
    refine zk_getI (pc := 38) dX7_digest_38 flX7_204 rfl rfl ?_
    refine zk_icmp_ge (pc := 41) 67 dX7_digest_41 (by decide) (fun h41 => ?_) (fun h41 => ?_)
    · rw [hC, nIle (by omega) (by omega)] at h41
      refine zk_iconst (pc := 67) (v := 0) dX7_digest_67 (by decide) ?_
      refine zs_istore_n (pc := 68) (ls' := [_, _, _, _, _]) 3 dX7_digest_68 rfl (by decide) rfl ?_
      obtain rfl : k = C := by omega
      exact loop3 0 (Nat.zero_le _) _
    · rw [hC, nIle (by omega) (by omega)] at h41
      refine zk_ldc2 (pc := 44) dX7_digest_44 kcX7_316 ?_
      refine zk_lload_n (pc := 47) 1 dX7_digest_47 rfl rfl ?_
      refine zk_lmul (pc := 48) dX7_digest_48 ?_
      refine zk_aload_n (pc := 49) 0 dX7_digest_49 rfl rfl ?_
      refine zk_getR (pc := 50) dX7_digest_50 flX7_23 rfl rfl ?_
      refine zk_getR (pc := 53) dX7_digest_53 flX7_164 rfl rfl ?_
      refine zk_iload_n (pc := 56) 3 dX7_digest_56 rfl rfl ?_
      refine zk_iaload (pc := 57) k dX7_digest_57 rfl rfl (by omega) ?_
      refine zk_i2l (pc := 58) dX7_digest_58 ?_
      refine zk_ladd (pc := 59) dX7_digest_59 ?_
      refine zs_lstore_n (pc := 60) (ls' := [_, _, _, _, _]) 1 dX7_digest_60 rfl (by decide) rfl ?_
      refine zs_iinc (pc := 61) (ls' := [_, _, _, _, _]) dX7_digest_61 rfl (nI_1 k) (by decide) rfl ?_
      refine zk_goto (pc := 64) 33 dX7_digest_64 (by decide) ?_
      exact ih (by omega) _
  have loop1 : ∀ k, k ≤ 13 → ∀ b4 : Value, zk_M (d + 3) RX7 cX7_digest 5 (some .long) none 6 [.ref 0, .long (dgA (fun w => cCnt mu C M w) k 17), .retAddr 0, .int (nI k), b4] [] mu lm (zk_R (some (.long (dg6 mu C M))) mu lm) := by
    refine zk_ind 13 (fun k hk ih => ?_)
    intro b4
    refine zk_iload_n (pc := 6) 3 dX7_digest_6 rfl rfl ?_
    refine zk_bipush (pc := 7) (v := 13) dX7_digest_7 (by decide) ?_
    refine zk_icmp_ge (pc := 9) 31 dX7_digest_9 (by decide) (fun h9 => ?_) (fun h9 => ?_)
    · rw [show (13 : Int32) = nI 13 from rfl, nIle (by omega) (by omega)] at h9
      refine zk_iconst (pc := 31) (v := 0) dX7_digest_31 (by decide) ?_
      refine zs_istore_n (pc := 32) (ls' := [_, _, _, _, _]) 3 dX7_digest_32 rfl (by decide) rfl ?_
      obtain rfl : k = 13 := by omega
      exact loop2 0 (Nat.zero_le _) _
    · rw [show (13 : Int32) = nI 13 from rfl, nIle (by omega) (by omega)] at h9
      refine zk_ldc2 (pc := 12) dX7_digest_12 kcX7_316 ?_
      refine zk_lload_n (pc := 15) 1 dX7_digest_15 rfl rfl ?_
      refine zk_lmul (pc := 16) dX7_digest_16 ?_
      refine zk_aload_n (pc := 17) 0 dX7_digest_17 rfl rfl ?_
      refine zk_iload_n (pc := 18) 3 dX7_digest_18 rfl rfl ?_
      refine zk_callVI (pc := 19) dX7_digest_19 mtX7_count lkX7_318 stX7_count (by rfl) (by rfl) [_] _ rfl rfl (Nat.le_of_ble_eq_true rfl) (Nat.le_of_ble_eq_true rfl) (sp_X7_count hC hC8 hM hM6 (by omega)) ?_
      refine zk_i2l (pc := 22) dX7_digest_22 ?_
      refine zk_ladd (pc := 23) dX7_digest_23 ?_
      refine zs_lstore_n (pc := 24) (ls' := [_, _, _, _, _]) 1 dX7_digest_24 rfl (by decide) rfl ?_
      refine zs_iinc (pc := 25) (ls' := [_, _, _, _, _]) dX7_digest_25 rfl (nI_1 k) (by decide) rfl ?_
      refine zk_goto (pc := 28) 6 dX7_digest_28 (by decide) ?_
      exact ih (by omega) _
  refine zk_ldc2 (pc := 0) dX7_digest_0 kcX7_314 ?_
  refine zs_lstore_n (pc := 3) (ls' := [_, _, _, _, _]) 1 dX7_digest_3 rfl (by decide) rfl ?_
  refine zk_iconst (pc := 4) (v := 0) dX7_digest_4 (by decide) ?_
  refine zs_istore_n (pc := 5) (ls' := [_, _, _, _, _]) 3 dX7_digest_5 rfl (by decide) rfl ?_
  exact loop1 0 (Nat.zero_le _) _
end M37
