section M45
variable {d : Nat} {mu : Mem} {lm : MemL}
theorem sp_X8_fault_1 {k : Nat} (hk : k < 4) (h0 : ¬ 0 ≤ mu 49 k) : zk_M (d + 1) RX8 cX8_fault 2 (some .int) none 0 (zk_loc [.ref 46, .int (nI k)] 2) [] mu lm (zk_R (some (.int (-3))) (fndD mu 1) lm) := by
  refine zk_iload_n (pc := 0) 1 dX8_fault_0 rfl rfl ?_
  refine zk_iconst (pc := 1) (v := 0) dX8_fault_1 (by decide) ?_
  refine zk_iconst (pc := 2) (v := 3) dX8_fault_2 (by decide) ?_
  refine zk_callSI (pc := 3) dX8_fault_3 mtX8_in lkX8_66 stX8_in [_, _, _] _ rfl rfl (Nat.le_of_ble_eq_true rfl) (Nat.le_of_ble_eq_true rfl) (sp_X8_in _ _ _) ?_
  refine zk_if_ne (pc := 6) 11 dX8_fault_6 (by decide) (fun h6 => ?_) (fun h6 => ?_)
  · skip
    refine zk_aload_n (pc := 11) 0 dX8_fault_11 rfl rfl ?_
    refine zk_getR (pc := 12) dX8_fault_12 flX8_16 rfl rfl ?_
    refine zk_iload_n (pc := 15) 1 dX8_fault_15 rfl rfl ?_
    refine zk_iaload (pc := 16) k dX8_fault_16 rfl rfl hk ?_
    refine zk_if_ge (pc := 17) 28 dX8_fault_17 (by decide) (fun h17 => ?_) (fun h17 => ?_)
    · exact absurd h17 h0 --
    · skip
      refine zk_aload_n (pc := 20) 0 dX8_fault_20 rfl rfl ?_
      refine zk_iconst (pc := 21) (v := 1) dX8_fault_21 (by decide) ?_
      refine zk_callVI (pc := 22) dX8_fault_22 mtX8_finds lkX8_73 stX8_finds (by rfl) (by rfl) [_] _ rfl rfl (Nat.le_of_ble_eq_true rfl) (Nat.le_of_ble_eq_true rfl) (sp_X8_finds (f := 1) (by decide)) ?_
      refine zk_goto (pc := 25) 33 dX8_fault_25 (by decide) ?_
      exact zk_ireturn (pc := 33) dX8_fault_33 (Or.inl rfl) ⟨rfl, rfl, rfl⟩
  · rw [zb_e] at h6
    exact absurd (show (0 : Int32) ≤ nI k ∧ nI k ≤ 3 from ⟨nI_pos' (by omega), show nI k ≤ nI 3 from nI_le (by omega) (by decide)⟩) h6 --
theorem sp_X8_fault {k n : Nat} (hk : k < 4) (hn : mu 49 k = nI n) (hn60 : n ≤ 60) : zk_M (d + 4) RX8 cX8_fault 2 (some .int) none 0 (zk_loc [.ref 46, .int (nI k)] 2) [] mu lm (rdQ mu lm (txF mu k) n) := by
  refine zk_iload_n (pc := 0) 1 dX8_fault_0 rfl rfl ?_
  refine zk_iconst (pc := 1) (v := 0) dX8_fault_1 (by decide) ?_
  refine zk_iconst (pc := 2) (v := 3) dX8_fault_2 (by decide) ?_
  refine zk_callSI (pc := 3) dX8_fault_3 mtX8_in lkX8_66 stX8_in [_, _, _] _ rfl rfl (Nat.le_of_ble_eq_true rfl) (Nat.le_of_ble_eq_true rfl) (sp_X8_in _ _ _) ?_
  refine zk_if_ne (pc := 6) 11 dX8_fault_6 (by decide) (fun h6 => ?_) (fun h6 => ?_)
  · skip
    refine zk_aload_n (pc := 11) 0 dX8_fault_11 rfl rfl ?_
    refine zk_getR (pc := 12) dX8_fault_12 flX8_16 rfl rfl ?_
    refine zk_iload_n (pc := 15) 1 dX8_fault_15 rfl rfl ?_
    refine zk_iaload (pc := 16) k dX8_fault_16 rfl rfl hk ?_
    refine zk_if_ge (pc := 17) 28 dX8_fault_17 (by decide) (fun h17 => ?_) (fun h17 => ?_)
    · skip
      refine zk_aload_n (pc := 28) 0 dX8_fault_28 rfl rfl ?_
      refine zk_iload_n (pc := 29) 1 dX8_fault_29 rfl rfl ?_
      refine zk_callV (pc := 30) dX8_fault_30 mtX8_read lkX8_124 stX8_read (by rfl) (by rfl) [_] _ rfl rfl (Nat.le_of_ble_eq_true rfl) (Nat.le_of_ble_eq_true rfl) (sp_X8_read hk hn hn60) (fun r m3 l3 q3 => ?_)
      obtain ⟨rfl, rfl, g3, g4⟩ := q3
      exact zk_ireturn (pc := 33) dX8_fault_33 (Or.inl rfl) ⟨rfl, rfl, g3, g4⟩
    · rw [hn] at h17
      exact absurd (nI_pos' (by omega)) h17 --
  · rw [zb_e] at h6
    exact absurd (show (0 : Int32) ≤ nI k ∧ nI k ≤ 3 from ⟨nI_pos' (by omega), show nI k ≤ nI 3 from nI_le (by omega) (by decide)⟩) h6 --
theorem sp_X8_club_1 {k : Nat} (hk : k < 4) (h0 : ¬ 0 ≤ mu 49 k) : zk_M (d + 1) RX8 cX8_club 3 (some .int) none 0 (zk_loc [.ref 46, .int (nI k)] 3) [] mu lm (zk_R (some (.int (-3))) (fndD mu 1) lm) := by
  refine zk_iload_n (pc := 0) 1 dX8_club_0 rfl rfl ?_
  refine zk_iconst (pc := 1) (v := 0) dX8_club_1 (by decide) ?_
  refine zk_iconst (pc := 2) (v := 3) dX8_club_2 (by decide) ?_
  refine zk_callSI (pc := 3) dX8_club_3 mtX8_in lkX8_66 stX8_in [_, _, _] _ rfl rfl (Nat.le_of_ble_eq_true rfl) (Nat.le_of_ble_eq_true rfl) (sp_X8_in _ _ _) ?_
  refine zk_if_ne (pc := 6) 11 dX8_club_6 (by decide) (fun h6 => ?_) (fun h6 => ?_)
  · skip
    refine zk_aload_n (pc := 11) 0 dX8_club_11 rfl rfl ?_
    refine zk_getR (pc := 12) dX8_club_12 flX8_16 rfl rfl ?_
    refine zk_iload_n (pc := 15) 1 dX8_club_15 rfl rfl ?_
    refine zk_iaload (pc := 16) k dX8_club_16 rfl rfl hk ?_
    refine zk_if_ge (pc := 17) 26 dX8_club_17 (by decide) (fun h17 => ?_) (fun h17 => ?_)
    · exact absurd h17 h0 --
    · skip
      refine zk_aload_n (pc := 20) 0 dX8_club_20 rfl rfl ?_
      refine zk_iconst (pc := 21) (v := 1) dX8_club_21 (by decide) ?_
      refine zk_callVI (pc := 22) dX8_club_22 mtX8_finds lkX8_73 stX8_finds (by rfl) (by rfl) [_] _ rfl rfl (Nat.le_of_ble_eq_true rfl) (Nat.le_of_ble_eq_true rfl) (sp_X8_finds (f := 1) (by decide)) ?_
      exact zk_ireturn (pc := 25) dX8_club_25 (Or.inl rfl) ⟨rfl, rfl, rfl⟩
  · rw [zb_e] at h6
    exact absurd (show (0 : Int32) ≤ nI k ∧ nI k ≤ 3 from ⟨nI_pos' (by omega), show nI k ≤ nI 3 from nI_le (by omega) (by decide)⟩) h6 --
def suM (mu : Mem) (k : Nat) : Mem := zk_uc (zk_uc mu 53 (fun q => if q < k then mu 52 (2 * q) else mu 53 q)) 54 (fun q => if q < k then mu 52 (2 * q + 1) else mu 54 q)
theorem suM_0 (mu : Mem) : suM mu 0 = mu := by
  unfold suM
  have h1 : (fun q => if q < 0 then mu 52 (2 * q) else mu 53 q) = mu 53 := by funext k; simp
  have h2 : (fun q => if q < 0 then mu 52 (2 * q + 1) else mu 54 q) = mu 54 := by funext k; simp
  rw [h1, zk_uc_self, h2, zk_uc_self]
theorem suM_s (mu : Mem) (j : Nat) : zk_up (zk_up (suM mu j) 53 j (mu 52 (2 * j))) 54 j (mu 52 (2 * j + 1)) = suM mu (j + 1) := by
  funext c k
  unfold suM zk_up zk_uc
  by_cases hc : c = 54
  · subst hc
    by_cases hk : k = j
    · subst hk; simp
    · have e : (k < j + 1) = (k < j) := propext ⟨fun h => by omega, fun h => by omega⟩
      simp [hk, e]
  · by_cases hd : c = 53
    · subst hd
      by_cases hk : k = j
      · subst hk; simp
      · have e : (k < j + 1) = (k < j) := propext ⟨fun h => by omega, fun h => by omega⟩
        simp [hk, e]
    · simp [hc, hd]
theorem suM_c (mu : Mem) {c : Nat} (k : Nat) (h1 : c ≠ 53) (h2 : c ≠ 54) : suM mu k c = mu c := by unfold suM; rw [zuc_c _ _ h2, zuc_c _ _ h1]
/-- the model's club out of what was read (m), of N members -/
def clbD (m : Mem) (N : Nat) : Mem := zfill (zk_up (suM (zk_up (zk_up (zk_up (zfill m 55 17 0) 46 16 (m 46 12)) 46 17 (m 46 13)) 46 18 (m 46 14)) N) 46 24 0) 60 3 (-1)
def clQ (mu : Mem) (lm : MemL) (f : Nat → Int32) (n : Nat) : Option Value → Mem → MemL → Prop := fun r m' l => l = lm ∧ ∃ m, rdQ mu lm f n (some (.int (rdV f n))) m lm ∧ ((¬ rdV f n = -9 ∧ r = some (.int (-4)) ∧ m' = m) ∨ (rdV f n = -9 ∧ r = some (.int (nI (rdD f n).length)) ∧ m' = clbD m (rdD f n).length))
theorem mmD_len {f : Nat → Int32} {n : Nat} {cells : Int32} (hn : n ≤ 60) : ∀ m p mm, mm ≤ 6 → mmV f n cells m p mm = -9 → mm + (mmD f n m p).length ≤ 6
  | 0, p, mm, h, _ => h
  | m + 1, p, mm, h, hv => by
    unfold mmV at hv
    unfold mmD
    by_cases hp : p < n
    · rw [if_pos hp] at hv ⊢
      by_cases a1 : 0 ≤ sbv (lt f n p) ∧ mm ≠ 6
      · rw [if_pos a1] at hv
        by_cases a2 : 0 ≤ lt f n (p + 1) - 48 ∧ lt f n (p + 1) - 48 ≤ cells - 1
        · rw [if_pos a2] at hv
          have := mmD_len hn m (skp f n (p + 2)) (mm + 1) (by omega) hv
          rw [List.length_cons]; omega
        · rw [if_neg a2] at hv
          exact absurd hv (nI_ne9 (by omega))
      · rw [if_neg a1] at hv
        exact absurd hv (nI_ne9 (by omega))
    · rw [if_neg hp]
      exact h
theorem rdD_len {f : Nat → Int32} {n : Nat} (hn : n ≤ 60) (h : rdV f n = -9) : (rdD f n).length ≤ 6 := by
  have hs := skp_le (f := f) (n := n) n 0 (by omega) (by omega)
  unfold rdV at h
  unfold rdD
  split at h
  · split at h
    · split at h
      · have := mmD_len hn _ _ _ (by omega) h
        omega
      · exact absurd h (nI_ne9 (by omega))
    · exact absurd h (nI_ne9 (by omega))
  · exact absurd h (nI_ne9 (by omega))
theorem sp_X8_club {k n : Nat} (hk : k < 4) (hn : mu 49 k = nI n) (hn60 : n ≤ 60) : zk_M (d + 4) RX8 cX8_club 3 (some .int) none 0 (zk_loc [.ref 46, .int (nI k)] 3) [] mu lm (clQ mu lm (txF mu k) n) := by
  have loop3 : ∀ (nu : Mem) (N : Nat), nu 46 18 = nI N → ∀ q, q ≤ 3 → zk_M (d + 4) RX8 cX8_club 3 (some .int) none 137 [.ref 46, .int (nI k), .int (nI q)] [] (zfill nu 60 q (-1)) lm (zk_R (some (.int (nI N))) (zfill nu 60 3 (-1)) lm) := by
    intro nu N hN
    refine zk_ind 3 (fun q hq ih => ?_)
    refine zk_iload_n (pc := 137) 2 dX8_club_137 rfl rfl ?_
    refine zk_iconst (pc := 138) (v := 3) dX8_club_138 (by decide) ?_
    refine zk_icmp_ge (pc := 139) 155 dX8_club_139 (by decide) (fun h139 => ?_) (fun h139 => ?_)
    · rw [show (3 : Int32) = nI 3 from rfl, nIle (by omega) (by omega)] at h139
      refine zk_aload_n (pc := 155) 0 dX8_club_155 rfl rfl ?_
      refine zk_getI (pc := 156) dX8_club_156 flX8_63 rfl rfl ?_
      refine zk_ireturn (pc := 159) dX8_club_159 (Or.inl rfl) (zk_rm ?_ ?_ rfl)
      · rw [zfill_c _ _ _ _ (by decide)]; exact hN
      · rw [show q = 3 by omega]
    · rw [show (3 : Int32) = nI 3 from rfl, nIle (by omega) (by omega)] at h139
      refine zk_aload_n (pc := 142) 0 dX8_club_142 rfl rfl ?_
      refine zk_getR (pc := 143) dX8_club_143 flX8_53 rfl rfl ?_
      refine zk_iload_n (pc := 146) 2 dX8_club_146 rfl rfl ?_
      refine zk_iconst (pc := 147) (v := -1) dX8_club_147 (by decide) ?_
      refine zk_iastore (pc := 148) q dX8_club_148 rfl rfl (by omega) ?_
      refine zs_iinc (pc := 149) (ls' := [_, _, _]) dX8_club_149 rfl (nI_1 q) (by decide) rfl ?_
      refine zk_goto (pc := 152) 137 dX8_club_152 (by decide) ?_
      have e := ih (by omega)
      rw [← zfill_s] at e
      exact e
  have loop2 : ∀ (nu : Mem) (N : Nat), N ≤ 6 → nu 46 18 = nI N → ∀ q, q ≤ N → zk_M (d + 4) RX8 cX8_club 3 (some .int) none 86 [.ref 46, .int (nI k), .int (nI q)] [] (suM nu q) lm (zk_R (some (.int (nI N))) (zfill (zk_up (suM nu N) 46 24 0) 60 3 (-1)) lm) := by
    intro nu N hN6 hN
    refine zk_ind N (fun q hq ih => ?_)
    refine zk_iload_n (pc := 86) 2 dX8_club_86 rfl rfl ?_
    refine zk_aload_n (pc := 87) 0 dX8_club_87 rfl rfl ?_
    refine zk_getI (pc := 88) dX8_club_88 flX8_63 rfl rfl ?_
    refine zk_icmp_ge (pc := 91) 130 dX8_club_91 (by decide) (fun h91 => ?_) (fun h91 => ?_)
    · rw [suM_c _ _ (by decide) (by decide), hN, nIle (by omega) (by omega)] at h91
      refine zk_aload_n (pc := 130) 0 dX8_club_130 rfl rfl ?_
      refine zk_iconst (pc := 131) (v := 0) dX8_club_131 (by decide) ?_
      refine zk_putI (pc := 132) dX8_club_132 flX8_130 rfl rfl ?_
      refine zk_iconst (pc := 135) (v := 0) dX8_club_135 (by decide) ?_
      refine zs_istore_n (pc := 136) (ls' := [_, _, _]) 2 dX8_club_136 rfl (by decide) rfl ?_
      obtain rfl : q = N := by omega
      have e := loop3 (zk_up (suM nu q) 46 24 0) q (by rw [zup_k _ _ _ (by decide), suM_c _ _ (by decide) (by decide)]; exact hN) 0 (Nat.zero_le _)
      rw [zfill_0] at e
      exact e
    · rw [suM_c _ _ (by decide) (by decide), hN, nIle (by omega) (by omega)] at h91
      refine zk_aload_n (pc := 94) 0 dX8_club_94 rfl rfl ?_
      refine zk_getR (pc := 95) dX8_club_95 flX8_32 rfl rfl ?_
      refine zk_iload_n (pc := 98) 2 dX8_club_98 rfl rfl ?_
      refine zk_aload_n (pc := 99) 0 dX8_club_99 rfl rfl ?_
      refine zk_getR (pc := 100) dX8_club_100 flX8_29 rfl rfl ?_
      refine zk_iconst (pc := 103) (v := 2) dX8_club_103 (by decide) ?_
      refine zk_iload_n (pc := 104) 2 dX8_club_104 rfl rfl ?_
      refine zk_imul (pc := 105) dX8_club_105 ?_
      refine zk_iaload (pc := 106) (2 * q) dX8_club_106 rfl (by rw [show (2 : Int32) = nI 2 from rfl, pk_mul]) (by omega) ?_
      refine zk_iastore (pc := 107) q dX8_club_107 rfl rfl (by omega) ?_
      refine zk_aload_n (pc := 108) 0 dX8_club_108 rfl rfl ?_
      refine zk_getR (pc := 109) dX8_club_109 flX8_35 rfl rfl ?_
      refine zk_iload_n (pc := 112) 2 dX8_club_112 rfl rfl ?_
      refine zk_aload_n (pc := 113) 0 dX8_club_113 rfl rfl ?_
      refine zk_getR (pc := 114) dX8_club_114 flX8_29 rfl rfl ?_
      refine zk_iconst (pc := 117) (v := 2) dX8_club_117 (by decide) ?_
      refine zk_iload_n (pc := 118) 2 dX8_club_118 rfl rfl ?_
      refine zk_imul (pc := 119) dX8_club_119 ?_
      refine zk_iconst (pc := 120) (v := 1) dX8_club_120 (by decide) ?_
      refine zk_iadd (pc := 121) dX8_club_121 ?_
      refine zk_iaload (pc := 122) (2 * q + 1) dX8_club_122 rfl (by rw [show (2 : Int32) = nI 2 from rfl, pk_mul, nI_1]) (by omega) ?_
      refine zk_iastore (pc := 123) q dX8_club_123 rfl rfl (by omega) ?_
      refine zs_iinc (pc := 124) (ls' := [_, _, _]) dX8_club_124 rfl (nI_1 q) (by decide) rfl ?_
      refine zk_goto (pc := 127) 86 dX8_club_127 (by decide) ?_
      rw [zup_c _ _ _ (show (52 : Nat) ≠ 53 by decide), suM_c _ _ (show (52 : Nat) ≠ 53 by decide) (show (52 : Nat) ≠ 54 by decide)]
      have e := ih (by omega)
      rw [← suM_s] at e
      exact e
  have loop1 : ∀ (m3 : Mem) (N : Nat), N ≤ 6 → m3 46 14 = nI N → ∀ q, q ≤ 17 → zk_M (d + 4) RX8 cX8_club 3 (some .int) none 41 [.ref 46, .int (nI k), .int (nI q)] [] (zfill m3 55 q 0) lm (zk_R (some (.int (nI N))) (clbD m3 N) lm) := by
    intro m3 N hN6 hN
    refine zk_ind 17 (fun q hq ih => ?_)
    refine zk_iload_n (pc := 41) 2 dX8_club_41 rfl rfl ?_
    refine zk_bipush (pc := 42) (v := 17) dX8_club_42 (by decide) ?_
    refine zk_icmp_ge (pc := 44) 60 dX8_club_44 (by decide) (fun h44 => ?_) (fun h44 => ?_)
    · rw [show (17 : Int32) = nI 17 from rfl, nIle (by omega) (by omega)] at h44
      refine zk_aload_n (pc := 60) 0 dX8_club_60 rfl rfl ?_
      refine zk_aload_n (pc := 61) 0 dX8_club_61 rfl rfl ?_
      refine zk_getI (pc := 62) dX8_club_62 flX8_102 rfl rfl ?_
      refine zk_putI (pc := 65) dX8_club_65 flX8_127 rfl rfl ?_
      refine zk_aload_n (pc := 68) 0 dX8_club_68 rfl rfl ?_
      refine zk_aload_n (pc := 69) 0 dX8_club_69 rfl rfl ?_
      refine zk_getI (pc := 70) dX8_club_70 flX8_105 rfl rfl ?_
      refine zk_putI (pc := 73) dX8_club_73 flX8_70 rfl rfl ?_
      refine zk_aload_n (pc := 76) 0 dX8_club_76 rfl rfl ?_
      refine zk_aload_n (pc := 77) 0 dX8_club_77 rfl rfl ?_
      refine zk_getI (pc := 78) dX8_club_78 flX8_111 rfl rfl ?_
      refine zk_putI (pc := 81) dX8_club_81 flX8_63 rfl rfl ?_
      refine zk_iconst (pc := 84) (v := 0) dX8_club_84 (by decide) ?_
      refine zs_istore_n (pc := 85) (ls' := [_, _, _]) 2 dX8_club_85 rfl (by decide) rfl ?_
      obtain rfl : q = 17 := by omega
      rw [zup_k _ _ _ (show (14 : Nat) ≠ 17 by decide), zup_k _ _ _ (show (14 : Nat) ≠ 16 by decide), zup_k _ _ _ (show (13 : Nat) ≠ 16 by decide), zfill_c _ _ _ _ (show (46 : Nat) ≠ 55 by decide), zfill_c _ _ _ _ (show (46 : Nat) ≠ 55 by decide), zfill_c _ _ _ _ (show (46 : Nat) ≠ 55 by decide)]
      have e := loop2 (zk_up (zk_up (zk_up (zfill m3 55 17 0) 46 16 (m3 46 12)) 46 17 (m3 46 13)) 46 18 (m3 46 14)) N hN6 (by rw [zup_s]; exact hN) 0 (Nat.zero_le _)
      rw [suM_0] at e
      exact e
    · rw [show (17 : Int32) = nI 17 from rfl, nIle (by omega) (by omega)] at h44
      refine zk_aload_n (pc := 47) 0 dX8_club_47 rfl rfl ?_
      refine zk_getR (pc := 48) dX8_club_48 flX8_38 rfl rfl ?_
      refine zk_iload_n (pc := 51) 2 dX8_club_51 rfl rfl ?_
      refine zk_iconst (pc := 52) (v := 0) dX8_club_52 (by decide) ?_
      refine zk_iastore (pc := 53) q dX8_club_53 rfl rfl (by omega) ?_
      refine zs_iinc (pc := 54) (ls' := [_, _, _]) dX8_club_54 rfl (nI_1 q) (by decide) rfl ?_
      refine zk_goto (pc := 57) 41 dX8_club_57 (by decide) ?_
      have e := ih (by omega)
      rw [← zfill_s] at e
      exact e
  refine zk_iload_n (pc := 0) 1 dX8_club_0 rfl rfl ?_
  refine zk_iconst (pc := 1) (v := 0) dX8_club_1 (by decide) ?_
  refine zk_iconst (pc := 2) (v := 3) dX8_club_2 (by decide) ?_
  refine zk_callSI (pc := 3) dX8_club_3 mtX8_in lkX8_66 stX8_in [_, _, _] _ rfl rfl (Nat.le_of_ble_eq_true rfl) (Nat.le_of_ble_eq_true rfl) (sp_X8_in _ _ _) ?_
  refine zk_if_ne (pc := 6) 11 dX8_club_6 (by decide) (fun h6 => ?_) (fun h6 => ?_)
  · skip
    refine zk_aload_n (pc := 11) 0 dX8_club_11 rfl rfl ?_
    refine zk_getR (pc := 12) dX8_club_12 flX8_16 rfl rfl ?_
    refine zk_iload_n (pc := 15) 1 dX8_club_15 rfl rfl ?_
    refine zk_iaload (pc := 16) k dX8_club_16 rfl rfl hk ?_
    refine zk_if_ge (pc := 17) 26 dX8_club_17 (by decide) (fun h17 => ?_) (fun h17 => ?_)
    · skip
      refine zk_aload_n (pc := 26) 0 dX8_club_26 rfl rfl ?_
      refine zk_iload_n (pc := 27) 1 dX8_club_27 rfl rfl ?_
      refine zk_callV (pc := 28) dX8_club_28 mtX8_read lkX8_124 stX8_read (by rfl) (by rfl) [_] _ rfl rfl (Nat.le_of_ble_eq_true rfl) (Nat.le_of_ble_eq_true rfl) (sp_X8_read hk hn hn60) (fun r m3 l3 q3 => ?_)
      obtain ⟨rfl, rfl, g3, g4⟩ := q3
      refine zk_bipush (pc := 31) (v := -9) dX8_club_31 (by decide) ?_
      refine zk_icmp_eq (pc := 33) 39 dX8_club_33 (by decide) (fun h33 => ?_) (fun h33 => ?_)
      · skip
        refine zk_iconst (pc := 39) (v := 0) dX8_club_39 (by decide) ?_
        refine zs_istore_n (pc := 40) (ls' := [_, _, _]) 2 dX8_club_40 rfl (by decide) rfl ?_
        have hN6 := rdD_len hn60 h33
        have e := loop1 m3 (rdD (txF mu k) n).length hN6 (g4 h33).2.2.1 0 (Nat.zero_le _)
        rw [zfill_0] at e
        refine zk_post e ?_
        intro r m' l ⟨e1, e2, e3⟩
        exact ⟨e3, m3, ⟨rfl, rfl, g3, g4⟩, Or.inr ⟨h33, e1, e2⟩⟩
      · skip
        refine zk_bipush (pc := 36) (v := -4) dX8_club_36 (by decide) ?_
        exact zk_ireturn (pc := 38) dX8_club_38 (Or.inl rfl) ⟨rfl, m3, ⟨rfl, rfl, g3, g4⟩, Or.inl ⟨h33, rfl, rfl⟩⟩
    · rw [hn] at h17
      exact absurd (nI_pos' (by omega)) h17 --
  · rw [zb_e] at h6
    exact absurd (show (0 : Int32) ≤ nI k ∧ nI k ≤ 3 from ⟨nI_pos' (by omega), show nI k ≤ nI 3 from nI_le (by omega) (by decide)⟩) h6 --
def mTl (mu : Mem) (j : Nat) (w : Int32) : Int32 := if w = 0 then mu 53 j else if w = 1 then mu 54 j else if w = 2 then mu 55 (mu 54 j).toNatClampNeg else mu 55 (11 + j)
theorem sp_X8_memberTells {j q : Nat} (hj : j < 6) (hq : mu 54 j = nI q) (hq8 : q < 8) (w : Int32) : zk_M d RX8 cX8_memberTells 3 (some .int) none 0 (zk_loc [.ref 46, .int (nI j), .int w] 3) [] mu lm (zk_R (some (.int (mTl mu j w))) mu lm) := by
  refine zk_iload_n (pc := 0) 2 dX8_memberTells_0 rfl rfl ?_
  refine zk_if_ne (pc := 1) 13 dX8_memberTells_1 (by decide) (fun h1 => ?_) (fun h1 => ?_)
  · skip
    refine zk_iload_n (pc := 13) 2 dX8_memberTells_13 rfl rfl ?_
    refine zk_iconst (pc := 14) (v := 1) dX8_memberTells_14 (by decide) ?_
    refine zk_icmp_ne (pc := 15) 27 dX8_memberTells_15 (by decide) (fun h15 => ?_) (fun h15 => ?_)
    · skip
      refine zk_iload_n (pc := 27) 2 dX8_memberTells_27 rfl rfl ?_
      refine zk_iconst (pc := 28) (v := 2) dX8_memberTells_28 (by decide) ?_
      refine zk_icmp_ne (pc := 29) 46 dX8_memberTells_29 (by decide) (fun h29 => ?_) (fun h29 => ?_)
      · skip
        refine zk_aload_n (pc := 46) 0 dX8_memberTells_46 rfl rfl ?_
        refine zk_getR (pc := 47) dX8_memberTells_47 flX8_38 rfl rfl ?_
        refine zk_bipush (pc := 50) (v := 11) dX8_memberTells_50 (by decide) ?_
        refine zk_iload_n (pc := 52) 1 dX8_memberTells_52 rfl rfl ?_
        refine zk_iadd (pc := 53) dX8_memberTells_53 ?_
        refine zk_iaload (pc := 54) (11 + j) dX8_memberTells_54 rfl (nI_add 11 j) (by omega) ?_
        refine zk_ireturn (pc := 55) dX8_memberTells_55 (Or.inl rfl) ?_
        apply zk_ri; unfold mTl
        first | (rw [if_pos h1]; done) | (rw [if_neg h1, if_pos h15]; done) | (rw [if_neg h1, if_neg h15, if_pos h29, hq, nI_clamp (by omega)]; done) | rw [if_neg h1, if_neg h15, if_neg h29]
      · skip
        refine zk_aload_n (pc := 32) 0 dX8_memberTells_32 rfl rfl ?_
        refine zk_getR (pc := 33) dX8_memberTells_33 flX8_38 rfl rfl ?_
        refine zk_aload_n (pc := 36) 0 dX8_memberTells_36 rfl rfl ?_
        refine zk_getR (pc := 37) dX8_memberTells_37 flX8_35 rfl rfl ?_
        refine zk_iload_n (pc := 40) 1 dX8_memberTells_40 rfl rfl ?_
        refine zk_iaload (pc := 41) j dX8_memberTells_41 rfl rfl hj ?_
        refine zk_iaload (pc := 42) q dX8_memberTells_42 rfl hq (by omega) ?_
        refine zk_goto (pc := 43) 55 dX8_memberTells_43 (by decide) ?_
        refine zk_ireturn (pc := 55) dX8_memberTells_55 (Or.inl rfl) ?_
        apply zk_ri; unfold mTl
        first | (rw [if_pos h1]; done) | (rw [if_neg h1, if_pos h15]; done) | (rw [if_neg h1, if_neg h15, if_pos h29, hq, nI_clamp (by omega)]; done) | rw [if_neg h1, if_neg h15, if_neg h29]
    · skip
      refine zk_aload_n (pc := 18) 0 dX8_memberTells_18 rfl rfl ?_
      refine zk_getR (pc := 19) dX8_memberTells_19 flX8_35 rfl rfl ?_
      refine zk_iload_n (pc := 22) 1 dX8_memberTells_22 rfl rfl ?_
      refine zk_iaload (pc := 23) j dX8_memberTells_23 rfl rfl hj ?_
      refine zk_goto (pc := 24) 55 dX8_memberTells_24 (by decide) ?_
      refine zk_ireturn (pc := 55) dX8_memberTells_55 (Or.inl rfl) ?_
      apply zk_ri; unfold mTl
      first | (rw [if_pos h1]; done) | (rw [if_neg h1, if_pos h15]; done) | (rw [if_neg h1, if_neg h15, if_pos h29, hq, nI_clamp (by omega)]; done) | rw [if_neg h1, if_neg h15, if_neg h29]
  · skip
    refine zk_aload_n (pc := 4) 0 dX8_memberTells_4 rfl rfl ?_
    refine zk_getR (pc := 5) dX8_memberTells_5 flX8_32 rfl rfl ?_
    refine zk_iload_n (pc := 8) 1 dX8_memberTells_8 rfl rfl ?_
    refine zk_iaload (pc := 9) j dX8_memberTells_9 rfl rfl hj ?_
    refine zk_goto (pc := 10) 55 dX8_memberTells_10 (by decide) ?_
    refine zk_ireturn (pc := 55) dX8_memberTells_55 (Or.inl rfl) ?_
    apply zk_ri; unfold mTl
    first | (rw [if_pos h1]; done) | (rw [if_neg h1, if_pos h15]; done) | (rw [if_neg h1, if_neg h15, if_pos h29, hq, nI_clamp (by omega)]; done) | rw [if_neg h1, if_neg h15, if_neg h29]
def mMember (mu : Mem) (i w : Int32) : Int32 × Mem := if (0 ≤ i ∧ i < mu 46 18) ∧ (0 ≤ w ∧ w ≤ 3) then (1, zk_up mu 46 6 (mTl mu i.toNatClampNeg w)) else (-1, mu)
theorem sp_X8_member {C M : Nat} (hC : mu 46 17 = nI C) (hC8 : C ≤ 8) (hM : mu 46 18 = nI M) (hM6 : M ≤ 6) (hS : ∀ j, j < M → ∃ q, q < C ∧ mu 54 j = nI q) (i w : Int32) : zk_M (d + 2) RX8 cX8_member 3 (some .int) none 0 (zk_loc [.ref 46, .int i, .int w] 3) [] mu lm (zk_R (some (.int (mMember mu i w).1)) (mMember mu i w).2 lm) := by
  refine zk_aload_n (pc := 0) 0 dX8_member_0 rfl rfl ?_
  refine zk_iload_n (pc := 1) 1 dX8_member_1 rfl rfl ?_
  refine zk_callVI (pc := 2) dX8_member_2 mtX8_isOne lkX8_133 stX8_isOne (by rfl) (by rfl) [_] _ rfl rfl (Nat.le_of_ble_eq_true rfl) (Nat.le_of_ble_eq_true rfl) (sp_X8_isOne hM (by omega) _) ?_
  refine zk_if_eq (pc := 5) 30 dX8_member_5 (by decide) (fun h5 => ?_) (fun h5 => ?_)
  · rw [zb_e] at h5
    refine zk_iconst (pc := 30) (v := -1) dX8_member_30 (by decide) ?_
    refine zk_ireturn (pc := 31) dX8_member_31 (Or.inl rfl) (zk_pr ?_)
    unfold mMember
    first | rw [if_neg (fun q => h5 q.1)] | rw [if_neg (fun q => h14 q.2)] | rw [if_pos ⟨h5, h14⟩, nI_clamp (by omega)]
  · rw [zb_n] at h5
    refine zk_iload_n (pc := 8) 2 dX8_member_8 rfl rfl ?_
    refine zk_iconst (pc := 9) (v := 0) dX8_member_9 (by decide) ?_
    refine zk_iconst (pc := 10) (v := 3) dX8_member_10 (by decide) ?_
    refine zk_callSI (pc := 11) dX8_member_11 mtX8_in lkX8_66 stX8_in [_, _, _] _ rfl rfl (Nat.le_of_ble_eq_true rfl) (Nat.le_of_ble_eq_true rfl) (sp_X8_in _ _ _) ?_
    refine zk_if_eq (pc := 14) 30 dX8_member_14 (by decide) (fun h14 => ?_) (fun h14 => ?_)
    · rw [zb_e] at h14
      refine zk_iconst (pc := 30) (v := -1) dX8_member_30 (by decide) ?_
      refine zk_ireturn (pc := 31) dX8_member_31 (Or.inl rfl) (zk_pr ?_)
      unfold mMember
      first | rw [if_neg (fun q => h5 q.1)] | rw [if_neg (fun q => h14 q.2)] | rw [if_pos ⟨h5, h14⟩, nI_clamp (by omega)]
    · rw [zb_n] at h14
      obtain ⟨j, hj, rfl⟩ := zget h5 hM (by omega)
      obtain ⟨q, hq, hsq⟩ := hS j hj
      refine zk_aload_n (pc := 17) 0 dX8_member_17 rfl rfl ?_
      refine zk_aload_n (pc := 18) 0 dX8_member_18 rfl rfl ?_
      refine zk_iload_n (pc := 19) 1 dX8_member_19 rfl rfl ?_
      refine zk_iload_n (pc := 20) 2 dX8_member_20 rfl rfl ?_
      refine zk_callVI (pc := 21) dX8_member_21 mtX8_memberTells lkX8_137 stX8_memberTells (by rfl) (by rfl) [_, _] _ rfl rfl (Nat.le_of_ble_eq_true rfl) (Nat.le_of_ble_eq_true rfl) (sp_X8_memberTells (by omega) hsq (by omega) w) ?_
      refine zk_callVI (pc := 24) dX8_member_24 mtX8_tells lkX8_81 stX8_tells (by rfl) (by rfl) [_] _ rfl rfl (Nat.le_of_ble_eq_true rfl) (Nat.le_of_ble_eq_true rfl) (sp_X8_tells _) ?_
      refine zk_goto (pc := 27) 31 dX8_member_27 (by decide) ?_
      refine zk_ireturn (pc := 31) dX8_member_31 (Or.inl rfl) (zk_pr ?_)
      unfold mMember
      first | rw [if_neg (fun q => h5 q.1)] | rw [if_neg (fun q => h14 q.2)] | rw [if_pos ⟨h5, h14⟩, nI_clamp (by omega)]
def mSmoke (mu : Mem) (c : Int32) : Int32 := if 0 ≤ c ∧ c < mu 46 17 then mu 55 c.toNatClampNeg else -1
theorem sp_X8_smoke {C M : Nat} (hC : mu 46 17 = nI C) (hC8 : C ≤ 8) (hM : mu 46 18 = nI M) (hM6 : M ≤ 6) (i : Int32) : zk_M (d + 2) RX8 cX8_smoke 2 (some .int) none 0 (zk_loc [.ref 46, .int i] 2) [] mu lm (zk_R (some (.int (mSmoke mu i))) mu lm) := by
  refine zk_aload_n (pc := 0) 0 dX8_smoke_0 rfl rfl ?_
  refine zk_iload_n (pc := 1) 1 dX8_smoke_1 rfl rfl ?_
  refine zk_callVI (pc := 2) dX8_smoke_2 mtX8_isCell lkX8_156 stX8_isCell (by rfl) (by rfl) [_] _ rfl rfl (Nat.le_of_ble_eq_true rfl) (Nat.le_of_ble_eq_true rfl) (sp_X8_isCell hC hC8 _) ?_
  refine zk_if_eq (pc := 5) 17 dX8_smoke_5 (by decide) (fun h5 => ?_) (fun h5 => ?_)
  · rw [zb_e] at h5
    refine zk_iconst (pc := 17) (v := -1) dX8_smoke_17 (by decide) ?_
    refine zk_ireturn (pc := 18) dX8_smoke_18 (Or.inl rfl) (zk_ri ?_)
    unfold mSmoke
    first | rw [if_neg h5] | rw [if_pos h5, nI_clamp (by omega)]
  · rw [zb_n] at h5
    obtain ⟨c, hc, rfl⟩ := zget h5 hC (by omega)
    refine zk_aload_n (pc := 8) 0 dX8_smoke_8 rfl rfl ?_
    refine zk_getR (pc := 9) dX8_smoke_9 flX8_38 rfl rfl ?_
    refine zk_iload_n (pc := 12) 1 dX8_smoke_12 rfl rfl ?_
    refine zk_iaload (pc := 13) c dX8_smoke_13 rfl rfl (by omega) ?_
    refine zk_goto (pc := 14) 18 dX8_smoke_14 (by decide) ?_
    refine zk_ireturn (pc := 18) dX8_smoke_18 (Or.inl rfl) (zk_ri ?_)
    unfold mSmoke
    first | rw [if_neg h5] | rw [if_pos h5, nI_clamp (by omega)]
def mSays (mu : Mem) (i v : Int32) : Int32 := if (0 ≤ i ∧ i < mu 46 18) ∧ (0 ≤ v ∧ v ≤ 99) then kSay (mu 53 i.toNatClampNeg) v else -1
theorem sp_X8_says {C M : Nat} (hC : mu 46 17 = nI C) (hC8 : C ≤ 8) (hM : mu 46 18 = nI M) (hM6 : M ≤ 6) (i v : Int32) : zk_M (d + 2) RX8 cX8_says 3 (some .int) none 0 (zk_loc [.ref 46, .int i, .int v] 3) [] mu lm (zk_R (some (.int (mSays mu i v))) mu lm) := by
  refine zk_aload_n (pc := 0) 0 dX8_says_0 rfl rfl ?_
  refine zk_iload_n (pc := 1) 1 dX8_says_1 rfl rfl ?_
  refine zk_callVI (pc := 2) dX8_says_2 mtX8_isOne lkX8_133 stX8_isOne (by rfl) (by rfl) [_] _ rfl rfl (Nat.le_of_ble_eq_true rfl) (Nat.le_of_ble_eq_true rfl) (sp_X8_isOne hM (by omega) _) ?_
  refine zk_if_eq (pc := 5) 31 dX8_says_5 (by decide) (fun h5 => ?_) (fun h5 => ?_)
  · rw [zb_e] at h5
    refine zk_iconst (pc := 31) (v := -1) dX8_says_31 (by decide) ?_
    refine zk_ireturn (pc := 32) dX8_says_32 (Or.inl rfl) (zk_ri ?_)
    unfold mSays
    first | rw [if_neg (fun q => h5 q.1)] | rw [if_neg (fun q => h15 q.2)] | rw [if_pos ⟨h5, h15⟩, nI_clamp (by omega)]
  · rw [zb_n] at h5
    obtain ⟨j, hj, rfl⟩ := zget h5 hM (by omega)
    refine zk_iload_n (pc := 8) 2 dX8_says_8 rfl rfl ?_
    refine zk_iconst (pc := 9) (v := 0) dX8_says_9 (by decide) ?_
    refine zk_bipush (pc := 10) (v := 99) dX8_says_10 (by decide) ?_
    refine zk_callSI (pc := 12) dX8_says_12 mtX8_in lkX8_66 stX8_in [_, _, _] _ rfl rfl (Nat.le_of_ble_eq_true rfl) (Nat.le_of_ble_eq_true rfl) (sp_X8_in _ _ _) ?_
    refine zk_if_eq (pc := 15) 31 dX8_says_15 (by decide) (fun h15 => ?_) (fun h15 => ?_)
    · rw [zb_e] at h15
      refine zk_iconst (pc := 31) (v := -1) dX8_says_31 (by decide) ?_
      refine zk_ireturn (pc := 32) dX8_says_32 (Or.inl rfl) (zk_ri ?_)
      unfold mSays
      first | rw [if_neg (fun q => h5 q.1)] | rw [if_neg (fun q => h15 q.2)] | rw [if_pos ⟨h5, h15⟩, nI_clamp (by omega)]
    · rw [zb_n] at h15
      refine zk_aload_n (pc := 18) 0 dX8_says_18 rfl rfl ?_
      refine zk_getR (pc := 19) dX8_says_19 flX8_32 rfl rfl ?_
      refine zk_iload_n (pc := 22) 1 dX8_says_22 rfl rfl ?_
      refine zk_iaload (pc := 23) j dX8_says_23 rfl rfl (by omega) ?_
      refine zk_iload_n (pc := 24) 2 dX8_says_24 rfl rfl ?_
      refine zk_callSI (pc := 25) dX8_says_25 mtX8_saysBy lkX8_140 stX8_saysBy [_, _] _ rfl rfl (Nat.le_of_ble_eq_true rfl) (Nat.le_of_ble_eq_true rfl) (sp_X8_saysBy _ _) ?_
      refine zk_goto (pc := 28) 32 dX8_says_28 (by decide) ?_
      refine zk_ireturn (pc := 32) dX8_says_32 (Or.inl rfl) (zk_ri ?_)
      unfold mSays
      first | rw [if_neg (fun q => h5 q.1)] | rw [if_neg (fun q => h15 q.2)] | rw [if_pos ⟨h5, h15⟩, nI_clamp (by omega)]
def mBreathes (mu : Mem) (i v : Int32) : Int32 := if (0 ≤ i ∧ i < mu 46 18) ∧ (0 ≤ v ∧ v ≤ 99) then v - kSay (mu 53 i.toNatClampNeg) v else -1
theorem sp_X8_breathes {C M : Nat} (hC : mu 46 17 = nI C) (hC8 : C ≤ 8) (hM : mu 46 18 = nI M) (hM6 : M ≤ 6) (i v : Int32) : zk_M (d + 2) RX8 cX8_breathes 3 (some .int) none 0 (zk_loc [.ref 46, .int i, .int v] 3) [] mu lm (zk_R (some (.int (mBreathes mu i v))) mu lm) := by
  refine zk_aload_n (pc := 0) 0 dX8_breathes_0 rfl rfl ?_
  refine zk_iload_n (pc := 1) 1 dX8_breathes_1 rfl rfl ?_
  refine zk_callVI (pc := 2) dX8_breathes_2 mtX8_isOne lkX8_133 stX8_isOne (by rfl) (by rfl) [_] _ rfl rfl (Nat.le_of_ble_eq_true rfl) (Nat.le_of_ble_eq_true rfl) (sp_X8_isOne hM (by omega) _) ?_
  refine zk_if_eq (pc := 5) 27 dX8_breathes_5 (by decide) (fun h5 => ?_) (fun h5 => ?_)
  · rw [zb_e] at h5
    refine zk_iconst (pc := 27) (v := -1) dX8_breathes_27 (by decide) ?_
    refine zk_ireturn (pc := 28) dX8_breathes_28 (Or.inl rfl) (zk_ri ?_)
    unfold mBreathes
    first | rw [if_neg (fun q => h5 q.1)] | rw [if_neg (fun q => h15 q.2)] | rw [if_pos ⟨h5, h15⟩, nI_clamp (by omega)]
  · rw [zb_n] at h5
    obtain ⟨j, hj, rfl⟩ := zget h5 hM (by omega)
    refine zk_iload_n (pc := 8) 2 dX8_breathes_8 rfl rfl ?_
    refine zk_iconst (pc := 9) (v := 0) dX8_breathes_9 (by decide) ?_
    refine zk_bipush (pc := 10) (v := 99) dX8_breathes_10 (by decide) ?_
    refine zk_callSI (pc := 12) dX8_breathes_12 mtX8_in lkX8_66 stX8_in [_, _, _] _ rfl rfl (Nat.le_of_ble_eq_true rfl) (Nat.le_of_ble_eq_true rfl) (sp_X8_in _ _ _) ?_
    refine zk_if_eq (pc := 15) 27 dX8_breathes_15 (by decide) (fun h15 => ?_) (fun h15 => ?_)
    · rw [zb_e] at h15
      refine zk_iconst (pc := 27) (v := -1) dX8_breathes_27 (by decide) ?_
      refine zk_ireturn (pc := 28) dX8_breathes_28 (Or.inl rfl) (zk_ri ?_)
      unfold mBreathes
      first | rw [if_neg (fun q => h5 q.1)] | rw [if_neg (fun q => h15 q.2)] | rw [if_pos ⟨h5, h15⟩, nI_clamp (by omega)]
    · rw [zb_n] at h15
      refine zk_aload_n (pc := 18) 0 dX8_breathes_18 rfl rfl ?_
      refine zk_iload_n (pc := 19) 1 dX8_breathes_19 rfl rfl ?_
      refine zk_iload_n (pc := 20) 2 dX8_breathes_20 rfl rfl ?_
      refine zk_callVI (pc := 21) dX8_breathes_21 mtX8_breath lkX8_153 stX8_breath (by rfl) (by rfl) [_, _] _ rfl rfl (Nat.le_of_ble_eq_true rfl) (Nat.le_of_ble_eq_true rfl) (sp_X8_breath (by omega) _) ?_
      refine zk_goto (pc := 24) 28 dX8_breathes_24 (by decide) ?_
      refine zk_ireturn (pc := 28) dX8_breathes_28 (Or.inl rfl) (zk_ri ?_)
      unfold mBreathes
      first | rw [if_neg (fun q => h5 q.1)] | rw [if_neg (fun q => h15 q.2)] | rw [if_pos ⟨h5, h15⟩, nI_clamp (by omega)]
theorem sp_X8_least {C M : Nat} (hC : mu 46 17 = nI C) (hC8 : C ≤ 8) (hM : mu 46 18 = nI M) (hM6 : M ≤ 6) {j : Nat} (hj : j < M) {b : Int32} (hb : 0 ≤ b ∧ b ≤ 99) : zk_M (d + 2) RX8 cX8_least 4 (some .int) none 0 (zk_loc [.ref 46, .int (nI j), .int b] 4) [] mu lm (zk_R (some (.int (zfst (fun v => decide (b ≤ nI v - kSay (mu 53 j) (nI v))) (-9) 100 0))) mu lm) := by
  have hm : 0 ≤ nI j ∧ nI j < mu 46 18 := ⟨nI_pos' (by omega), by rw [hM, nIlt (by omega) (by omega)]; exact hj⟩
  have loop : ∀ k, k ≤ 100 → zk_M (d + 2) RX8 cX8_least 4 (some .int) none 22 [.ref 46, .int (nI j), .int b, .int (nI k)] [] mu lm (zk_R (some (.int (zfst (fun v => decide (b ≤ nI v - kSay (mu 53 j) (nI v))) (-9) (100 - k) k))) mu lm) := by
    refine zk_ind 100 (fun k hk ih => ?_)
    refine zk_iload_n (pc := 22) 3 dX8_least_22 rfl rfl ?_
    refine zk_bipush (pc := 23) (v := 100) dX8_least_23 (by decide) ?_
    refine zk_icmp_ge (pc := 25) 46 dX8_least_25 (by decide) (fun h25 => ?_) (fun h25 => ?_)
    · rw [show (100 : Int32) = nI 100 from rfl, nIle (by omega) (by omega)] at h25
      refine zk_bipush (pc := 46) (v := -9) dX8_least_46 (by decide) ?_
      refine zk_ireturn (pc := 48) dX8_least_48 (Or.inl rfl) (zk_ri ?_)
      rw [show 100 - k = 0 by omega]; rfl
    · rw [show (100 : Int32) = nI 100 from rfl, nIle (by omega) (by omega)] at h25
      refine zk_aload_n (pc := 28) 0 dX8_least_28 rfl rfl ?_
      refine zk_iload_n (pc := 29) 1 dX8_least_29 rfl rfl ?_
      refine zk_iload_n (pc := 30) 3 dX8_least_30 rfl rfl ?_
      refine zk_callVI (pc := 31) dX8_least_31 mtX8_breath lkX8_153 stX8_breath (by rfl) (by rfl) [_, _] _ rfl rfl (Nat.le_of_ble_eq_true rfl) (Nat.le_of_ble_eq_true rfl) (sp_X8_breath (by omega) _) ?_
      refine zk_iload_n (pc := 34) 2 dX8_least_34 rfl rfl ?_
      refine zk_icmp_lt (pc := 35) 40 dX8_least_35 (by decide) (fun h35 => ?_) (fun h35 => ?_)
      · skip
        refine zs_iinc (pc := 40) (ls' := [_, _, _, _]) dX8_least_40 rfl (nI_1 k) (by decide) rfl ?_
        refine zk_goto (pc := 43) 22 dX8_least_43 (by decide) ?_
        rw [show 100 - k = (100 - (k + 1)) + 1 by omega, zfst_f (decide_eq_false (by simp only [zlt, zle] at *; omega))]
        exact ih (by omega)
      · skip
        refine zk_iload_n (pc := 38) 3 dX8_least_38 rfl rfl ?_
        refine zk_ireturn (pc := 39) dX8_least_39 (Or.inl rfl) (zk_ri ?_)
        rw [show 100 - k = (100 - (k + 1)) + 1 by omega, zfst_t (decide_eq_true (by simp only [zlt, zle] at *; omega))]
  refine zk_aload_n (pc := 0) 0 dX8_least_0 rfl rfl ?_
  refine zk_iload_n (pc := 1) 1 dX8_least_1 rfl rfl ?_
  refine zk_callVI (pc := 2) dX8_least_2 mtX8_isOne lkX8_133 stX8_isOne (by rfl) (by rfl) [_] _ rfl rfl (Nat.le_of_ble_eq_true rfl) (Nat.le_of_ble_eq_true rfl) (sp_X8_isOne hM (by omega) _) ?_
  refine zk_if_eq (pc := 5) 18 dX8_least_5 (by decide) (fun h5 => ?_) (fun h5 => ?_)
  · rw [zb_e] at h5
    exact absurd hm h5 --
  · skip
    refine zk_iload_n (pc := 8) 2 dX8_least_8 rfl rfl ?_
    refine zk_iconst (pc := 9) (v := 0) dX8_least_9 (by decide) ?_
    refine zk_bipush (pc := 10) (v := 99) dX8_least_10 (by decide) ?_
    refine zk_callSI (pc := 12) dX8_least_12 mtX8_in lkX8_66 stX8_in [_, _, _] _ rfl rfl (Nat.le_of_ble_eq_true rfl) (Nat.le_of_ble_eq_true rfl) (sp_X8_in _ _ _) ?_
    refine zk_if_ne (pc := 15) 20 dX8_least_15 (by decide) (fun h15 => ?_) (fun h15 => ?_)
    · skip
      refine zk_iconst (pc := 20) (v := 0) dX8_least_20 (by decide) ?_
      refine zs_istore_n (pc := 21) (ls' := [_, _, _, _]) 3 dX8_least_21 rfl (by decide) rfl ?_
      exact loop 0 (Nat.zero_le _)
    · rw [zb_e] at h15
      exact absurd hb h15 --
theorem sp_X8_least_n {M : Nat} (hM : mu 46 18 = nI M) (hM6 : M ≤ 6) (i v : Int32) (hb : ¬ ((0 ≤ i ∧ i < mu 46 18) ∧ (0 ≤ v ∧ v ≤ 99))) : zk_M (d + 2) RX8 cX8_least 4 (some .int) none 0 (zk_loc [.ref 46, .int i, .int v] 4) [] mu lm (zk_R (some (.int (-1))) mu lm) := by
  refine zk_aload_n (pc := 0) 0 dX8_least_0 rfl rfl ?_
  refine zk_iload_n (pc := 1) 1 dX8_least_1 rfl rfl ?_
  refine zk_callVI (pc := 2) dX8_least_2 mtX8_isOne lkX8_133 stX8_isOne (by rfl) (by rfl) [_] _ rfl rfl (Nat.le_of_ble_eq_true rfl) (Nat.le_of_ble_eq_true rfl) (sp_X8_isOne hM (by omega) _) ?_
  refine zk_if_eq (pc := 5) 18 dX8_least_5 (by decide) (fun h5 => ?_) (fun h5 => ?_)
  · rw [zb_e] at h5
    refine zk_iconst (pc := 18) (v := -1) dX8_least_18 (by decide) ?_
    exact zk_ireturn (pc := 19) dX8_least_19 (Or.inl rfl) (zk_ri rfl)
  · rw [zb_n] at h5
    refine zk_iload_n (pc := 8) 2 dX8_least_8 rfl rfl ?_
    refine zk_iconst (pc := 9) (v := 0) dX8_least_9 (by decide) ?_
    refine zk_bipush (pc := 10) (v := 99) dX8_least_10 (by decide) ?_
    refine zk_callSI (pc := 12) dX8_least_12 mtX8_in lkX8_66 stX8_in [_, _, _] _ rfl rfl (Nat.le_of_ble_eq_true rfl) (Nat.le_of_ble_eq_true rfl) (sp_X8_in _ _ _) ?_
    refine zk_if_ne (pc := 15) 20 dX8_least_15 (by decide) (fun h15 => ?_) (fun h15 => ?_)
    · rw [zb_n] at h15
      exact absurd ⟨h5, h15⟩ hb --
    · rw [zb_e] at h15
      refine zk_iconst (pc := 18) (v := -1) dX8_least_18 (by decide) ?_
      exact zk_ireturn (pc := 19) dX8_least_19 (Or.inl rfl) (zk_ri rfl)
theorem sp_X8_means_n {M : Nat} (hM : mu 46 18 = nI M) (hM6 : M ≤ 6) (i v : Int32) (hb : ¬ ((0 ≤ i ∧ i < mu 46 18) ∧ (0 ≤ v ∧ v ≤ 99))) : zk_M (d + 2) RX8 cX8_means 6 (some .int) none 0 (zk_loc [.ref 46, .int i, .int v] 6) [] mu lm (zk_R (some (.int (-1))) mu lm) := by
  refine zk_aload_n (pc := 0) 0 dX8_means_0 rfl rfl ?_
  refine zk_iload_n (pc := 1) 1 dX8_means_1 rfl rfl ?_
  refine zk_callVI (pc := 2) dX8_means_2 mtX8_isOne lkX8_133 stX8_isOne (by rfl) (by rfl) [_] _ rfl rfl (Nat.le_of_ble_eq_true rfl) (Nat.le_of_ble_eq_true rfl) (sp_X8_isOne hM (by omega) _) ?_
  refine zk_if_eq (pc := 5) 18 dX8_means_5 (by decide) (fun h5 => ?_) (fun h5 => ?_)
  · rw [zb_e] at h5
    refine zk_iconst (pc := 18) (v := -1) dX8_means_18 (by decide) ?_
    exact zk_ireturn (pc := 19) dX8_means_19 (Or.inl rfl) (zk_ri rfl)
  · rw [zb_n] at h5
    refine zk_iload_n (pc := 8) 2 dX8_means_8 rfl rfl ?_
    refine zk_iconst (pc := 9) (v := 0) dX8_means_9 (by decide) ?_
    refine zk_bipush (pc := 10) (v := 99) dX8_means_10 (by decide) ?_
    refine zk_callSI (pc := 12) dX8_means_12 mtX8_in lkX8_66 stX8_in [_, _, _] _ rfl rfl (Nat.le_of_ble_eq_true rfl) (Nat.le_of_ble_eq_true rfl) (sp_X8_in _ _ _) ?_
    refine zk_if_ne (pc := 15) 20 dX8_means_15 (by decide) (fun h15 => ?_) (fun h15 => ?_)
    · rw [zb_n] at h15
      exact absurd ⟨h5, h15⟩ hb --
    · rw [zb_e] at h15
      refine zk_iconst (pc := 18) (v := -1) dX8_means_18 (by decide) ?_
      exact zk_ireturn (pc := 19) dX8_means_19 (Or.inl rfl) (zk_ri rfl)
theorem sp_X8_talk_n {M : Nat} (hM : mu 46 18 = nI M) (hM6 : M ≤ 6) (i v : Int32) (hb : ¬ ((0 ≤ i ∧ i < mu 46 18) ∧ (0 ≤ v ∧ v ≤ 99))) : zk_M (d + 2) RX8 cX8_talk 3 (some .int) none 0 (zk_loc [.ref 46, .int i, .int v] 3) [] mu lm (zk_R (some (.int (-1))) mu lm) := by
  refine zk_aload_n (pc := 0) 0 dX8_talk_0 rfl rfl ?_
  refine zk_iload_n (pc := 1) 1 dX8_talk_1 rfl rfl ?_
  refine zk_callVI (pc := 2) dX8_talk_2 mtX8_isOne lkX8_133 stX8_isOne (by rfl) (by rfl) [_] _ rfl rfl (Nat.le_of_ble_eq_true rfl) (Nat.le_of_ble_eq_true rfl) (sp_X8_isOne hM (by omega) _) ?_
  refine zk_if_eq (pc := 5) 18 dX8_talk_5 (by decide) (fun h5 => ?_) (fun h5 => ?_)
  · rw [zb_e] at h5
    refine zk_iconst (pc := 18) (v := -1) dX8_talk_18 (by decide) ?_
    exact zk_ireturn (pc := 19) dX8_talk_19 (Or.inl rfl) (zk_ri rfl)
  · rw [zb_n] at h5
    refine zk_iload_n (pc := 8) 2 dX8_talk_8 rfl rfl ?_
    refine zk_iconst (pc := 9) (v := 0) dX8_talk_9 (by decide) ?_
    refine zk_bipush (pc := 10) (v := 99) dX8_talk_10 (by decide) ?_
    refine zk_callSI (pc := 12) dX8_talk_12 mtX8_in lkX8_66 stX8_in [_, _, _] _ rfl rfl (Nat.le_of_ble_eq_true rfl) (Nat.le_of_ble_eq_true rfl) (sp_X8_in _ _ _) ?_
    refine zk_if_ne (pc := 15) 20 dX8_talk_15 (by decide) (fun h15 => ?_) (fun h15 => ?_)
    · rw [zb_n] at h15
      exact absurd ⟨h5, h15⟩ hb --
    · rw [zb_e] at h15
      refine zk_iconst (pc := 18) (v := -1) dX8_talk_18 (by decide) ?_
      exact zk_ireturn (pc := 19) dX8_talk_19 (Or.inl rfl) (zk_ri rfl)
/-- a sum from k on, m of them -/
def zsumF (f : Nat → Int32) : Nat → Nat → Int32
  | 0, _ => 0
  | m + 1, k => zsumF f m (k + 1) + f k
theorem zsumF_all (f : Nat → Int32) : ∀ m k, zsum k f + zsumF f m k = zsum (k + m) f
  | 0, k => by rw [zsumF, Int32.add_zero]; rfl
  | m + 1, k => by
    rw [zsumF, show k + (m + 1) = (k + 1) + m by omega, ← zsumF_all f m (k + 1), zsum_s, Int32.add_assoc, Int32.add_comm (f k)]
theorem sp_X8_means {C M : Nat} (hC : mu 46 17 = nI C) (hC8 : C ≤ 8) (hM : mu 46 18 = nI M) (hM6 : M ≤ 6) {j : Nat} (hj : j < M) {s : Int32} (hb : 0 ≤ s ∧ s ≤ 99) : zk_M (d + 2) RX8 cX8_means 6 (some .int) none 0 (zk_loc [.ref 46, .int (nI j), .int s] 6) [] mu lm (zk_R (some (.int (zsum 100 (fun v => zb (kSay (mu 53 j) (nI v) = s))))) (zk_up mu 46 6 (zfst (fun v => decide (kSay (mu 53 j) (nI v) = s)) (-9) 100 0)) lm) := by
  have hm : 0 ≤ nI j ∧ nI j < mu 46 18 := ⟨nI_pos' (by omega), by rw [hM, nIlt (by omega) (by omega)]; exact hj⟩
  have loop : ∀ k, k ≤ 100 → zk_M (d + 2) RX8 cX8_means 6 (some .int) none 30 [.ref 46, .int (nI j), .int s, .int (zsumF (fun v => zb (kSay (mu 53 j) (nI v) = s)) (100 - k) k), .int (zfst (fun v => decide (kSay (mu 53 j) (nI v) = s)) (-9) (100 - k) k), .int (nI k - 1)] [] mu lm (zk_R (some (.int (zsum 100 (fun v => zb (kSay (mu 53 j) (nI v) = s))))) (zk_up mu 46 6 (zfst (fun v => decide (kSay (mu 53 j) (nI v) = s)) (-9) 100 0)) lm) := by
    refine zk_dn (fun k ih => ?_)
    intro hk
    refine zk_iload (pc := 30) dX8_means_30 rfl ?_
    refine zk_if_lt (pc := 32) 88 dX8_means_32 (by decide) (fun h32 => ?_) (fun h32 => ?_)
    · rw [zm_lt (by omega)] at h32
      subst h32
      refine zk_aload_n (pc := 88) 0 dX8_means_88 rfl rfl ?_
      refine zk_iload (pc := 89) dX8_means_89 rfl ?_
      refine zk_callVI (pc := 91) dX8_means_91 mtX8_tells lkX8_81 stX8_tells (by rfl) (by rfl) [_] _ rfl rfl (Nat.le_of_ble_eq_true rfl) (Nat.le_of_ble_eq_true rfl) (sp_X8_tells _) ?_
      refine zk_pop (pc := 94) dX8_means_94 rfl ?_
      refine zk_iload_n (pc := 95) 3 dX8_means_95 rfl rfl ?_
      refine zk_ireturn (pc := 96) dX8_means_96 (Or.inl rfl) (zk_rm ?_ rfl rfl)
      have e := zsumF_all (fun v => zb (kSay (mu 53 j) (nI v) = s)) 100 0
      rw [show zsum 0 (fun v => zb (kSay (mu 53 j) (nI v) = s)) = 0 from rfl, Int32.zero_add, Nat.zero_add] at e
      exact e
    · rw [zm_lt (by omega)] at h32
      obtain ⟨z, rfl⟩ : ∃ z, k = z + 1 := ⟨k - 1, by omega⟩
      rw [nI_pred]
      refine zk_iload_n (pc := 35) 3 dX8_means_35 rfl rfl ?_
      refine zk_aload_n (pc := 36) 0 dX8_means_36 rfl rfl ?_
      refine zk_getR (pc := 37) dX8_means_37 flX8_32 rfl rfl ?_
      refine zk_iload_n (pc := 40) 1 dX8_means_40 rfl rfl ?_
      refine zk_iaload (pc := 41) j dX8_means_41 rfl rfl (by omega) ?_
      refine zk_iload (pc := 42) dX8_means_42 rfl ?_
      refine zk_callSI (pc := 44) dX8_means_44 mtX8_saysBy lkX8_140 stX8_saysBy [_, _] _ rfl rfl (Nat.le_of_ble_eq_true rfl) (Nat.le_of_ble_eq_true rfl) (sp_X8_saysBy _ _) ?_
      refine zk_iload_n (pc := 47) 2 dX8_means_47 rfl rfl ?_
      refine zk_icmp_ne (pc := 48) 55 dX8_means_48 (by decide) (fun h48 => ?_) (fun h48 => ?_)
      · skip
        refine zk_iconst (pc := 55) (v := 0) dX8_means_55 (by decide) ?_
        refine zk_iadd (pc := 56) dX8_means_56 ?_
        refine zs_istore_n (pc := 57) (ls' := [_, _, _, _, _, _]) 3 dX8_means_57 rfl (by decide) rfl ?_
        refine zk_aload_n (pc := 58) 0 dX8_means_58 rfl rfl ?_
        refine zk_getR (pc := 59) dX8_means_59 flX8_32 rfl rfl ?_
        refine zk_iload_n (pc := 62) 1 dX8_means_62 rfl rfl ?_
        refine zk_iaload (pc := 63) j dX8_means_63 rfl rfl (by omega) ?_
        refine zk_iload (pc := 64) dX8_means_64 rfl ?_
        refine zk_callSI (pc := 66) dX8_means_66 mtX8_saysBy lkX8_140 stX8_saysBy [_, _] _ rfl rfl (Nat.le_of_ble_eq_true rfl) (Nat.le_of_ble_eq_true rfl) (sp_X8_saysBy _ _) ?_
        refine zk_iload_n (pc := 69) 2 dX8_means_69 rfl rfl ?_
        refine zk_icmp_ne (pc := 70) 78 dX8_means_70 (by decide) (fun h70 => ?_) (fun h70 => ?_)
        · skip
          refine zk_iload (pc := 78) dX8_means_78 rfl ?_
          refine zs_istore (pc := 80) (ls' := [_, _, _, _, _, _]) 4 dX8_means_80 (by decide) rfl ?_
          refine zs_iinc (pc := 82) (ls' := [_, _, _, _, _, _]) dX8_means_82 rfl (show nI z + Int32.ofInt (-1) = nI z - 1 from by rw [Int32.sub_eq_add_neg]; rfl) (by decide) rfl ?_
          refine zk_goto (pc := 85) 30 dX8_means_85 (by decide) ?_
          have e := ih z rfl (by omega)
          rw [show 100 - z = (100 - (z + 1)) + 1 by omega] at e
          rw [show ∀ f : Nat → Int32, ∀ m k, zsumF f (m + 1) k = zsumF f m (k + 1) + f k from fun _ _ _ => rfl] at e
          first
            | exact absurd h48 h70
            | exact absurd h70 h48
            | (rw [zb_f h48, zfst_f (decide_eq_false h70)] at e; exact e)
            | (rw [zb_t h48, zfst_t (decide_eq_true h70)] at e; exact e)
        · skip
          refine zk_iload (pc := 73) dX8_means_73 rfl ?_
          refine zk_goto (pc := 75) 80 dX8_means_75 (by decide) ?_
          refine zs_istore (pc := 80) (ls' := [_, _, _, _, _, _]) 4 dX8_means_80 (by decide) rfl ?_
          refine zs_iinc (pc := 82) (ls' := [_, _, _, _, _, _]) dX8_means_82 rfl (show nI z + Int32.ofInt (-1) = nI z - 1 from by rw [Int32.sub_eq_add_neg]; rfl) (by decide) rfl ?_
          refine zk_goto (pc := 85) 30 dX8_means_85 (by decide) ?_
          have e := ih z rfl (by omega)
          rw [show 100 - z = (100 - (z + 1)) + 1 by omega] at e
          rw [show ∀ f : Nat → Int32, ∀ m k, zsumF f (m + 1) k = zsumF f m (k + 1) + f k from fun _ _ _ => rfl] at e
          first
            | exact absurd h48 h70
            | exact absurd h70 h48
            | (rw [zb_f h48, zfst_f (decide_eq_false h70)] at e; exact e)
            | (rw [zb_t h48, zfst_t (decide_eq_true h70)] at e; exact e)
      · skip
        refine zk_iconst (pc := 51) (v := 1) dX8_means_51 (by decide) ?_
        refine zk_goto (pc := 52) 56 dX8_means_52 (by decide) ?_
        refine zk_iadd (pc := 56) dX8_means_56 ?_
        refine zs_istore_n (pc := 57) (ls' := [_, _, _, _, _, _]) 3 dX8_means_57 rfl (by decide) rfl ?_
        refine zk_aload_n (pc := 58) 0 dX8_means_58 rfl rfl ?_
        refine zk_getR (pc := 59) dX8_means_59 flX8_32 rfl rfl ?_
        refine zk_iload_n (pc := 62) 1 dX8_means_62 rfl rfl ?_
        refine zk_iaload (pc := 63) j dX8_means_63 rfl rfl (by omega) ?_
        refine zk_iload (pc := 64) dX8_means_64 rfl ?_
        refine zk_callSI (pc := 66) dX8_means_66 mtX8_saysBy lkX8_140 stX8_saysBy [_, _] _ rfl rfl (Nat.le_of_ble_eq_true rfl) (Nat.le_of_ble_eq_true rfl) (sp_X8_saysBy _ _) ?_
        refine zk_iload_n (pc := 69) 2 dX8_means_69 rfl rfl ?_
        refine zk_icmp_ne (pc := 70) 78 dX8_means_70 (by decide) (fun h70 => ?_) (fun h70 => ?_)
        · skip
          refine zk_iload (pc := 78) dX8_means_78 rfl ?_
          refine zs_istore (pc := 80) (ls' := [_, _, _, _, _, _]) 4 dX8_means_80 (by decide) rfl ?_
          refine zs_iinc (pc := 82) (ls' := [_, _, _, _, _, _]) dX8_means_82 rfl (show nI z + Int32.ofInt (-1) = nI z - 1 from by rw [Int32.sub_eq_add_neg]; rfl) (by decide) rfl ?_
          refine zk_goto (pc := 85) 30 dX8_means_85 (by decide) ?_
          have e := ih z rfl (by omega)
          rw [show 100 - z = (100 - (z + 1)) + 1 by omega] at e
          rw [show ∀ f : Nat → Int32, ∀ m k, zsumF f (m + 1) k = zsumF f m (k + 1) + f k from fun _ _ _ => rfl] at e
          first
            | exact absurd h48 h70
            | exact absurd h70 h48
            | (rw [zb_f h48, zfst_f (decide_eq_false h70)] at e; exact e)
            | (rw [zb_t h48, zfst_t (decide_eq_true h70)] at e; exact e)
        · skip
          refine zk_iload (pc := 73) dX8_means_73 rfl ?_
          refine zk_goto (pc := 75) 80 dX8_means_75 (by decide) ?_
          refine zs_istore (pc := 80) (ls' := [_, _, _, _, _, _]) 4 dX8_means_80 (by decide) rfl ?_
          refine zs_iinc (pc := 82) (ls' := [_, _, _, _, _, _]) dX8_means_82 rfl (show nI z + Int32.ofInt (-1) = nI z - 1 from by rw [Int32.sub_eq_add_neg]; rfl) (by decide) rfl ?_
          refine zk_goto (pc := 85) 30 dX8_means_85 (by decide) ?_
          have e := ih z rfl (by omega)
          rw [show 100 - z = (100 - (z + 1)) + 1 by omega] at e
          rw [show ∀ f : Nat → Int32, ∀ m k, zsumF f (m + 1) k = zsumF f m (k + 1) + f k from fun _ _ _ => rfl] at e
          first
            | exact absurd h48 h70
            | exact absurd h70 h48
            | (rw [zb_f h48, zfst_f (decide_eq_false h70)] at e; exact e)
            | (rw [zb_t h48, zfst_t (decide_eq_true h70)] at e; exact e)
  refine zk_aload_n (pc := 0) 0 dX8_means_0 rfl rfl ?_
  refine zk_iload_n (pc := 1) 1 dX8_means_1 rfl rfl ?_
  refine zk_callVI (pc := 2) dX8_means_2 mtX8_isOne lkX8_133 stX8_isOne (by rfl) (by rfl) [_] _ rfl rfl (Nat.le_of_ble_eq_true rfl) (Nat.le_of_ble_eq_true rfl) (sp_X8_isOne hM (by omega) _) ?_
  refine zk_if_eq (pc := 5) 18 dX8_means_5 (by decide) (fun h5 => ?_) (fun h5 => ?_)
  · rw [zb_e] at h5
    exact absurd hm h5 --
  · skip
    refine zk_iload_n (pc := 8) 2 dX8_means_8 rfl rfl ?_
    refine zk_iconst (pc := 9) (v := 0) dX8_means_9 (by decide) ?_
    refine zk_bipush (pc := 10) (v := 99) dX8_means_10 (by decide) ?_
    refine zk_callSI (pc := 12) dX8_means_12 mtX8_in lkX8_66 stX8_in [_, _, _] _ rfl rfl (Nat.le_of_ble_eq_true rfl) (Nat.le_of_ble_eq_true rfl) (sp_X8_in _ _ _) ?_
    refine zk_if_ne (pc := 15) 20 dX8_means_15 (by decide) (fun h15 => ?_) (fun h15 => ?_)
    · skip
      refine zk_iconst (pc := 20) (v := 0) dX8_means_20 (by decide) ?_
      refine zs_istore_n (pc := 21) (ls' := [_, _, _, _, _, _]) 3 dX8_means_21 rfl (by decide) rfl ?_
      refine zk_bipush (pc := 22) (v := -9) dX8_means_22 (by decide) ?_
      refine zs_istore (pc := 24) (ls' := [_, _, _, _, _, _]) 4 dX8_means_24 (by decide) rfl ?_
      refine zk_bipush (pc := 26) (v := nI 100 - 1) dX8_means_26 (by decide) ?_
      refine zs_istore (pc := 28) (ls' := [_, _, _, _, _, _]) 5 dX8_means_28 (by decide) rfl ?_
      exact loop 100 (Nat.le_refl _)
    · rw [zb_e] at h15
      exact absurd hb h15 --
end M45
