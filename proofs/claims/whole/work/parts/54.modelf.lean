section M54
variable {d : Nat} {mu : Mem} {lm : MemL}
theorem sp_X8_evening_n (v n : Int32) (hb : ¬ ((0 ≤ v ∧ v ≤ 99) ∧ (0 ≤ n ∧ n ≤ 2))) : zk_M (d + 1) RX8 cX8_evening 8 (some .int) none 0 (zk_loc [.ref 46, .int v, .int n] 8) [] mu lm (zk_R (some (.int (-1))) mu lm) := by
  refine zk_iload_n (pc := 0) 1 dX8_evening_0 rfl rfl ?_
  refine zk_iconst (pc := 1) (v := 0) dX8_evening_1 (by decide) ?_
  refine zk_bipush (pc := 2) (v := 99) dX8_evening_2 (by decide) ?_
  refine zk_callSI (pc := 4) dX8_evening_4 mtX8_in lkX8_66 stX8_in [_, _, _] _ rfl rfl (Nat.le_of_ble_eq_true rfl) (Nat.le_of_ble_eq_true rfl) (sp_X8_in _ _ _) ?_
  refine zk_if_eq (pc := 7) 19 dX8_evening_7 (by decide) (fun h7 => ?_) (fun h7 => ?_)
  · rw [zb_e] at h7
    refine zk_iconst (pc := 19) (v := -1) dX8_evening_19 (by decide) ?_
    exact zk_ireturn (pc := 20) dX8_evening_20 (Or.inl rfl) (zk_ri rfl)
  · rw [zb_n] at h7
    refine zk_iload_n (pc := 10) 2 dX8_evening_10 rfl rfl ?_
    refine zk_iconst (pc := 11) (v := 0) dX8_evening_11 (by decide) ?_
    refine zk_iconst (pc := 12) (v := 2) dX8_evening_12 (by decide) ?_
    refine zk_callSI (pc := 13) dX8_evening_13 mtX8_in lkX8_66 stX8_in [_, _, _] _ rfl rfl (Nat.le_of_ble_eq_true rfl) (Nat.le_of_ble_eq_true rfl) (sp_X8_in _ _ _) ?_
    refine zk_if_ne (pc := 16) 21 dX8_evening_16 (by decide) (fun h16 => ?_) (fun h16 => ?_)
    · rw [zb_n] at h16
      exact absurd ⟨h7, h16⟩ hb --
    · rw [zb_e] at h16
      refine zk_iconst (pc := 19) (v := -1) dX8_evening_19 (by decide) ?_
      exact zk_ireturn (pc := 20) dX8_evening_20 (Or.inl rfl) (zk_ri rfl)
theorem sp_X8_evening_0 {v n : Int32} (hv : 0 ≤ v ∧ v ≤ 99) (hn : 0 ≤ n ∧ n ≤ 2) (hM : mu 46 18 = 0) : zk_M (d + 1) RX8 cX8_evening 8 (some .int) none 0 (zk_loc [.ref 46, .int v, .int n] 8) [] mu lm (zk_R (some (.int (-4))) mu lm) := by
  refine zk_iload_n (pc := 0) 1 dX8_evening_0 rfl rfl ?_
  refine zk_iconst (pc := 1) (v := 0) dX8_evening_1 (by decide) ?_
  refine zk_bipush (pc := 2) (v := 99) dX8_evening_2 (by decide) ?_
  refine zk_callSI (pc := 4) dX8_evening_4 mtX8_in lkX8_66 stX8_in [_, _, _] _ rfl rfl (Nat.le_of_ble_eq_true rfl) (Nat.le_of_ble_eq_true rfl) (sp_X8_in _ _ _) ?_
  refine zk_if_eq (pc := 7) 19 dX8_evening_7 (by decide) (fun h7 => ?_) (fun h7 => ?_)
  · rw [zb_e] at h7
    exact absurd hv h7 --
  · skip
    refine zk_iload_n (pc := 10) 2 dX8_evening_10 rfl rfl ?_
    refine zk_iconst (pc := 11) (v := 0) dX8_evening_11 (by decide) ?_
    refine zk_iconst (pc := 12) (v := 2) dX8_evening_12 (by decide) ?_
    refine zk_callSI (pc := 13) dX8_evening_13 mtX8_in lkX8_66 stX8_in [_, _, _] _ rfl rfl (Nat.le_of_ble_eq_true rfl) (Nat.le_of_ble_eq_true rfl) (sp_X8_in _ _ _) ?_
    refine zk_if_ne (pc := 16) 21 dX8_evening_16 (by decide) (fun h16 => ?_) (fun h16 => ?_)
    · skip
      refine zk_aload_n (pc := 21) 0 dX8_evening_21 rfl rfl ?_
      refine zk_getI (pc := 22) dX8_evening_22 flX8_63 rfl rfl ?_
      refine zk_if_ne (pc := 25) 31 dX8_evening_25 (by decide) (fun h25 => ?_) (fun h25 => ?_)
      · exact absurd hM h25 --
      · skip
        refine zk_bipush (pc := 28) (v := -4) dX8_evening_28 (by decide) ?_
        exact zk_ireturn (pc := 30) dX8_evening_30 (Or.inl rfl) (zk_ri rfl)
    · rw [zb_e] at h16
      exact absurd hn h16 --
theorem sp_X8_evening0 {C M : Nat} (hC : mu 46 17 = nI C) (hC8 : C ≤ 8) (hM : mu 46 18 = nI M) (hM6 : M ≤ 6) (hA : ∀ q, q < C → 0 ≤ mu 55 q ∧ mu 55 q ≤ 999) (hC3 : 3 ≤ C) (hS : ∀ j, j < M → ∃ q, q < C ∧ mu 54 j = nI q) (hM0 : 0 < M) {v : Int32} (hv : 0 ≤ v ∧ v ≤ 99) : zk_M (d + 5) RX8 cX8_evening 8 (some .int) none 0 (zk_loc [.ref 46, .int v, .int 0] 8) [] mu lm (kQ (zsum C (mu 55)) mu lm) := by
  have hn : (0 : Int32) ≤ 0 ∧ (0 : Int32) ≤ 2 := by decide
  refine zk_iload_n (pc := 0) 1 dX8_evening_0 rfl rfl ?_
  refine zk_iconst (pc := 1) (v := 0) dX8_evening_1 (by decide) ?_
  refine zk_bipush (pc := 2) (v := 99) dX8_evening_2 (by decide) ?_
  refine zk_callSI (pc := 4) dX8_evening_4 mtX8_in lkX8_66 stX8_in [_, _, _] _ rfl rfl (Nat.le_of_ble_eq_true rfl) (Nat.le_of_ble_eq_true rfl) (sp_X8_in _ _ _) ?_
  refine zk_if_eq (pc := 7) 19 dX8_evening_7 (by decide) (fun h7 => ?_) (fun h7 => ?_)
  · rw [zb_e] at h7
    exact absurd hv h7 --
  · skip
    refine zk_iload_n (pc := 10) 2 dX8_evening_10 rfl rfl ?_
    refine zk_iconst (pc := 11) (v := 0) dX8_evening_11 (by decide) ?_
    refine zk_iconst (pc := 12) (v := 2) dX8_evening_12 (by decide) ?_
    refine zk_callSI (pc := 13) dX8_evening_13 mtX8_in lkX8_66 stX8_in [_, _, _] _ rfl rfl (Nat.le_of_ble_eq_true rfl) (Nat.le_of_ble_eq_true rfl) (sp_X8_in _ _ _) ?_
    refine zk_if_ne (pc := 16) 21 dX8_evening_16 (by decide) (fun h16 => ?_) (fun h16 => ?_)
    · skip
      refine zk_aload_n (pc := 21) 0 dX8_evening_21 rfl rfl ?_
      refine zk_getI (pc := 22) dX8_evening_22 flX8_63 rfl rfl ?_
      refine zk_if_ne (pc := 25) 31 dX8_evening_25 (by decide) (fun h25 => ?_) (fun h25 => ?_)
      · skip
        refine zk_iload_n (pc := 31) 2 dX8_evening_31 rfl rfl ?_
        refine zk_iconst (pc := 32) (v := 2) dX8_evening_32 (by decide) ?_
        refine zk_icmp_ge (pc := 33) 58 dX8_evening_33 (by decide) (fun h33 => ?_) (fun h33 => ?_)
        · exact absurd h33 (by decide) --
        · skip
          refine zk_iload_n (pc := 36) 2 dX8_evening_36 rfl rfl ?_
          refine zk_if_ne (pc := 37) 51 dX8_evening_37 (by decide) (fun h37 => ?_) (fun h37 => ?_)
          · exact absurd rfl h37 --
          · skip
            refine zk_aload_n (pc := 40) 0 dX8_evening_40 rfl rfl ?_
            refine zk_aload_n (pc := 41) 0 dX8_evening_41 rfl rfl ?_
            refine zk_getR (pc := 42) dX8_evening_42 flX8_38 rfl rfl ?_
            refine zk_callVI (pc := 45) dX8_evening_45 mtX8_allIn lkX8_167 stX8_allIn (by rfl) (by rfl) [_] _ rfl rfl (Nat.le_of_ble_eq_true rfl) (Nat.le_of_ble_eq_true rfl) (sp_X8_allIn (c := 55) (n := 17) rfl hC hC8 (by decide)) ?_
            refine zk_goto (pc := 48) 57 dX8_evening_48 (by decide) ?_
            exact zk_ireturn (pc := 57) dX8_evening_57 (Or.inl rfl) ⟨rfl, rfl, fun _ _ => rfl⟩
      · rw [hM] at h25
        exact absurd h25 (nI_ne0 hM0 (by omega)) --
    · rw [zb_e] at h16
      exact absurd hn h16 --
theorem sp_X8_evening1 {C M : Nat} (hC : mu 46 17 = nI C) (hC8 : C ≤ 8) (hM : mu 46 18 = nI M) (hM6 : M ≤ 6) (hA : ∀ q, q < C → 0 ≤ mu 55 q ∧ mu 55 q ≤ 999) (hC3 : 3 ≤ C) (hS : ∀ j, j < M → ∃ q, q < C ∧ mu 54 j = nI q) (hM0 : 0 < M) {v : Int32} (hv : 0 ≤ v ∧ v ≤ 99) : zk_M (d + 5) RX8 cX8_evening 8 (some .int) none 0 (zk_loc [.ref 46, .int v, .int 1] 8) [] mu lm (kQ (msR C M (g1 mu C M v) 7) mu lm) := by
  have hn : (0 : Int32) ≤ 1 ∧ (1 : Int32) ≤ 2 := by decide
  refine zk_iload_n (pc := 0) 1 dX8_evening_0 rfl rfl ?_
  refine zk_iconst (pc := 1) (v := 0) dX8_evening_1 (by decide) ?_
  refine zk_bipush (pc := 2) (v := 99) dX8_evening_2 (by decide) ?_
  refine zk_callSI (pc := 4) dX8_evening_4 mtX8_in lkX8_66 stX8_in [_, _, _] _ rfl rfl (Nat.le_of_ble_eq_true rfl) (Nat.le_of_ble_eq_true rfl) (sp_X8_in _ _ _) ?_
  refine zk_if_eq (pc := 7) 19 dX8_evening_7 (by decide) (fun h7 => ?_) (fun h7 => ?_)
  · rw [zb_e] at h7
    exact absurd hv h7 --
  · skip
    refine zk_iload_n (pc := 10) 2 dX8_evening_10 rfl rfl ?_
    refine zk_iconst (pc := 11) (v := 0) dX8_evening_11 (by decide) ?_
    refine zk_iconst (pc := 12) (v := 2) dX8_evening_12 (by decide) ?_
    refine zk_callSI (pc := 13) dX8_evening_13 mtX8_in lkX8_66 stX8_in [_, _, _] _ rfl rfl (Nat.le_of_ble_eq_true rfl) (Nat.le_of_ble_eq_true rfl) (sp_X8_in _ _ _) ?_
    refine zk_if_ne (pc := 16) 21 dX8_evening_16 (by decide) (fun h16 => ?_) (fun h16 => ?_)
    · skip
      refine zk_aload_n (pc := 21) 0 dX8_evening_21 rfl rfl ?_
      refine zk_getI (pc := 22) dX8_evening_22 flX8_63 rfl rfl ?_
      refine zk_if_ne (pc := 25) 31 dX8_evening_25 (by decide) (fun h25 => ?_) (fun h25 => ?_)
      · skip
        refine zk_iload_n (pc := 31) 2 dX8_evening_31 rfl rfl ?_
        refine zk_iconst (pc := 32) (v := 2) dX8_evening_32 (by decide) ?_
        refine zk_icmp_ge (pc := 33) 58 dX8_evening_33 (by decide) (fun h33 => ?_) (fun h33 => ?_)
        · exact absurd h33 (by decide) --
        · skip
          refine zk_iload_n (pc := 36) 2 dX8_evening_36 rfl rfl ?_
          refine zk_if_ne (pc := 37) 51 dX8_evening_37 (by decide) (fun h37 => ?_) (fun h37 => ?_)
          · skip
            refine zk_aload_n (pc := 51) 0 dX8_evening_51 rfl rfl ?_
            refine zk_iload_n (pc := 52) 1 dX8_evening_52 rfl rfl ?_
            refine zk_iconst (pc := 53) (v := -1) dX8_evening_53 (by decide) ?_
            refine zk_callV (pc := 54) dX8_evening_54 mtX8_lastTurn lkX8_226 stX8_lastTurn (by rfl) (by rfl) [_, _] _ rfl rfl (Nat.le_of_ble_eq_true rfl) (Nat.le_of_ble_eq_true rfl) (sp_lastTurn1 hC hC8 hM hM6 hA hC3 hS (fun _ _ => rfl) v) (fun r m3 l3' q3 => ?_)
            obtain ⟨rfl, rfl, g3⟩ := q3
            exact zk_ireturn (pc := 57) dX8_evening_57 (Or.inl rfl) ⟨rfl, rfl, g3⟩
          · exact absurd h37 (by decide) --
      · rw [hM] at h25
        exact absurd h25 (nI_ne0 hM0 (by omega)) --
    · rw [zb_e] at h16
      exact absurd hn h16 --
def g3v (mu : Mem) (C M : Nat) (v : Int32) : Nat → Nat → Int32 := fun i c => msR C M (g2 mu C M v (i + 7 * c)) 7
theorem sp_X8_evening2 {C M : Nat} (hC : mu 46 17 = nI C) (hC8 : C ≤ 8) (hM : mu 46 18 = nI M) (hM6 : M ≤ 6) (hA : ∀ q, q < C → 0 ≤ mu 55 q ∧ mu 55 q ≤ 999) (hC3 : 3 ≤ C) (hS : ∀ j, j < M → ∃ q, q < C ∧ mu 54 j = nI q) (hM0 : 0 < M) {v : Int32} (hv : 0 ≤ v ∧ v ≤ 99) : zk_M (d + 5) RX8 cX8_evening 8 (some .int) none 0 (zk_loc [.ref 46, .int v, .int 2] 8) [] mu lm (kQ (msR C M (g3v mu C M v) 7) mu lm) := by
  have hn : (0 : Int32) ≤ 2 ∧ (2 : Int32) ≤ 2 := by decide
  have l1 : ∀ i, i ≤ 7 → ∀ (nu : Mem) (b5 b6 b7 : Value), (∀ c, c ≠ 56 → nu c = mu c) → zk_M (d + 5) RX8 cX8_evening 8 (some .int) none 63 [.ref 46, .int v, .int 2, .int (msR C M (g3v mu C M v) i), .int (nI i), b5, b6, b7] [] nu lm (kQ (msR C M (g3v mu C M v) 7) mu lm) := by
    refine zk_ind 7 (fun i hi ih => ?_)
    intro nu b5 b6 b7 hu
    have l2 : i < 7 → ∀ c, c ≤ 9 → ∀ (nu : Mem) (b7 : Value), (∀ c, c ≠ 56 → nu c = mu c) → zk_M (d + 5) RX8 cX8_evening 8 (some .int) none 78 [.ref 46, .int v, .int 2, .int (msR C M (g3v mu C M v) i), .int (nI i), .int (lsR C M (g3v mu C M v) i c), .int (nI c), b7] [] nu lm (kQ (msR C M (g3v mu C M v) 7) mu lm) := by
      intro hi7
      refine zk_ind 9 (fun c hc ihc => ?_)
      intro nu b7 hu
      have hM2 : nu 46 18 = nI M := by rw [hu 46 (by decide)]; exact hM
      have hC2 : nu 46 17 = nI C := by rw [hu 46 (by decide)]; exact hC
      refine zk_iload (pc := 78) dX8_evening_78 rfl ?_
      refine zk_bipush (pc := 80) (v := 9) dX8_evening_80 (by decide) ?_
      refine zk_icmp_ge (pc := 82) 143 dX8_evening_82 (by decide) (fun h82 => ?_) (fun h82 => ?_)
      · rw [show (9 : Int32) = nI 9 from rfl, nIle (by omega) (by omega)] at h82
        obtain rfl : c = 9 := by omega
        refine zk_iload (pc := 143) dX8_evening_143 rfl ?_
        refine zk_sipush (pc := 145) (v := 9999) dX8_evening_145 (by decide) ?_
        refine zk_icmp_ge (pc := 148) 162 dX8_evening_148 (by decide) (fun h148 => ?_) (fun h148 => ?_)
        · rw [← znl] at h148
          refine zk_iload_n (pc := 162) 3 dX8_evening_162 rfl rfl ?_
          refine zs_istore_n (pc := 163) (ls' := [_, _, _, _, _, _, _, _]) 3 dX8_evening_163 rfl (by decide) rfl ?_
          refine zs_iinc (pc := 164) (ls' := [_, _, _, _, _, _, _, _]) dX8_evening_164 rfl (nI_1 i) (by decide) rfl ?_
          refine zk_goto (pc := 167) 63 dX8_evening_167 (by decide) ?_
          have e := ih hi7 nu (.int (lsR C M (g3v mu C M v) i 9)) (.int (nI 9)) b7 hu
          rw [msR_s] at e
          first
            | (have hz : ¬ (lsR C M (g3v mu C M v) i 9 < 9999 ∧ msR C M (g3v mu C M v) i < lsR C M (g3v mu C M v) i 9) := fun z => h148 z.1
               rw [if_neg hz] at e; exact e)
            | (have hz : ¬ (lsR C M (g3v mu C M v) i 9 < 9999 ∧ msR C M (g3v mu C M v) i < lsR C M (g3v mu C M v) i 9) := fun z => h154 z.2
               rw [if_neg hz] at e; exact e)
            | (have hz : lsR C M (g3v mu C M v) i 9 < 9999 ∧ msR C M (g3v mu C M v) i < lsR C M (g3v mu C M v) i 9 := ⟨h148, h154⟩
               rw [if_pos hz] at e; exact e)
        · rw [← zltn] at h148
          refine zk_iload (pc := 151) dX8_evening_151 rfl ?_
          refine zk_iload_n (pc := 153) 3 dX8_evening_153 rfl rfl ?_
          refine zk_icmp_le (pc := 154) 162 dX8_evening_154 (by decide) (fun h154 => ?_) (fun h154 => ?_)
          · rw [← znl] at h154
            refine zk_iload_n (pc := 162) 3 dX8_evening_162 rfl rfl ?_
            refine zs_istore_n (pc := 163) (ls' := [_, _, _, _, _, _, _, _]) 3 dX8_evening_163 rfl (by decide) rfl ?_
            refine zs_iinc (pc := 164) (ls' := [_, _, _, _, _, _, _, _]) dX8_evening_164 rfl (nI_1 i) (by decide) rfl ?_
            refine zk_goto (pc := 167) 63 dX8_evening_167 (by decide) ?_
            have e := ih hi7 nu (.int (lsR C M (g3v mu C M v) i 9)) (.int (nI 9)) b7 hu
            rw [msR_s] at e
            first
              | (have hz : ¬ (lsR C M (g3v mu C M v) i 9 < 9999 ∧ msR C M (g3v mu C M v) i < lsR C M (g3v mu C M v) i 9) := fun z => h148 z.1
                 rw [if_neg hz] at e; exact e)
              | (have hz : ¬ (lsR C M (g3v mu C M v) i 9 < 9999 ∧ msR C M (g3v mu C M v) i < lsR C M (g3v mu C M v) i 9) := fun z => h154 z.2
                 rw [if_neg hz] at e; exact e)
              | (have hz : lsR C M (g3v mu C M v) i 9 < 9999 ∧ msR C M (g3v mu C M v) i < lsR C M (g3v mu C M v) i 9 := ⟨h148, h154⟩
                 rw [if_pos hz] at e; exact e)
          · rw [← zltn] at h154
            refine zk_iload (pc := 157) dX8_evening_157 rfl ?_
            refine zk_goto (pc := 159) 163 dX8_evening_159 (by decide) ?_
            refine zs_istore_n (pc := 163) (ls' := [_, _, _, _, _, _, _, _]) 3 dX8_evening_163 rfl (by decide) rfl ?_
            refine zs_iinc (pc := 164) (ls' := [_, _, _, _, _, _, _, _]) dX8_evening_164 rfl (nI_1 i) (by decide) rfl ?_
            refine zk_goto (pc := 167) 63 dX8_evening_167 (by decide) ?_
            have e := ih hi7 nu (.int (lsR C M (g3v mu C M v) i 9)) (.int (nI 9)) b7 hu
            rw [msR_s] at e
            first
              | (have hz : ¬ (lsR C M (g3v mu C M v) i 9 < 9999 ∧ msR C M (g3v mu C M v) i < lsR C M (g3v mu C M v) i 9) := fun z => h148 z.1
                 rw [if_neg hz] at e; exact e)
              | (have hz : ¬ (lsR C M (g3v mu C M v) i 9 < 9999 ∧ msR C M (g3v mu C M v) i < lsR C M (g3v mu C M v) i 9) := fun z => h154 z.2
                 rw [if_neg hz] at e; exact e)
              | (have hz : lsR C M (g3v mu C M v) i 9 < 9999 ∧ msR C M (g3v mu C M v) i < lsR C M (g3v mu C M v) i 9 := ⟨h148, h154⟩
                 rw [if_pos hz] at e; exact e)
      · rw [show (9 : Int32) = nI 9 from rfl, nIle (by omega) (by omega)] at h82
        refine zk_aload_n (pc := 85) 0 dX8_evening_85 rfl rfl ?_
        refine zk_iload (pc := 86) dX8_evening_86 rfl ?_
        refine zk_bipush (pc := 88) (v := 7) dX8_evening_88 (by decide) ?_
        refine zk_iload (pc := 90) dX8_evening_90 rfl ?_
        refine zk_imul (pc := 92) dX8_evening_92 ?_
        refine zk_iadd (pc := 93) dX8_evening_93 ?_
        refine zk_callVI (pc := 94) dX8_evening_94 mtX8_isTurn lkX8_219 stX8_isTurn (by rfl) (by rfl) [_] _ rfl rfl (Nat.le_of_ble_eq_true rfl) (Nat.le_of_ble_eq_true rfl) (sp_X8_isTurn hC2 hC8 hM2 hM6 (by omega) (by omega)) ?_
        refine zk_if_eq (pc := 97) 116 dX8_evening_97 (by decide) (fun h97 => ?_) (fun h97 => ?_)
        · rw [zb_e] at h97
          refine zk_sipush (pc := 116) (v := 9999) dX8_evening_116 (by decide) ?_
          refine zs_istore (pc := 119) (ls' := [_, _, _, _, _, _, _, _]) 7 dX8_evening_119 (by decide) rfl ?_
          refine zk_iload (pc := 121) dX8_evening_121 rfl ?_
          refine zk_iload (pc := 123) dX8_evening_123 rfl ?_
          refine zk_icmp_ge (pc := 125) 133 dX8_evening_125 (by decide) (fun h125 => ?_) (fun h125 => ?_)
          · skip
            refine zk_iload (pc := 133) dX8_evening_133 rfl ?_
            refine zs_istore (pc := 135) (ls' := [_, _, _, _, _, _, _, _]) 5 dX8_evening_135 (by decide) rfl ?_
            refine zs_iinc (pc := 137) (ls' := [_, _, _, _, _, _, _, _]) dX8_evening_137 rfl (nI_1 c) (by decide) rfl ?_
            refine zk_goto (pc := 140) 78 dX8_evening_140 (by decide) ?_
            first
              | (have hz : (if isT C M i c then (g3v mu C M v) i c else 9999) = 9999 := if_neg h97
                 have e := ihc (by omega) nu (.int 9999) hu
                 rw [lsR_s, hz] at e
                 first | (rw [← zmin_a.1 h125] at e; exact e) | (rw [← zmin_a.2 h125] at e; exact e))
              | (have hz : (if isT C M i c then (g3v mu C M v) i c else 9999) = (g3v mu C M v) i c := if_pos h97
                 have e := ihc (by omega) m3 (.int ((g3v mu C M v) i c)) (fun c hc => g3 c hc)
                 rw [lsR_s, hz] at e
                 first
                   | (have h1 : lsR C M (g3v mu C M v) i c ≤ (g3v mu C M v) i c := h125
                      rw [← zmin_a.1 h1] at e; exact e)
                   | (have h1 : ¬ lsR C M (g3v mu C M v) i c ≤ (g3v mu C M v) i c := h125
                      rw [← zmin_a.2 h1] at e; exact e))
          · skip
            refine zk_iload (pc := 128) dX8_evening_128 rfl ?_
            refine zk_goto (pc := 130) 135 dX8_evening_130 (by decide) ?_
            refine zs_istore (pc := 135) (ls' := [_, _, _, _, _, _, _, _]) 5 dX8_evening_135 (by decide) rfl ?_
            refine zs_iinc (pc := 137) (ls' := [_, _, _, _, _, _, _, _]) dX8_evening_137 rfl (nI_1 c) (by decide) rfl ?_
            refine zk_goto (pc := 140) 78 dX8_evening_140 (by decide) ?_
            first
              | (have hz : (if isT C M i c then (g3v mu C M v) i c else 9999) = 9999 := if_neg h97
                 have e := ihc (by omega) nu (.int 9999) hu
                 rw [lsR_s, hz] at e
                 first | (rw [← zmin_a.1 h125] at e; exact e) | (rw [← zmin_a.2 h125] at e; exact e))
              | (have hz : (if isT C M i c then (g3v mu C M v) i c else 9999) = (g3v mu C M v) i c := if_pos h97
                 have e := ihc (by omega) m3 (.int ((g3v mu C M v) i c)) (fun c hc => g3 c hc)
                 rw [lsR_s, hz] at e
                 first
                   | (have h1 : lsR C M (g3v mu C M v) i c ≤ (g3v mu C M v) i c := h125
                      rw [← zmin_a.1 h1] at e; exact e)
                   | (have h1 : ¬ lsR C M (g3v mu C M v) i c ≤ (g3v mu C M v) i c := h125
                      rw [← zmin_a.2 h1] at e; exact e))
        · rw [zb_n] at h97
          refine zk_aload_n (pc := 100) 0 dX8_evening_100 rfl rfl ?_
          refine zk_iload_n (pc := 101) 1 dX8_evening_101 rfl rfl ?_
          refine zk_iload (pc := 102) dX8_evening_102 rfl ?_
          refine zk_bipush (pc := 104) (v := 7) dX8_evening_104 (by decide) ?_
          refine zk_iload (pc := 106) dX8_evening_106 rfl ?_
          refine zk_imul (pc := 108) dX8_evening_108 ?_
          refine zk_iadd (pc := 109) dX8_evening_109 ?_
          rw [show (7 : Int32) = nI 7 from rfl, pk_mul, nI_add]
          refine zk_callV (pc := 110) dX8_evening_110 mtX8_lastTurn lkX8_226 stX8_lastTurn (by rfl) (by rfl) [_, _] _ rfl rfl (Nat.le_of_ble_eq_true rfl) (Nat.le_of_ble_eq_true rfl) (sp_lastTurn2 hC hC8 hM hM6 hA hC3 hS (F := i + 7 * c) (by omega) hu v) (fun r m3 l3' q3 => ?_)
          obtain ⟨rfl, rfl, g3⟩ := q3
          refine zk_goto (pc := 113) 119 dX8_evening_113 (by decide) ?_
          refine zs_istore (pc := 119) (ls' := [_, _, _, _, _, _, _, _]) 7 dX8_evening_119 (by decide) rfl ?_
          refine zk_iload (pc := 121) dX8_evening_121 rfl ?_
          refine zk_iload (pc := 123) dX8_evening_123 rfl ?_
          refine zk_icmp_ge (pc := 125) 133 dX8_evening_125 (by decide) (fun h125 => ?_) (fun h125 => ?_)
          · skip
            refine zk_iload (pc := 133) dX8_evening_133 rfl ?_
            refine zs_istore (pc := 135) (ls' := [_, _, _, _, _, _, _, _]) 5 dX8_evening_135 (by decide) rfl ?_
            refine zs_iinc (pc := 137) (ls' := [_, _, _, _, _, _, _, _]) dX8_evening_137 rfl (nI_1 c) (by decide) rfl ?_
            refine zk_goto (pc := 140) 78 dX8_evening_140 (by decide) ?_
            first
              | (have hz : (if isT C M i c then (g3v mu C M v) i c else 9999) = 9999 := if_neg h97
                 have e := ihc (by omega) nu (.int 9999) hu
                 rw [lsR_s, hz] at e
                 first | (rw [← zmin_a.1 h125] at e; exact e) | (rw [← zmin_a.2 h125] at e; exact e))
              | (have hz : (if isT C M i c then (g3v mu C M v) i c else 9999) = (g3v mu C M v) i c := if_pos h97
                 have e := ihc (by omega) m3 (.int ((g3v mu C M v) i c)) (fun c hc => g3 c hc)
                 rw [lsR_s, hz] at e
                 first
                   | (have h1 : lsR C M (g3v mu C M v) i c ≤ (g3v mu C M v) i c := h125
                      rw [← zmin_a.1 h1] at e; exact e)
                   | (have h1 : ¬ lsR C M (g3v mu C M v) i c ≤ (g3v mu C M v) i c := h125
                      rw [← zmin_a.2 h1] at e; exact e))
          · skip
            refine zk_iload (pc := 128) dX8_evening_128 rfl ?_
            refine zk_goto (pc := 130) 135 dX8_evening_130 (by decide) ?_
            refine zs_istore (pc := 135) (ls' := [_, _, _, _, _, _, _, _]) 5 dX8_evening_135 (by decide) rfl ?_
            refine zs_iinc (pc := 137) (ls' := [_, _, _, _, _, _, _, _]) dX8_evening_137 rfl (nI_1 c) (by decide) rfl ?_
            refine zk_goto (pc := 140) 78 dX8_evening_140 (by decide) ?_
            first
              | (have hz : (if isT C M i c then (g3v mu C M v) i c else 9999) = 9999 := if_neg h97
                 have e := ihc (by omega) nu (.int 9999) hu
                 rw [lsR_s, hz] at e
                 first | (rw [← zmin_a.1 h125] at e; exact e) | (rw [← zmin_a.2 h125] at e; exact e))
              | (have hz : (if isT C M i c then (g3v mu C M v) i c else 9999) = (g3v mu C M v) i c := if_pos h97
                 have e := ihc (by omega) m3 (.int ((g3v mu C M v) i c)) (fun c hc => g3 c hc)
                 rw [lsR_s, hz] at e
                 first
                   | (have h1 : lsR C M (g3v mu C M v) i c ≤ (g3v mu C M v) i c := h125
                      rw [← zmin_a.1 h1] at e; exact e)
                   | (have h1 : ¬ lsR C M (g3v mu C M v) i c ≤ (g3v mu C M v) i c := h125
                      rw [← zmin_a.2 h1] at e; exact e))
    refine zk_iload (pc := 63) dX8_evening_63 rfl ?_
    refine zk_bipush (pc := 65) (v := 7) dX8_evening_65 (by decide) ?_
    refine zk_icmp_ge (pc := 67) 170 dX8_evening_67 (by decide) (fun h67 => ?_) (fun h67 => ?_)
    · rw [show (7 : Int32) = nI 7 from rfl, nIle (by omega) (by omega)] at h67
      refine zk_iload_n (pc := 170) 3 dX8_evening_170 rfl rfl ?_
      refine zk_ireturn (pc := 171) dX8_evening_171 (Or.inl rfl) ⟨?_, rfl, hu⟩
      rw [show i = 7 by omega]
    · rw [show (7 : Int32) = nI 7 from rfl, nIle (by omega) (by omega)] at h67
      refine zk_sipush (pc := 70) (v := 9999) dX8_evening_70 (by decide) ?_
      refine zs_istore (pc := 73) (ls' := [_, _, _, _, _, _, _, _]) 5 dX8_evening_73 (by decide) rfl ?_
      refine zk_iconst (pc := 75) (v := 0) dX8_evening_75 (by decide) ?_
      refine zs_istore (pc := 76) (ls' := [_, _, _, _, _, _, _, _]) 6 dX8_evening_76 (by decide) rfl ?_
      exact l2 (by omega) 0 (Nat.zero_le _) nu _ hu
  refine zk_iload_n (pc := 0) 1 dX8_evening_0 rfl rfl ?_
  refine zk_iconst (pc := 1) (v := 0) dX8_evening_1 (by decide) ?_
  refine zk_bipush (pc := 2) (v := 99) dX8_evening_2 (by decide) ?_
  refine zk_callSI (pc := 4) dX8_evening_4 mtX8_in lkX8_66 stX8_in [_, _, _] _ rfl rfl (Nat.le_of_ble_eq_true rfl) (Nat.le_of_ble_eq_true rfl) (sp_X8_in _ _ _) ?_
  refine zk_if_eq (pc := 7) 19 dX8_evening_7 (by decide) (fun h7 => ?_) (fun h7 => ?_)
  · rw [zb_e] at h7
    exact absurd hv h7 --
  · skip
    refine zk_iload_n (pc := 10) 2 dX8_evening_10 rfl rfl ?_
    refine zk_iconst (pc := 11) (v := 0) dX8_evening_11 (by decide) ?_
    refine zk_iconst (pc := 12) (v := 2) dX8_evening_12 (by decide) ?_
    refine zk_callSI (pc := 13) dX8_evening_13 mtX8_in lkX8_66 stX8_in [_, _, _] _ rfl rfl (Nat.le_of_ble_eq_true rfl) (Nat.le_of_ble_eq_true rfl) (sp_X8_in _ _ _) ?_
    refine zk_if_ne (pc := 16) 21 dX8_evening_16 (by decide) (fun h16 => ?_) (fun h16 => ?_)
    · skip
      refine zk_aload_n (pc := 21) 0 dX8_evening_21 rfl rfl ?_
      refine zk_getI (pc := 22) dX8_evening_22 flX8_63 rfl rfl ?_
      refine zk_if_ne (pc := 25) 31 dX8_evening_25 (by decide) (fun h25 => ?_) (fun h25 => ?_)
      · skip
        refine zk_iload_n (pc := 31) 2 dX8_evening_31 rfl rfl ?_
        refine zk_iconst (pc := 32) (v := 2) dX8_evening_32 (by decide) ?_
        refine zk_icmp_ge (pc := 33) 58 dX8_evening_33 (by decide) (fun h33 => ?_) (fun h33 => ?_)
        · skip
          refine zk_iconst (pc := 58) (v := -1) dX8_evening_58 (by decide) ?_
          refine zs_istore_n (pc := 59) (ls' := [_, _, _, _, _, _, _, _]) 3 dX8_evening_59 rfl (by decide) rfl ?_
          refine zk_iconst (pc := 60) (v := 0) dX8_evening_60 (by decide) ?_
          refine zs_istore (pc := 61) (ls' := [_, _, _, _, _, _, _, _]) 4 dX8_evening_61 (by decide) rfl ?_
          exact l1 0 (Nat.zero_le _) mu _ _ _ (fun _ _ => rfl)
        · exact absurd (by decide) h33 --
      · rw [hM] at h25
        exact absurd h25 (nI_ne0 hM0 (by omega)) --
    · rw [zb_e] at h16
      exact absurd hn h16 --
theorem gcd_st (a b : Nat) : Nat.gcd b (a % b) = Nat.gcd a b := by rw [Nat.gcd_comm b, ← Nat.gcd_rec, Nat.gcd_comm]
theorem eu_gcd : ∀ n m a b : Nat, b < 2 ^ n → 2 * n + 1 ≤ m → eu m a b = Nat.gcd a b := by
  intro n
  induction n with
  | zero =>
    intro m a b hb hm
    obtain ⟨m, rfl⟩ : ∃ z, m = z + 1 := ⟨m - 1, by omega⟩
    rw [eu_s, if_pos (by simpa using hb), show b = 0 by simpa using hb, Nat.gcd_zero_right]
  | succ n ih =>
    intro m a b hb hm
    obtain ⟨m, rfl⟩ : ∃ z, m = z + 2 := ⟨m - 2, by omega⟩
    rw [show m + 2 = (m + 1) + 1 from rfl, eu_s]
    by_cases h : b = 0
    · rw [if_pos h, h, Nat.gcd_zero_right]
    · rw [if_neg h, eu_s]
      by_cases h2 : a % b = 0
      · rw [if_pos h2, ← gcd_st, h2, Nat.gcd_zero_right]
      · rw [if_neg h2, ih m (a % b) (b % (a % b)) ?_ (by omega), gcd_st, gcd_st]
        have h3 : a % b < b := Nat.mod_lt _ (by omega)
        have h4 : b % (a % b) < a % b := Nat.mod_lt _ (by omega)
        have h5 : b % (a % b) ≤ b - a % b := by
          rw [Nat.mod_eq_sub_mod (by omega)]
          exact Nat.mod_le _ _
        rw [Nat.pow_succ] at hb
        omega
theorem eu_200 {a b : Nat} (hb : b < 2 ^ 63) : eu 200 a b = Nat.gcd a b := eu_gcd 63 200 a b hb (by decide)
def telD (lm : MemL) (A B : Nat) : MemL := zk_up (zk_up lm 46 7 (lN (A / Nat.gcd A B))) 46 8 (lN (B / Nat.gcd A B))
theorem lN_gt {y : Nat} (hy : y < 2 ^ 63) : (lg_cmp (lN y) 0 ≤ 0) = (y = 0) := by
  apply propext
  constructor
  · intro h
    by_cases g : 0 < y
    · exact absurd h (lN_gt0 hy g)
    · omega
  · rintro rfl
    decide
theorem sp_X8_tellsPart {A B : Nat} (hA : A < 2 ^ 63) (hB : B < 2 ^ 63) (hB0 : 0 < B) : zk_M d RX8 cX8_tellsPart 11 (none) none 0 (zk_loc [.ref 46, .long (lN A), .long (lN B)] 11) [] mu lm (zk_R none mu (telD lm A B)) := by
  have hg0 : 0 < Nat.gcd A B := Nat.gcd_pos_of_pos_right _ hB0
  have loop : ∀ (n b : Nat), b < n → ∀ (a : Nat) (b9 : Value), a < 2 ^ 63 → b < 2 ^ 63 → Nat.gcd a b = Nat.gcd A B → zk_M d RX8 cX8_tellsPart 11 (none) none 6 [.ref 46, .long (lN A), .retAddr 0, .long (lN B), .retAddr 0, .long (lN a), .retAddr 0, .long (lN b), .retAddr 0, b9, .retAddr 0] [] mu lm (zk_R none mu (telD lm A B)) := by
    intro n
    induction n with
    | zero => intro b hb; exact absurd hb (Nat.not_lt_zero _)
    | succ n ih =>
      intro b hbn a b9 ha hb hg
      refine zk_lload (pc := 6) dX8_tellsPart_6 rfl ?_
      refine zk_lconst (pc := 8) (v := 0) dX8_tellsPart_8 (by decide) ?_
      refine zk_lcmp (pc := 9) dX8_tellsPart_9 ?_
      refine zk_if_le (pc := 10) 31 dX8_tellsPart_10 (by decide) (fun h10 => ?_) (fun h10 => ?_)
      · rw [lN_gt hb] at h10
        subst h10
        rw [Nat.gcd_zero_right] at hg
        refine zk_aload_n (pc := 31) 0 dX8_tellsPart_31 rfl rfl ?_
        refine zk_lload_n (pc := 32) 1 dX8_tellsPart_32 rfl rfl ?_
        refine zk_lload (pc := 33) dX8_tellsPart_33 rfl ?_
        refine zk_ldiv (pc := 35) dX8_tellsPart_35 (by rw [show (0 : Int64) = lN 0 from rfl, propext (pk_lEQ (by omega) (by decide))]; omega) ?_
        rw [pk_lDiv hA (by omega) ha]
        refine zk_putL (pc := 36) dX8_tellsPart_36 flX8_207 rfl rfl ?_
        refine zk_aload_n (pc := 39) 0 dX8_tellsPart_39 rfl rfl ?_
        refine zk_lload_n (pc := 40) 3 dX8_tellsPart_40 rfl rfl ?_
        refine zk_lload (pc := 41) dX8_tellsPart_41 rfl ?_
        refine zk_ldiv (pc := 43) dX8_tellsPart_43 (by rw [show (0 : Int64) = lN 0 from rfl, propext (pk_lEQ (by omega) (by decide))]; omega) ?_
        rw [pk_lDiv hB (by omega) ha]
        refine zk_putL (pc := 44) dX8_tellsPart_44 flX8_25 rfl rfl ?_
        refine zk_return (pc := 47) dX8_tellsPart_47 rfl (zk_rv0 rfl ?_)
        unfold telD
        rw [hg]
      · rw [lN_gt hb] at h10
        refine zk_lload (pc := 13) dX8_tellsPart_13 rfl ?_
        refine zk_lload (pc := 15) dX8_tellsPart_15 rfl ?_
        refine zk_lrem (pc := 17) dX8_tellsPart_17 (by rw [show (0 : Int64) = lN 0 from rfl, propext (pk_lEQ hb (by decide))]; exact h10) ?_
        rw [pk_lRem ha (by omega) hb]
        refine zs_lstore (pc := 18) (ls' := [_, _, _, _, _, _, _, _, _, _, _]) 9 dX8_tellsPart_18 (by decide) rfl ?_
        refine zk_lload (pc := 20) dX8_tellsPart_20 rfl ?_
        refine zs_lstore (pc := 22) (ls' := [_, _, _, _, _, _, _, _, _, _, _]) 5 dX8_tellsPart_22 (by decide) rfl ?_
        refine zk_lload (pc := 24) dX8_tellsPart_24 rfl ?_
        refine zs_lstore (pc := 26) (ls' := [_, _, _, _, _, _, _, _, _, _, _]) 7 dX8_tellsPart_26 (by decide) rfl ?_
        refine zk_goto (pc := 28) 6 dX8_tellsPart_28 (by decide) ?_
        exact ih (a % b) (by have := Nat.mod_lt a (show 0 < b by omega); omega) b _ hb (by have := Nat.mod_lt a (show 0 < b by omega); omega) (by rw [gcd_st]; exact hg)
  refine zk_lload_n (pc := 0) 1 dX8_tellsPart_0 rfl rfl ?_
  refine zs_lstore (pc := 1) (ls' := [_, _, _, _, _, _, _, _, _, _, _]) 5 dX8_tellsPart_1 (by decide) rfl ?_
  refine zk_lload_n (pc := 3) 3 dX8_tellsPart_3 rfl rfl ?_
  refine zs_lstore (pc := 4) (ls' := [_, _, _, _, _, _, _, _, _, _, _]) 7 dX8_tellsPart_4 (by decide) rfl ?_
  exact loop (B + 1) B (by omega) A _ hA hB rfl
def ptR (k P s : Nat) : Nat → Nat
  | 0 => s
  | h + 1 => ptR k P s h * (if h < k then 12 - P else if k < h then 12 else 1)
theorem ptR_le {k P s : Nat} (hs : s ≤ 12) : ∀ h, ptR k P s h ≤ 12 * 12 ^ h
  | 0 => by rw [ptR]; omega
  | h + 1 => by
    rw [ptR, Nat.pow_succ, ← Nat.mul_assoc]
    refine Nat.mul_le_mul (ptR_le hs h) ?_
    split
    · omega
    · split <;> omega
def pOf (k n P : Nat) : Nat := if k < n then ptR k P P n else ptR k P 12 n / 12
theorem pOf_le {k n P : Nat} (hP : P ≤ 12) (hn : n ≤ 6) : pOf k n P ≤ 12 * 12 ^ 6 := by
  have h6 : 12 ^ n ≤ 12 ^ 6 := Nat.pow_le_pow_right (by decide) hn
  unfold pOf
  split
  · exact Nat.le_trans (ptR_le hP n) (Nat.mul_le_mul_left _ h6)
  · exact Nat.le_trans (Nat.div_le_self _ _) (Nat.le_trans (ptR_le (by decide) n) (Nat.mul_le_mul_left _ h6))
theorem sp_X8_partOf {k n P : Nat} (hk : k ≤ 6) (hn : n ≤ 6) (hP : P ≤ 12) : zk_M d RX8 cX8_partOf 6 (some .long) none 0 (zk_loc [.int (nI k), .int (nI n), .int (nI P)] 6) [] mu lm (zk_R (some (.long (lN (pOf k n P)))) mu lm) := by
  have loop : ∀ s, s ≤ 12 → ∀ h, h ≤ n → zk_M d RX8 cX8_partOf 6 (some .long) none 17 [.int (nI k), .int (nI n), .int (nI P), .long (lN (ptR k P s h)), .retAddr 0, .int (nI h)] [] mu lm (zk_R (some (.long (lN (if k < n then ptR k P s n else ptR k P s n / 12)))) mu lm) := by
    intro s hs
    have hb : ∀ h, h ≤ 6 → ptR k P s h < 2 ^ 40 := fun h hh => Nat.lt_of_le_of_lt (ptR_le hs h) (Nat.lt_of_le_of_lt (Nat.mul_le_mul_left _ (Nat.pow_le_pow_right (by decide) hh)) (by decide))
    refine zk_ind n (fun h hh ih => ?_)
    have hbn := hb n hn
    refine zk_iload (pc := 17) dX8_partOf_17 rfl ?_
    refine zk_iload_n (pc := 19) 1 dX8_partOf_19 rfl rfl ?_
    refine zk_icmp_ge (pc := 20) 60 dX8_partOf_20 (by decide) (fun h20 => ?_) (fun h20 => ?_)
    · rw [nIle (by omega) (by omega)] at h20
      refine zk_iload_n (pc := 60) 0 dX8_partOf_60 rfl rfl ?_
      refine zk_iload_n (pc := 61) 1 dX8_partOf_61 rfl rfl ?_
      refine zk_icmp_ge (pc := 62) 69 dX8_partOf_62 (by decide) (fun h62 => ?_) (fun h62 => ?_)
      · rw [← znl, nIlt (by omega) (by omega)] at h62
        refine zk_lload_n (pc := 69) 3 dX8_partOf_69 rfl rfl ?_
        refine zk_ldc2 (pc := 70) dX8_partOf_70 kcX8_229 ?_
        refine zk_ldiv (pc := 73) dX8_partOf_73 (by decide) ?_
        obtain rfl : h = n := by omega
        refine zk_lreturn (pc := 74) dX8_partOf_74 rfl (zk_rl ?_)
        first
          | rw [if_pos h62]
          | rw [if_neg h62, show (12 : Int64) = lN 12 from rfl, pk_lDiv (by omega) (by decide) (by decide)]
      · rw [← zltn, nIlt (by omega) (by omega)] at h62
        refine zk_lload_n (pc := 65) 3 dX8_partOf_65 rfl rfl ?_
        refine zk_goto (pc := 66) 74 dX8_partOf_66 (by decide) ?_
        obtain rfl : h = n := by omega
        refine zk_lreturn (pc := 74) dX8_partOf_74 rfl (zk_rl ?_)
        first
          | rw [if_pos h62]
          | rw [if_neg h62, show (12 : Int64) = lN 12 from rfl, pk_lDiv (by omega) (by decide) (by decide)]
    · rw [nIle (by omega) (by omega)] at h20
      refine zk_lload_n (pc := 23) 3 dX8_partOf_23 rfl rfl ?_
      refine zk_iload (pc := 24) dX8_partOf_24 rfl ?_
      refine zk_iload_n (pc := 26) 0 dX8_partOf_26 rfl rfl ?_
      refine zk_icmp_ge (pc := 27) 39 dX8_partOf_27 (by decide) (fun h27 => ?_) (fun h27 => ?_)
      · rw [← znl, nIlt (by omega) (by omega)] at h27
        refine zk_iload (pc := 39) dX8_partOf_39 rfl ?_
        refine zk_iload_n (pc := 41) 0 dX8_partOf_41 rfl rfl ?_
        refine zk_icmp_le (pc := 42) 51 dX8_partOf_42 (by decide) (fun h42 => ?_) (fun h42 => ?_)
        · rw [← znl, nIlt (by omega) (by omega)] at h42
          refine zk_lconst (pc := 51) (v := 1) dX8_partOf_51 (by decide) ?_
          refine zk_lmul (pc := 52) dX8_partOf_52 ?_
          first | rw [show (12 : Int64) = lN 12 from rfl, lN_mul] | rw [show (1 : Int64) = lN 1 from rfl, lN_mul] | rw [lN_mul]
          refine zs_lstore_n (pc := 53) (ls' := [_, _, _, _, _, _]) 3 dX8_partOf_53 rfl (by decide) rfl ?_
          refine zs_iinc (pc := 54) (ls' := [_, _, _, _, _, _]) dX8_partOf_54 rfl (nI_1 h) (by decide) rfl ?_
          refine zk_goto (pc := 57) 17 dX8_partOf_57 (by decide) ?_
          have e := ih (by omega)
          rw [ptR] at e
          first
            | (rw [if_pos h27] at e; exact e)
            | (rw [if_neg h27, if_pos h42] at e; exact e)
            | (rw [if_neg h27, if_neg h42] at e; exact e)
        · rw [← zltn, nIlt (by omega) (by omega)] at h42
          refine zk_ldc2 (pc := 45) dX8_partOf_45 kcX8_229 ?_
          refine zk_goto (pc := 48) 52 dX8_partOf_48 (by decide) ?_
          refine zk_lmul (pc := 52) dX8_partOf_52 ?_
          first | rw [show (12 : Int64) = lN 12 from rfl, lN_mul] | rw [show (1 : Int64) = lN 1 from rfl, lN_mul] | rw [lN_mul]
          refine zs_lstore_n (pc := 53) (ls' := [_, _, _, _, _, _]) 3 dX8_partOf_53 rfl (by decide) rfl ?_
          refine zs_iinc (pc := 54) (ls' := [_, _, _, _, _, _]) dX8_partOf_54 rfl (nI_1 h) (by decide) rfl ?_
          refine zk_goto (pc := 57) 17 dX8_partOf_57 (by decide) ?_
          have e := ih (by omega)
          rw [ptR] at e
          first
            | (rw [if_pos h27] at e; exact e)
            | (rw [if_neg h27, if_pos h42] at e; exact e)
            | (rw [if_neg h27, if_neg h42] at e; exact e)
      · rw [← zltn, nIlt (by omega) (by omega)] at h27
        refine zk_ldc2 (pc := 30) dX8_partOf_30 kcX8_229 ?_
        refine zk_iload_n (pc := 33) 2 dX8_partOf_33 rfl rfl ?_
        refine zk_i2l (pc := 34) dX8_partOf_34 ?_
        rw [nI_l (by omega), show (12 : Int64) = lN 12 from rfl]
        refine zk_lsub (pc := 35) dX8_partOf_35 ?_
        rw [lN_sub hP]
        refine zk_goto (pc := 36) 52 dX8_partOf_36 (by decide) ?_
        refine zk_lmul (pc := 52) dX8_partOf_52 ?_
        first | rw [show (12 : Int64) = lN 12 from rfl, lN_mul] | rw [show (1 : Int64) = lN 1 from rfl, lN_mul] | rw [lN_mul]
        refine zs_lstore_n (pc := 53) (ls' := [_, _, _, _, _, _]) 3 dX8_partOf_53 rfl (by decide) rfl ?_
        refine zs_iinc (pc := 54) (ls' := [_, _, _, _, _, _]) dX8_partOf_54 rfl (nI_1 h) (by decide) rfl ?_
        refine zk_goto (pc := 57) 17 dX8_partOf_57 (by decide) ?_
        have e := ih (by omega)
        rw [ptR] at e
        first
          | (rw [if_pos h27] at e; exact e)
          | (rw [if_neg h27, if_pos h42] at e; exact e)
          | (rw [if_neg h27, if_neg h42] at e; exact e)
  refine zk_iload_n (pc := 0) 0 dX8_partOf_0 rfl rfl ?_
  refine zk_iload_n (pc := 1) 1 dX8_partOf_1 rfl rfl ?_
  refine zk_icmp_ge (pc := 2) 10 dX8_partOf_2 (by decide) (fun h2 => ?_) (fun h2 => ?_)
  · rw [← znl, nIlt (by omega) (by omega)] at h2
    refine zk_ldc2 (pc := 10) dX8_partOf_10 kcX8_229 ?_
    refine zs_lstore_n (pc := 13) (ls' := [_, _, _, _, _, _]) 3 dX8_partOf_13 rfl (by decide) rfl ?_
    refine zk_iconst (pc := 14) (v := 0) dX8_partOf_14 (by decide) ?_
    refine zs_istore (pc := 15) (ls' := [_, _, _, _, _, _]) 5 dX8_partOf_15 (by decide) rfl ?_
    unfold pOf
    first
      | (rw [nI_l (by omega)]
         have e := loop P hP 0 (Nat.zero_le _)
         rw [if_pos h2] at e ⊢
         exact e)
      | (have e := loop 12 (by decide) 0 (Nat.zero_le _)
         rw [if_neg h2] at e ⊢
         exact e)
  · rw [← zltn, nIlt (by omega) (by omega)] at h2
    refine zk_iload_n (pc := 5) 2 dX8_partOf_5 rfl rfl ?_
    refine zk_i2l (pc := 6) dX8_partOf_6 ?_
    refine zk_goto (pc := 7) 13 dX8_partOf_7 (by decide) ?_
    refine zs_lstore_n (pc := 13) (ls' := [_, _, _, _, _, _]) 3 dX8_partOf_13 rfl (by decide) rfl ?_
    refine zk_iconst (pc := 14) (v := 0) dX8_partOf_14 (by decide) ?_
    refine zs_istore (pc := 15) (ls' := [_, _, _, _, _, _]) 5 dX8_partOf_15 (by decide) rfl ?_
    unfold pOf
    first
      | (rw [nI_l (by omega)]
         have e := loop P hP 0 (Nat.zero_le _)
         rw [if_pos h2] at e ⊢
         exact e)
      | (have e := loop 12 (by decide) 0 (Nat.zero_le _)
         rw [if_neg h2] at e ⊢
         exact e)
theorem sp_X8_whole {n : Nat} (hn : n ≤ 6) : zk_M d RX8 cX8_whole 4 (some .long) none 0 (zk_loc [.int (nI n)] 4) [] mu lm (zk_R (some (.long (lN (12 ^ n)))) mu lm) := by
  have loop : ∀ h, h ≤ n → zk_M d RX8 cX8_whole 4 (some .long) none 4 [.int (nI n), .long (lN (12 ^ h)), .retAddr 0, .int (nI h)] [] mu lm (zk_R (some (.long (lN (12 ^ n)))) mu lm) := by
    refine zk_ind n (fun h hh ih => ?_)
    refine zk_iload_n (pc := 4) 3 dX8_whole_4 rfl rfl ?_
    refine zk_iload_n (pc := 5) 0 dX8_whole_5 rfl rfl ?_
    refine zk_icmp_ge (pc := 6) 21 dX8_whole_6 (by decide) (fun h6 => ?_) (fun h6 => ?_)
    · rw [nIle (by omega) (by omega)] at h6
      refine zk_lload_n (pc := 21) 1 dX8_whole_21 rfl rfl ?_
      refine zk_lreturn (pc := 22) dX8_whole_22 rfl (zk_rl ?_)
      rw [show h = n by omega]
    · rw [nIle (by omega) (by omega)] at h6
      refine zk_lload_n (pc := 9) 1 dX8_whole_9 rfl rfl ?_
      refine zk_ldc2 (pc := 10) dX8_whole_10 kcX8_229 ?_
      refine zk_lmul (pc := 13) dX8_whole_13 ?_
      refine zs_lstore_n (pc := 14) (ls' := [_, _, _, _]) 1 dX8_whole_14 rfl (by decide) rfl ?_
      refine zs_iinc (pc := 15) (ls' := [_, _, _, _]) dX8_whole_15 rfl (nI_1 h) (by decide) rfl ?_
      refine zk_goto (pc := 18) 4 dX8_whole_18 (by decide) ?_
      have e := ih (by omega)
      rw [Nat.pow_succ, ← lN_mul] at e
      exact e
  refine zk_lconst (pc := 0) (v := 1) dX8_whole_0 (by decide) ?_
  refine zs_lstore_n (pc := 1) (ls' := [_, _, _, _]) 1 dX8_whole_1 rfl (by decide) rfl ?_
  refine zk_iconst (pc := 2) (v := 0) dX8_whole_2 (by decide) ?_
  refine zs_istore_n (pc := 3) (ls' := [_, _, _, _]) 3 dX8_whole_3 rfl (by decide) rfl ?_
  exact loop 0 (Nat.zero_le _)
end M54
