section M55
variable {d : Nat} {mu : Mem} {lm : MemL}
def kQL (x : Int32) (mu : Mem) (lm : MemL) : Option Value → Mem → MemL → Prop := fun r m l => r = some (.int x) ∧ l = lm ∧ ∀ c, c ≠ 56 → m c = mu c
def upS (w : Nat → Nat) (N P k : Nat) : Nat := nsum k (fun h => w h * pOf h N P)
theorem upS_le {w : Nat → Nat} {N P : Nat} (hP : P ≤ 12) (hN : N ≤ 6) (hw : ∀ h, w h ≤ 7992) (k : Nat) : upS w N P k ≤ 7992 * (12 * 12 ^ 6) * k := nsum_le (fun h => Nat.mul_le_mul (hw h) (pOf_le hP hN)) k
theorem upS_lt {w : Nat → Nat} {N P k : Nat} (hP : P ≤ 12) (hN : N ≤ 6) (hk : k ≤ 7) (hw : ∀ h, w h ≤ 7992) : upS w N P k < 2 ^ 60 := Nat.lt_of_le_of_lt (upS_le hP hN hw k) (Nat.lt_of_le_of_lt (Nat.mul_le_mul_left _ hk) (by decide))
/-- how much hangs in all in k hours -/
def aInM (mu : Mem) (C : Nat) (k : Nat) : Int32 := zsum C (fun q => zmax 0 (mu 55 q - mu 46 16 * nI k))
theorem trH_sum {mu : Mem} {C k : Nat} {m : Mem} (h : trH mu C k m) : zsum C (m 56) = aInM mu C k := zsum_cong (fun q hq => h.2 q hq)
theorem sp_X8_odds {C M : Nat} (hC : mu 46 17 = nI C) (hC8 : C ≤ 8) (hM : mu 46 18 = nI M) (hM6 : M ≤ 6) (hA : ∀ q, q < C → 0 ≤ mu 55 q ∧ mu 55 q ≤ 999) (hL : 0 ≤ mu 46 16 ∧ mu 46 16 ≤ 9) (hM0 : 0 < M) {N P : Nat} (hN : N ≤ 6) (hP : P ≤ 12) (wn : Nat → Nat) (hw2 : ∀ h, wn h ≤ 7992) {w : Int32} (hww : 0 ≤ w ∧ w ≤ 7992) (hwn : ∀ h, h ≤ N → wn h = if w ≤ aInM mu C h then 1 else 0) : zk_M (d + 2) RX8 cX8_odds 7 (some .int) none 0 (zk_loc [.ref 46, .int w, .int (nI N), .int (nI P)] 7) [] mu lm (kQL 1 mu (telD lm (upS wn N P (N + 1)) (12 ^ N))) := by
  have hNn : (0 : Int32) ≤ nI N ∧ nI N ≤ 6 := ⟨nI_pos' (by omega), show nI N ≤ nI 6 from nI_le hN (by decide)⟩
  have hPp : (0 : Int32) ≤ nI P ∧ nI P ≤ 12 := ⟨nI_pos' (by omega), show nI P ≤ nI 12 from nI_le hP (by decide)⟩
  have loop : ∀ k, k ≤ N + 1 → ∀ nu : Mem, trH mu C k nu → zk_M (d + 2) RX8 cX8_odds 7 (some .int) none 53 [.ref 46, .int w, .int (nI N), .int (nI P), .long (lN (upS wn N P k)), .retAddr 0, .int (nI k)] [] nu lm (kQL 1 mu (telD lm (upS wn N P (N + 1)) (12 ^ N))) := by
    refine zk_ind (N + 1) (fun k hk ih => ?_)
    intro nu ht
    refine zk_iload (pc := 53) dX8_odds_53 rfl ?_
    refine zk_iload_n (pc := 55) 2 dX8_odds_55 rfl rfl ?_
    refine zk_icmp_gt (pc := 56) 102 dX8_odds_56 (by decide) (fun h56 => ?_) (fun h56 => ?_)
    · rw [nIlt (by omega) (by omega)] at h56
      refine zk_aload_n (pc := 102) 0 dX8_odds_102 rfl rfl ?_
      refine zk_lload (pc := 103) dX8_odds_103 rfl ?_
      refine zk_iload_n (pc := 105) 2 dX8_odds_105 rfl rfl ?_
      refine zk_callSJ (pc := 106) dX8_odds_106 mtX8_whole lkX8_235 stX8_whole [_] _ rfl rfl (Nat.le_of_ble_eq_true rfl) (Nat.le_of_ble_eq_true rfl) (sp_X8_whole hN) ?_
      obtain rfl : k = N + 1 := by omega
      refine zk_callVV (pc := 109) dX8_odds_109 mtX8_tellsPart lkX8_239 stX8_tellsPart (by rfl) (by rfl) [_, _] _ rfl rfl (Nat.le_of_ble_eq_true rfl) (Nat.le_of_ble_eq_true rfl) (sp_X8_tellsPart (Nat.lt_trans (upS_lt hP hN (by omega) hw2) (by decide)) (Nat.lt_of_le_of_lt (Nat.pow_le_pow_right (by decide) hN) (by decide)) (Nat.pow_pos (by decide))) ?_
      refine zk_iconst (pc := 112) (v := 1) dX8_odds_112 (by decide) ?_
      exact zk_ireturn (pc := 113) dX8_odds_113 (Or.inl rfl) ⟨rfl, rfl, ht.1⟩
    · rw [nIlt (by omega) (by omega)] at h56
      refine zk_lload (pc := 59) dX8_odds_59 rfl ?_
      refine zk_aload_n (pc := 61) 0 dX8_odds_61 rfl rfl ?_
      refine zk_aload_n (pc := 62) 0 dX8_odds_62 rfl rfl ?_
      refine zk_getR (pc := 63) dX8_odds_63 flX8_41 rfl rfl ?_
      refine zk_callVI (pc := 66) dX8_odds_66 mtX8_allIn lkX8_167 stX8_allIn (by rfl) (by rfl) [_] _ rfl rfl (Nat.le_of_ble_eq_true rfl) (Nat.le_of_ble_eq_true rfl) (sp_X8_allIn (c := 56) (n := 17) rfl (by rw [ht.1 46 (by decide)]; exact hC) hC8 (by decide)) ?_
      refine zk_iload_n (pc := 69) 1 dX8_odds_69 rfl rfl ?_
      refine zk_icmp_lt (pc := 70) 83 dX8_odds_70 (by decide) (fun h70 => ?_) (fun h70 => ?_)
      · rw [zltn] at h70
        refine zk_lconst (pc := 83) (v := 0) dX8_odds_83 (by decide) ?_
        refine zk_ladd (pc := 84) dX8_odds_84 ?_
        first | rw [show (0 : Int64) = lN 0 from rfl, lN_add] | rw [lN_add]
        refine zs_lstore (pc := 85) (ls' := [_, _, _, _, _, _, _]) 4 dX8_odds_85 (by decide) rfl ?_
        refine zk_aload_n (pc := 87) 0 dX8_odds_87 rfl rfl ?_
        refine zk_aload_n (pc := 88) 0 dX8_odds_88 rfl rfl ?_
        refine zk_getR (pc := 89) dX8_odds_89 flX8_41 rfl rfl ?_
        refine zk_callVI (pc := 92) dX8_odds_92 mtX8_hourIn lkX8_177 stX8_hourIn (by rfl) (by rfl) [_] _ rfl rfl (Nat.le_of_ble_eq_true rfl) (Nat.le_of_ble_eq_true rfl) (sp_X8_hourIn (s := 56) rfl (by decide) (by decide) (by decide) (by rw [ht.1 46 (by decide)]; exact hC) hC8 (by rw [ht.1 46 (by decide)]; exact hL.1) (by rw [ht.1 46 (by decide)]; exact hL.2) (trH_b ht (by omega) hA hL)) ?_
        refine zk_pop (pc := 95) dX8_odds_95 rfl ?_
        refine zs_iinc (pc := 96) (ls' := [_, _, _, _, _, _, _]) dX8_odds_96 rfl (nI_1 k) (by decide) rfl ?_
        refine zk_goto (pc := 99) 53 dX8_odds_99 (by decide) ?_
        have e := ih (by omega) _ (trH_s ht hC8 (by omega) hA hL)
        have e2 : upS wn N P (k + 1) = upS wn N P k + wn k * pOf k N P := rfl
        rw [e2, hwn k (by omega), ← trH_sum ht] at e
        first
          | (rw [if_neg h70, Nat.zero_mul] at e; exact e)
          | (rw [if_pos h70, Nat.one_mul] at e; exact e)
      · rw [znl] at h70
        refine zk_iload (pc := 73) dX8_odds_73 rfl ?_
        refine zk_iload_n (pc := 75) 2 dX8_odds_75 rfl rfl ?_
        refine zk_iload_n (pc := 76) 3 dX8_odds_76 rfl rfl ?_
        refine zk_callSJ (pc := 77) dX8_odds_77 mtX8_partOf lkX8_231 stX8_partOf [_, _, _] _ rfl rfl (Nat.le_of_ble_eq_true rfl) (Nat.le_of_ble_eq_true rfl) (sp_X8_partOf (by omega) hN hP) ?_
        refine zk_goto (pc := 80) 84 dX8_odds_80 (by decide) ?_
        refine zk_ladd (pc := 84) dX8_odds_84 ?_
        first | rw [show (0 : Int64) = lN 0 from rfl, lN_add] | rw [lN_add]
        refine zs_lstore (pc := 85) (ls' := [_, _, _, _, _, _, _]) 4 dX8_odds_85 (by decide) rfl ?_
        refine zk_aload_n (pc := 87) 0 dX8_odds_87 rfl rfl ?_
        refine zk_aload_n (pc := 88) 0 dX8_odds_88 rfl rfl ?_
        refine zk_getR (pc := 89) dX8_odds_89 flX8_41 rfl rfl ?_
        refine zk_callVI (pc := 92) dX8_odds_92 mtX8_hourIn lkX8_177 stX8_hourIn (by rfl) (by rfl) [_] _ rfl rfl (Nat.le_of_ble_eq_true rfl) (Nat.le_of_ble_eq_true rfl) (sp_X8_hourIn (s := 56) rfl (by decide) (by decide) (by decide) (by rw [ht.1 46 (by decide)]; exact hC) hC8 (by rw [ht.1 46 (by decide)]; exact hL.1) (by rw [ht.1 46 (by decide)]; exact hL.2) (trH_b ht (by omega) hA hL)) ?_
        refine zk_pop (pc := 95) dX8_odds_95 rfl ?_
        refine zs_iinc (pc := 96) (ls' := [_, _, _, _, _, _, _]) dX8_odds_96 rfl (nI_1 k) (by decide) rfl ?_
        refine zk_goto (pc := 99) 53 dX8_odds_99 (by decide) ?_
        have e := ih (by omega) _ (trH_s ht hC8 (by omega) hA hL)
        have e2 : upS wn N P (k + 1) = upS wn N P k + wn k * pOf k N P := rfl
        rw [e2, hwn k (by omega), ← trH_sum ht] at e
        first
          | (rw [if_neg h70, Nat.zero_mul] at e; exact e)
          | (rw [if_pos h70, Nat.one_mul] at e; exact e)
  refine zk_iload_n (pc := 0) 1 dX8_odds_0 rfl rfl ?_
  refine zk_iconst (pc := 1) (v := 0) dX8_odds_1 (by decide) ?_
  refine zk_sipush (pc := 2) (v := 7992) dX8_odds_2 (by decide) ?_
  refine zk_callSI (pc := 5) dX8_odds_5 mtX8_in lkX8_66 stX8_in [_, _, _] _ rfl rfl (Nat.le_of_ble_eq_true rfl) (Nat.le_of_ble_eq_true rfl) (sp_X8_in _ _ _) ?_
  refine zk_if_eq (pc := 8) 31 dX8_odds_8 (by decide) (fun h8 => ?_) (fun h8 => ?_)
  · rw [zb_e] at h8
    exact absurd hww h8 --
  · skip
    refine zk_iload_n (pc := 11) 2 dX8_odds_11 rfl rfl ?_
    refine zk_iconst (pc := 12) (v := 0) dX8_odds_12 (by decide) ?_
    refine zk_bipush (pc := 13) (v := 6) dX8_odds_13 (by decide) ?_
    refine zk_callSI (pc := 15) dX8_odds_15 mtX8_in lkX8_66 stX8_in [_, _, _] _ rfl rfl (Nat.le_of_ble_eq_true rfl) (Nat.le_of_ble_eq_true rfl) (sp_X8_in _ _ _) ?_
    refine zk_if_eq (pc := 18) 31 dX8_odds_18 (by decide) (fun h18 => ?_) (fun h18 => ?_)
    · rw [zb_e] at h18
      exact absurd hNn h18 --
    · skip
      refine zk_iload_n (pc := 21) 3 dX8_odds_21 rfl rfl ?_
      refine zk_iconst (pc := 22) (v := 0) dX8_odds_22 (by decide) ?_
      refine zk_bipush (pc := 23) (v := 12) dX8_odds_23 (by decide) ?_
      refine zk_callSI (pc := 25) dX8_odds_25 mtX8_in lkX8_66 stX8_in [_, _, _] _ rfl rfl (Nat.le_of_ble_eq_true rfl) (Nat.le_of_ble_eq_true rfl) (sp_X8_in _ _ _) ?_
      refine zk_if_ne (pc := 28) 33 dX8_odds_28 (by decide) (fun h28 => ?_) (fun h28 => ?_)
      · skip
        refine zk_aload_n (pc := 33) 0 dX8_odds_33 rfl rfl ?_
        refine zk_getI (pc := 34) dX8_odds_34 flX8_63 rfl rfl ?_
        refine zk_if_ne (pc := 37) 43 dX8_odds_37 (by decide) (fun h37 => ?_) (fun h37 => ?_)
        · skip
          refine zk_aload_n (pc := 43) 0 dX8_odds_43 rfl rfl ?_
          refine zk_callVV (pc := 44) dX8_odds_44 mtX8_begin lkX8_184 stX8_begin (by rfl) (by rfl) [] _ rfl rfl (Nat.le_of_ble_eq_true rfl) (Nat.le_of_ble_eq_true rfl) (sp_X8_begin) ?_
          refine zk_lconst (pc := 47) (v := 0) dX8_odds_47 (by decide) ?_
          refine zs_lstore (pc := 48) (ls' := [_, _, _, _, _, _, _]) 4 dX8_odds_48 (by decide) rfl ?_
          refine zk_iconst (pc := 50) (v := 0) dX8_odds_50 (by decide) ?_
          refine zs_istore (pc := 51) (ls' := [_, _, _, _, _, _, _]) 6 dX8_odds_51 (by decide) rfl ?_
          exact loop 0 (Nat.zero_le _) _ (trH_0 hC8 hA)
        · rw [hM] at h37
          exact absurd h37 (nI_ne0 hM0 (by omega)) --
      · rw [zb_e] at h28
        exact absurd hPp h28 --
theorem sp_X8_odds_n (w n p : Int32) (hb : ¬ ((0 ≤ w ∧ w ≤ 7992) ∧ (0 ≤ n ∧ n ≤ 6) ∧ (0 ≤ p ∧ p ≤ 12))) : zk_M (d + 1) RX8 cX8_odds 7 (some .int) none 0 (zk_loc [.ref 46, .int w, .int n, .int p] 7) [] mu lm (zk_R (some (.int (-1))) mu lm) := by
  refine zk_iload_n (pc := 0) 1 dX8_odds_0 rfl rfl ?_
  refine zk_iconst (pc := 1) (v := 0) dX8_odds_1 (by decide) ?_
  refine zk_sipush (pc := 2) (v := 7992) dX8_odds_2 (by decide) ?_
  refine zk_callSI (pc := 5) dX8_odds_5 mtX8_in lkX8_66 stX8_in [_, _, _] _ rfl rfl (Nat.le_of_ble_eq_true rfl) (Nat.le_of_ble_eq_true rfl) (sp_X8_in _ _ _) ?_
  refine zk_if_eq (pc := 8) 31 dX8_odds_8 (by decide) (fun h8 => ?_) (fun h8 => ?_)
  · rw [zb_e] at h8
    refine zk_iconst (pc := 31) (v := -1) dX8_odds_31 (by decide) ?_
    exact zk_ireturn (pc := 32) dX8_odds_32 (Or.inl rfl) (zk_ri rfl)
  · rw [zb_n] at h8
    refine zk_iload_n (pc := 11) 2 dX8_odds_11 rfl rfl ?_
    refine zk_iconst (pc := 12) (v := 0) dX8_odds_12 (by decide) ?_
    refine zk_bipush (pc := 13) (v := 6) dX8_odds_13 (by decide) ?_
    refine zk_callSI (pc := 15) dX8_odds_15 mtX8_in lkX8_66 stX8_in [_, _, _] _ rfl rfl (Nat.le_of_ble_eq_true rfl) (Nat.le_of_ble_eq_true rfl) (sp_X8_in _ _ _) ?_
    refine zk_if_eq (pc := 18) 31 dX8_odds_18 (by decide) (fun h18 => ?_) (fun h18 => ?_)
    · rw [zb_e] at h18
      refine zk_iconst (pc := 31) (v := -1) dX8_odds_31 (by decide) ?_
      exact zk_ireturn (pc := 32) dX8_odds_32 (Or.inl rfl) (zk_ri rfl)
    · rw [zb_n] at h18
      refine zk_iload_n (pc := 21) 3 dX8_odds_21 rfl rfl ?_
      refine zk_iconst (pc := 22) (v := 0) dX8_odds_22 (by decide) ?_
      refine zk_bipush (pc := 23) (v := 12) dX8_odds_23 (by decide) ?_
      refine zk_callSI (pc := 25) dX8_odds_25 mtX8_in lkX8_66 stX8_in [_, _, _] _ rfl rfl (Nat.le_of_ble_eq_true rfl) (Nat.le_of_ble_eq_true rfl) (sp_X8_in _ _ _) ?_
      refine zk_if_ne (pc := 28) 33 dX8_odds_28 (by decide) (fun h28 => ?_) (fun h28 => ?_)
      · rw [zb_n] at h28
        exact absurd ⟨h8, h18, h28⟩ hb --
      · rw [zb_e] at h28
        refine zk_iconst (pc := 31) (v := -1) dX8_odds_31 (by decide) ?_
        exact zk_ireturn (pc := 32) dX8_odds_32 (Or.inl rfl) (zk_ri rfl)
theorem sp_X8_odds_0 {w n p : Int32} (hb : (0 ≤ w ∧ w ≤ 7992) ∧ (0 ≤ n ∧ n ≤ 6) ∧ (0 ≤ p ∧ p ≤ 12)) (hM : mu 46 18 = 0) : zk_M (d + 1) RX8 cX8_odds 7 (some .int) none 0 (zk_loc [.ref 46, .int w, .int n, .int p] 7) [] mu lm (zk_R (some (.int (-4))) mu lm) := by
  refine zk_iload_n (pc := 0) 1 dX8_odds_0 rfl rfl ?_
  refine zk_iconst (pc := 1) (v := 0) dX8_odds_1 (by decide) ?_
  refine zk_sipush (pc := 2) (v := 7992) dX8_odds_2 (by decide) ?_
  refine zk_callSI (pc := 5) dX8_odds_5 mtX8_in lkX8_66 stX8_in [_, _, _] _ rfl rfl (Nat.le_of_ble_eq_true rfl) (Nat.le_of_ble_eq_true rfl) (sp_X8_in _ _ _) ?_
  refine zk_if_eq (pc := 8) 31 dX8_odds_8 (by decide) (fun h8 => ?_) (fun h8 => ?_)
  · rw [zb_e] at h8
    exact absurd hb.1 h8 --
  · skip
    refine zk_iload_n (pc := 11) 2 dX8_odds_11 rfl rfl ?_
    refine zk_iconst (pc := 12) (v := 0) dX8_odds_12 (by decide) ?_
    refine zk_bipush (pc := 13) (v := 6) dX8_odds_13 (by decide) ?_
    refine zk_callSI (pc := 15) dX8_odds_15 mtX8_in lkX8_66 stX8_in [_, _, _] _ rfl rfl (Nat.le_of_ble_eq_true rfl) (Nat.le_of_ble_eq_true rfl) (sp_X8_in _ _ _) ?_
    refine zk_if_eq (pc := 18) 31 dX8_odds_18 (by decide) (fun h18 => ?_) (fun h18 => ?_)
    · rw [zb_e] at h18
      exact absurd hb.2.1 h18 --
    · skip
      refine zk_iload_n (pc := 21) 3 dX8_odds_21 rfl rfl ?_
      refine zk_iconst (pc := 22) (v := 0) dX8_odds_22 (by decide) ?_
      refine zk_bipush (pc := 23) (v := 12) dX8_odds_23 (by decide) ?_
      refine zk_callSI (pc := 25) dX8_odds_25 mtX8_in lkX8_66 stX8_in [_, _, _] _ rfl rfl (Nat.le_of_ble_eq_true rfl) (Nat.le_of_ble_eq_true rfl) (sp_X8_in _ _ _) ?_
      refine zk_if_ne (pc := 28) 33 dX8_odds_28 (by decide) (fun h28 => ?_) (fun h28 => ?_)
      · skip
        refine zk_aload_n (pc := 33) 0 dX8_odds_33 rfl rfl ?_
        refine zk_getI (pc := 34) dX8_odds_34 flX8_63 rfl rfl ?_
        refine zk_if_ne (pc := 37) 43 dX8_odds_37 (by decide) (fun h37 => ?_) (fun h37 => ?_)
        · exact absurd hM h37 --
        · skip
          refine zk_bipush (pc := 40) (v := -4) dX8_odds_40 (by decide) ?_
          exact zk_ireturn (pc := 42) dX8_odds_42 (Or.inl rfl) (zk_ri rfl)
      · rw [zb_e] at h28
        exact absurd hb.2.2 h28 --
theorem sp_X8_mid {C M : Nat} (hC : mu 46 17 = nI C) (hC8 : C ≤ 8) (hM : mu 46 18 = nI M) (hM6 : M ≤ 6) (hA : ∀ q, q < C → 0 ≤ mu 55 q ∧ mu 55 q ≤ 999) (hL : 0 ≤ mu 46 16 ∧ mu 46 16 ≤ 9) (hM0 : 0 < M) {N P : Nat} (hN : N ≤ 6) (hP : P ≤ 12) (wn : Nat → Nat) (hw2 : ∀ h, wn h ≤ 7992) (hwn : ∀ h, h ≤ N → aInM mu C h = nI (wn h)) : zk_M (d + 2) RX8 cX8_mid 6 (some .int) none 0 (zk_loc [.ref 46, .int (nI N), .int (nI P)] 6) [] mu lm (kQL 1 mu (telD lm (upS wn N P (N + 1)) (12 ^ N))) := by
  have hNn : (0 : Int32) ≤ nI N ∧ nI N ≤ 6 := ⟨nI_pos' (by omega), show nI N ≤ nI 6 from nI_le hN (by decide)⟩
  have hPp : (0 : Int32) ≤ nI P ∧ nI P ≤ 12 := ⟨nI_pos' (by omega), show nI P ≤ nI 12 from nI_le hP (by decide)⟩
  have loop : ∀ k, k ≤ N + 1 → ∀ nu : Mem, trH mu C k nu → zk_M (d + 2) RX8 cX8_mid 6 (some .int) none 41 [.ref 46, .int (nI N), .int (nI P), .long (lN (upS wn N P k)), .retAddr 0, .int (nI k)] [] nu lm (kQL 1 mu (telD lm (upS wn N P (N + 1)) (12 ^ N))) := by
    refine zk_ind (N + 1) (fun k hk ih => ?_)
    intro nu ht
    refine zk_iload (pc := 41) dX8_mid_41 rfl ?_
    refine zk_iload_n (pc := 43) 1 dX8_mid_43 rfl rfl ?_
    refine zk_icmp_gt (pc := 44) 82 dX8_mid_44 (by decide) (fun h44 => ?_) (fun h44 => ?_)
    · rw [nIlt (by omega) (by omega)] at h44
      refine zk_aload_n (pc := 82) 0 dX8_mid_82 rfl rfl ?_
      refine zk_lload_n (pc := 83) 3 dX8_mid_83 rfl rfl ?_
      refine zk_iload_n (pc := 84) 1 dX8_mid_84 rfl rfl ?_
      refine zk_callSJ (pc := 85) dX8_mid_85 mtX8_whole lkX8_235 stX8_whole [_] _ rfl rfl (Nat.le_of_ble_eq_true rfl) (Nat.le_of_ble_eq_true rfl) (sp_X8_whole hN) ?_
      obtain rfl : k = N + 1 := by omega
      refine zk_callVV (pc := 88) dX8_mid_88 mtX8_tellsPart lkX8_239 stX8_tellsPart (by rfl) (by rfl) [_, _] _ rfl rfl (Nat.le_of_ble_eq_true rfl) (Nat.le_of_ble_eq_true rfl) (sp_X8_tellsPart (Nat.lt_trans (upS_lt hP hN (by omega) hw2) (by decide)) (Nat.lt_of_le_of_lt (Nat.pow_le_pow_right (by decide) hN) (by decide)) (Nat.pow_pos (by decide))) ?_
      refine zk_iconst (pc := 91) (v := 1) dX8_mid_91 (by decide) ?_
      exact zk_ireturn (pc := 92) dX8_mid_92 (Or.inl rfl) ⟨rfl, rfl, ht.1⟩
    · rw [nIlt (by omega) (by omega)] at h44
      refine zk_lload_n (pc := 47) 3 dX8_mid_47 rfl rfl ?_
      refine zk_aload_n (pc := 48) 0 dX8_mid_48 rfl rfl ?_
      refine zk_aload_n (pc := 49) 0 dX8_mid_49 rfl rfl ?_
      refine zk_getR (pc := 50) dX8_mid_50 flX8_41 rfl rfl ?_
      refine zk_callVI (pc := 53) dX8_mid_53 mtX8_allIn lkX8_167 stX8_allIn (by rfl) (by rfl) [_] _ rfl rfl (Nat.le_of_ble_eq_true rfl) (Nat.le_of_ble_eq_true rfl) (sp_X8_allIn (c := 56) (n := 17) rfl (by rw [ht.1 46 (by decide)]; exact hC) hC8 (by decide)) ?_
      refine zk_i2l (pc := 56) dX8_mid_56 ?_
      have hb := hw2 k
      rw [trH_sum ht, hwn k (by omega), nI_l (by omega)]
      refine zk_iload (pc := 57) dX8_mid_57 rfl ?_
      refine zk_iload_n (pc := 59) 1 dX8_mid_59 rfl rfl ?_
      refine zk_iload_n (pc := 60) 2 dX8_mid_60 rfl rfl ?_
      refine zk_callSJ (pc := 61) dX8_mid_61 mtX8_partOf lkX8_231 stX8_partOf [_, _, _] _ rfl rfl (Nat.le_of_ble_eq_true rfl) (Nat.le_of_ble_eq_true rfl) (sp_X8_partOf (by omega) hN hP) ?_
      refine zk_lmul (pc := 64) dX8_mid_64 ?_
      rw [lN_mul]
      refine zk_ladd (pc := 65) dX8_mid_65 ?_
      rw [lN_add]
      refine zs_lstore_n (pc := 66) (ls' := [_, _, _, _, _, _]) 3 dX8_mid_66 rfl (by decide) rfl ?_
      refine zk_aload_n (pc := 67) 0 dX8_mid_67 rfl rfl ?_
      refine zk_aload_n (pc := 68) 0 dX8_mid_68 rfl rfl ?_
      refine zk_getR (pc := 69) dX8_mid_69 flX8_41 rfl rfl ?_
      refine zk_callVI (pc := 72) dX8_mid_72 mtX8_hourIn lkX8_177 stX8_hourIn (by rfl) (by rfl) [_] _ rfl rfl (Nat.le_of_ble_eq_true rfl) (Nat.le_of_ble_eq_true rfl) (sp_X8_hourIn (s := 56) rfl (by decide) (by decide) (by decide) (by rw [ht.1 46 (by decide)]; exact hC) hC8 (by rw [ht.1 46 (by decide)]; exact hL.1) (by rw [ht.1 46 (by decide)]; exact hL.2) (trH_b ht (by omega) hA hL)) ?_
      refine zk_pop (pc := 75) dX8_mid_75 rfl ?_
      refine zs_iinc (pc := 76) (ls' := [_, _, _, _, _, _]) dX8_mid_76 rfl (nI_1 k) (by decide) rfl ?_
      refine zk_goto (pc := 79) 41 dX8_mid_79 (by decide) ?_
      exact ih (by omega) _ (trH_s ht hC8 (by omega) hA hL)
  refine zk_iload_n (pc := 0) 1 dX8_mid_0 rfl rfl ?_
  refine zk_iconst (pc := 1) (v := 0) dX8_mid_1 (by decide) ?_
  refine zk_bipush (pc := 2) (v := 6) dX8_mid_2 (by decide) ?_
  refine zk_callSI (pc := 4) dX8_mid_4 mtX8_in lkX8_66 stX8_in [_, _, _] _ rfl rfl (Nat.le_of_ble_eq_true rfl) (Nat.le_of_ble_eq_true rfl) (sp_X8_in _ _ _) ?_
  refine zk_if_eq (pc := 7) 20 dX8_mid_7 (by decide) (fun h7 => ?_) (fun h7 => ?_)
  · rw [zb_e] at h7
    exact absurd hNn h7 --
  · skip
    refine zk_iload_n (pc := 10) 2 dX8_mid_10 rfl rfl ?_
    refine zk_iconst (pc := 11) (v := 0) dX8_mid_11 (by decide) ?_
    refine zk_bipush (pc := 12) (v := 12) dX8_mid_12 (by decide) ?_
    refine zk_callSI (pc := 14) dX8_mid_14 mtX8_in lkX8_66 stX8_in [_, _, _] _ rfl rfl (Nat.le_of_ble_eq_true rfl) (Nat.le_of_ble_eq_true rfl) (sp_X8_in _ _ _) ?_
    refine zk_if_ne (pc := 17) 22 dX8_mid_17 (by decide) (fun h17 => ?_) (fun h17 => ?_)
    · skip
      refine zk_aload_n (pc := 22) 0 dX8_mid_22 rfl rfl ?_
      refine zk_getI (pc := 23) dX8_mid_23 flX8_63 rfl rfl ?_
      refine zk_if_ne (pc := 26) 32 dX8_mid_26 (by decide) (fun h26 => ?_) (fun h26 => ?_)
      · skip
        refine zk_aload_n (pc := 32) 0 dX8_mid_32 rfl rfl ?_
        refine zk_callVV (pc := 33) dX8_mid_33 mtX8_begin lkX8_184 stX8_begin (by rfl) (by rfl) [] _ rfl rfl (Nat.le_of_ble_eq_true rfl) (Nat.le_of_ble_eq_true rfl) (sp_X8_begin) ?_
        refine zk_lconst (pc := 36) (v := 0) dX8_mid_36 (by decide) ?_
        refine zs_lstore_n (pc := 37) (ls' := [_, _, _, _, _, _]) 3 dX8_mid_37 rfl (by decide) rfl ?_
        refine zk_iconst (pc := 38) (v := 0) dX8_mid_38 (by decide) ?_
        refine zs_istore (pc := 39) (ls' := [_, _, _, _, _, _]) 5 dX8_mid_39 (by decide) rfl ?_
        exact loop 0 (Nat.zero_le _) _ (trH_0 hC8 hA)
      · rw [hM] at h26
        exact absurd h26 (nI_ne0 hM0 (by omega)) --
    · rw [zb_e] at h17
      exact absurd hPp h17 --
theorem sp_X8_mid_n (n p : Int32) (hb : ¬ ((0 ≤ n ∧ n ≤ 6) ∧ (0 ≤ p ∧ p ≤ 12))) : zk_M (d + 1) RX8 cX8_mid 6 (some .int) none 0 (zk_loc [.ref 46, .int n, .int p] 6) [] mu lm (zk_R (some (.int (-1))) mu lm) := by
  refine zk_iload_n (pc := 0) 1 dX8_mid_0 rfl rfl ?_
  refine zk_iconst (pc := 1) (v := 0) dX8_mid_1 (by decide) ?_
  refine zk_bipush (pc := 2) (v := 6) dX8_mid_2 (by decide) ?_
  refine zk_callSI (pc := 4) dX8_mid_4 mtX8_in lkX8_66 stX8_in [_, _, _] _ rfl rfl (Nat.le_of_ble_eq_true rfl) (Nat.le_of_ble_eq_true rfl) (sp_X8_in _ _ _) ?_
  refine zk_if_eq (pc := 7) 20 dX8_mid_7 (by decide) (fun h7 => ?_) (fun h7 => ?_)
  · rw [zb_e] at h7
    refine zk_iconst (pc := 20) (v := -1) dX8_mid_20 (by decide) ?_
    exact zk_ireturn (pc := 21) dX8_mid_21 (Or.inl rfl) (zk_ri rfl)
  · rw [zb_n] at h7
    refine zk_iload_n (pc := 10) 2 dX8_mid_10 rfl rfl ?_
    refine zk_iconst (pc := 11) (v := 0) dX8_mid_11 (by decide) ?_
    refine zk_bipush (pc := 12) (v := 12) dX8_mid_12 (by decide) ?_
    refine zk_callSI (pc := 14) dX8_mid_14 mtX8_in lkX8_66 stX8_in [_, _, _] _ rfl rfl (Nat.le_of_ble_eq_true rfl) (Nat.le_of_ble_eq_true rfl) (sp_X8_in _ _ _) ?_
    refine zk_if_ne (pc := 17) 22 dX8_mid_17 (by decide) (fun h17 => ?_) (fun h17 => ?_)
    · rw [zb_n] at h17
      exact absurd ⟨h7, h17⟩ hb --
    · rw [zb_e] at h17
      refine zk_iconst (pc := 20) (v := -1) dX8_mid_20 (by decide) ?_
      exact zk_ireturn (pc := 21) dX8_mid_21 (Or.inl rfl) (zk_ri rfl)
theorem sp_X8_mid_0 {n p : Int32} (hb : (0 ≤ n ∧ n ≤ 6) ∧ (0 ≤ p ∧ p ≤ 12)) (hM : mu 46 18 = 0) : zk_M (d + 1) RX8 cX8_mid 6 (some .int) none 0 (zk_loc [.ref 46, .int n, .int p] 6) [] mu lm (zk_R (some (.int (-4))) mu lm) := by
  refine zk_iload_n (pc := 0) 1 dX8_mid_0 rfl rfl ?_
  refine zk_iconst (pc := 1) (v := 0) dX8_mid_1 (by decide) ?_
  refine zk_bipush (pc := 2) (v := 6) dX8_mid_2 (by decide) ?_
  refine zk_callSI (pc := 4) dX8_mid_4 mtX8_in lkX8_66 stX8_in [_, _, _] _ rfl rfl (Nat.le_of_ble_eq_true rfl) (Nat.le_of_ble_eq_true rfl) (sp_X8_in _ _ _) ?_
  refine zk_if_eq (pc := 7) 20 dX8_mid_7 (by decide) (fun h7 => ?_) (fun h7 => ?_)
  · rw [zb_e] at h7
    exact absurd hb.1 h7 --
  · skip
    refine zk_iload_n (pc := 10) 2 dX8_mid_10 rfl rfl ?_
    refine zk_iconst (pc := 11) (v := 0) dX8_mid_11 (by decide) ?_
    refine zk_bipush (pc := 12) (v := 12) dX8_mid_12 (by decide) ?_
    refine zk_callSI (pc := 14) dX8_mid_14 mtX8_in lkX8_66 stX8_in [_, _, _] _ rfl rfl (Nat.le_of_ble_eq_true rfl) (Nat.le_of_ble_eq_true rfl) (sp_X8_in _ _ _) ?_
    refine zk_if_ne (pc := 17) 22 dX8_mid_17 (by decide) (fun h17 => ?_) (fun h17 => ?_)
    · skip
      refine zk_aload_n (pc := 22) 0 dX8_mid_22 rfl rfl ?_
      refine zk_getI (pc := 23) dX8_mid_23 flX8_63 rfl rfl ?_
      refine zk_if_ne (pc := 26) 32 dX8_mid_26 (by decide) (fun h26 => ?_) (fun h26 => ?_)
      · exact absurd hM h26 --
      · skip
        refine zk_bipush (pc := 29) (v := -4) dX8_mid_29 (by decide) ?_
        exact zk_ireturn (pc := 31) dX8_mid_31 (Or.inl rfl) (zk_ri rfl)
    · rw [zb_e] at h17
      exact absurd hb.2 h17 --
def enD (m : Mem) (C w o : Nat) (v : Int32) : Mem := if w = 0 then tkS m 55 o v C else if w = 1 then hrS m 55 C else if w = 2 then zk_up m 55 o 0 else thS m 55 C
theorem enD_c {m : Mem} {C w o c : Nat} {v : Int32} (h : c ≠ 55) : enD m C w o v c = m c := by
  unfold enD
  split
  · unfold tkS; rw [zuc_c _ _ h]
  · split
    · unfold hrS; funext z; rw [zup_c _ _ _ h, hrA_c _ _ h]
    · split
      · funext z; rw [zup_c _ _ _ h]
      · unfold thS; funext z; rw [zfill_c _ _ _ _ h, zup_c _ _ _ h]
def okV (m : Mem) (C : Nat) : Prop := ∀ q, q < C → 0 ≤ m 55 q ∧ m 55 q ≤ 999
theorem zmin_0 {x : Int32} (h : 0 ≤ x) : 0 ≤ zmin 999 x := by
  unfold zmin
  split
  · exact h
  · decide
theorem enD_ok {m : Mem} {C w o V : Nat} (hC8 : C ≤ 8) (hL : 0 ≤ m 46 16 ∧ m 46 16 ≤ 9) (hV : V ≤ 99) (h : okV m C) : okV (enD m C w o (nI V)) C := by
  intro q hq
  obtain ⟨L, hL9, eL⟩ := zgetb (b := 9) (by decide) hL
  obtain ⟨X, hX, eX⟩ := zgetb (b := 999) (by decide) (h q hq)
  unfold enD
  split
  · unfold tkS
    rw [zuc_s, if_pos hq, eX, (shr_n hV).2, nI_add]
    have hs := (shr_n (kind := m 53 o) (seat := m 54 o) (cells := m 46 17) (c := nI q) hV).1
    rw [zmin_n (by omega)]
    exact ⟨nI_pos' (by omega), show nI _ ≤ nI 999 from nI_le (by omega) (by decide)⟩
  · split
    · unfold hrS
      rw [zup_k _ _ _ (by omega)]
      unfold hrA hrV
      rw [zuc_s, if_pos hq, eX, eL, show (1 : Int32) = nI 1 from rfl, hm_n hX hL9 (by decide)]
      exact ⟨nI_pos' (by omega), show nI _ ≤ nI 999 from nI_le (by omega) (by decide)⟩
    · split
      · by_cases e : q = o
        · subst e; rw [zup_s]; decide
        · rw [zup_k _ _ _ e]; exact h q hq
      · unfold thS zfill
        rw [zuc_s, if_pos hq]; decide
def ltD (mu : Mem) (C M n S : Nat) : Nat → Mem
  | 0 => mu
  | k + 1 => enD (ntM (ltD mu C M n S k) (n + k)) C (lotD (lotN S (k + 1)) C M).1 (lotD (lotN S (k + 1)) C M).2.1 (nI (lotD (lotN S (k + 1)) C M).2.2)
theorem lotD_v {L C M : Nat} : (lotD L C M).2.2 ≤ 99 := by
  unfold lotD
  split
  · exact Nat.zero_le _
  · split
    · exact Nat.zero_le _
    · split
      · exact Nat.zero_le _
      · show L / 64 % 100 ≤ 99
        omega
theorem ltD_c {mu : Mem} {C M n S c : Nat} (h1 : c ≠ 55) (h2 : c ≠ 57) (h3 : c ≠ 46) : ∀ k, ltD mu C M n S k c = mu c
  | 0 => rfl
  | k + 1 => by rw [ltD, enD_c h1, ntM_c h2 h3, ltD_c h1 h2 h3 k]
theorem ltD_k {mu : Mem} {C M n S j : Nat} (h : j ≠ 24) : ∀ k, ltD mu C M n S k 46 j = mu 46 j
  | 0 => rfl
  | k + 1 => by rw [ltD, enD_c (by decide), ntM_k h, ltD_k h k]
theorem ltD_n {mu : Mem} {C M n S : Nat} (hn : mu 46 24 = nI n) : ∀ k, ltD mu C M n S k 46 24 = nI (n + k)
  | 0 => hn
  | k + 1 => by rw [ltD, enD_c (by decide)]; unfold ntM; rw [zup_s]; rfl
theorem ltD_ok {mu : Mem} {C M n S : Nat} (hC8 : C ≤ 8) (hL : 0 ≤ mu 46 16 ∧ mu 46 16 ≤ 9) (h : okV mu C) : ∀ k, okV (ltD mu C M n S k) C
  | 0 => h
  | k + 1 => by
    rw [ltD]
    refine enD_ok hC8 (by rw [ntM_k (by decide), ltD_k (by decide)]; exact hL) lotD_v (fun q hq => ?_)
    rw [ntM_c (by decide) (by decide)]
    exact ltD_ok hC8 hL h k q hq
theorem sp_X8_lots {C M : Nat} (hC : mu 46 17 = nI C) (hC8 : C ≤ 8) (hM : mu 46 18 = nI M) (hM6 : M ≤ 6) (hA : ∀ q, q < C → 0 ≤ mu 55 q ∧ mu 55 q ≤ 999) (hL : 0 ≤ mu 46 16 ∧ mu 46 16 ≤ 9) (hC3 : 3 ≤ C) (hM0 : 0 < M) (hS : ∀ j, j < M → ∃ q, q < C ∧ mu 54 j = nI q) {n N S : Nat} (hn : mu 46 24 = nI n) (hN : 1 ≤ N) (hN20 : N ≤ 20) (hnN : n + N ≤ 40) (hS1 : 1 ≤ S) (hS2 : S ≤ 2147483646) : zk_M (d + 3) RX8 cX8_lots 7 (some .int) none 0 (zk_loc [.ref 46, .int (nI N), .int (nI S)] 7) [] mu lm (zk_R (some (.int (zsum C (ltD mu C M n S N 55)))) (ltD mu C M n S N) lm) := by
  have hw1 : (1 : Int32) ≤ nI N ∧ nI N ≤ 20 := ⟨show nI 1 ≤ nI N from nI_le hN (by omega), show nI N ≤ nI 20 from nI_le hN20 (by decide)⟩
  have hw2 : (1 : Int32) ≤ nI S ∧ nI S ≤ 2147483646 := ⟨show nI 1 ≤ nI S from nI_le hS1 (by omega), show nI S ≤ nI 2147483646 from nI_le hS2 (by decide)⟩
  have loop : ∀ k, k ≤ N → ∀ b6, zk_M (d + 3) RX8 cX8_lots 7 (some .int) none 52 [.ref 46, .int (nI N), .int (nI S), .long (lN (lotN S k)), .retAddr 0, .int (nI k), b6] [] (ltD mu C M n S k) lm (zk_R (some (.int (zsum C (ltD mu C M n S N 55)))) (ltD mu C M n S N) lm) := by
    refine zk_ind N (fun k hk ih => ?_)
    intro b6
    have hl := lotN_lt (S := S) (by omega) k
    have hl1 := lotN_lt (S := S) (by omega) (k + 1)
    have cC : (ntM (ltD mu C M n S k) (n + k)) 46 17 = nI C := by rw [ntM_k (by decide), ltD_k (by decide)]; exact hC
    have cM : (ntM (ltD mu C M n S k) (n + k)) 46 18 = nI M := by rw [ntM_k (by decide), ltD_k (by decide)]; exact hM
    have cL : 0 ≤ (ntM (ltD mu C M n S k) (n + k)) 46 16 ∧ (ntM (ltD mu C M n S k) (n + k)) 46 16 ≤ 9 := by rw [ntM_k (by decide), ltD_k (by decide)]; exact hL
    have cA : ∀ q, q < C → 0 ≤ (ntM (ltD mu C M n S k) (n + k)) 55 q ∧ (ntM (ltD mu C M n S k) (n + k)) 55 q ≤ 999 := by rw [ntM_c (by decide) (by decide)]; exact ltD_ok hC8 hL hA k
    have cS : ∀ j, j < M → ∃ q, q < C ∧ (ntM (ltD mu C M n S k) (n + k)) 54 j = nI q := by rw [ntM_c (by decide) (by decide), ltD_c (by decide) (by decide) (by decide)]; exact hS
    refine zk_iload (pc := 52) dX8_lots_52 rfl ?_
    refine zk_iload_n (pc := 54) 1 dX8_lots_54 rfl rfl ?_
    refine zk_icmp_ge (pc := 55) 173 dX8_lots_55 (by decide) (fun h55 => ?_) (fun h55 => ?_)
    · rw [nIle (by omega) (by omega)] at h55
      obtain rfl : k = N := by omega
      refine zk_aload_n (pc := 173) 0 dX8_lots_173 rfl rfl ?_
      refine zk_aload_n (pc := 174) 0 dX8_lots_174 rfl rfl ?_
      refine zk_getR (pc := 175) dX8_lots_175 flX8_38 rfl rfl ?_
      refine zk_callVI (pc := 178) dX8_lots_178 mtX8_allIn lkX8_167 stX8_allIn (by rfl) (by rfl) [_] _ rfl rfl (Nat.le_of_ble_eq_true rfl) (Nat.le_of_ble_eq_true rfl) (sp_X8_allIn (c := 55) (n := 17) rfl (by rw [ltD_k (by decide)]; exact hC) hC8 (by decide)) ?_
      exact zk_ireturn (pc := 181) dX8_lots_181 (Or.inl rfl) ⟨rfl, rfl, rfl⟩
    · rw [nIle (by omega) (by omega)] at h55
      refine zk_lload_n (pc := 58) 3 dX8_lots_58 rfl rfl ?_
      refine zk_ldc2 (pc := 59) dX8_lots_59 kcX8_244 ?_
      refine zk_lmul (pc := 62) dX8_lots_62 ?_
      refine zk_ldc2 (pc := 63) dX8_lots_63 kcX8_246 ?_
      refine zk_lrem (pc := 66) dX8_lots_66 (by decide) ?_
      rw [show (48271 : Int64) = lN 48271 from rfl, lN_mul, show (2147483647 : Int64) = lN 2147483647 from rfl, pk_lRem (by omega) (by decide) (by decide), show lotN S k * 48271 % 2147483647 = lotN S (k + 1) from rfl]
      refine zs_lstore_n (pc := 67) (ls' := [_, _, _, _, _, _, _]) 3 dX8_lots_67 rfl (by decide) rfl ?_
      refine zk_aload_n (pc := 68) 0 dX8_lots_68 rfl rfl ?_
      refine zk_callVV (pc := 69) dX8_lots_69 mtX8_note lkX8_171 stX8_note (by rfl) (by rfl) [] _ rfl rfl (Nat.le_of_ble_eq_true rfl) (Nat.le_of_ble_eq_true rfl) (sp_X8_note (ltD_n hn k) (by omega)) ?_
      refine zk_lload_n (pc := 72) 3 dX8_lots_72 rfl rfl ?_
      refine zk_ldc2 (pc := 73) dX8_lots_73 kcX8_248 ?_
      refine zk_ldiv (pc := 76) dX8_lots_76 (by decide) ?_
      refine zk_ldc2 (pc := 77) dX8_lots_77 kcX8_248 ?_
      refine zk_lrem (pc := 80) dX8_lots_80 (by decide) ?_
      rw [show (8 : Int64) = lN 8 from rfl, pk_lDiv (by omega) (by decide) (by decide), pk_lRem (by omega) (by decide) (by decide)]
      refine zk_l2i (pc := 81) dX8_lots_81 ?_
      rw [lN_i]
      refine zs_istore (pc := 82) (ls' := [_, _, _, _, _, _, _]) 6 dX8_lots_82 (by decide) rfl ?_
      refine zk_iload (pc := 84) dX8_lots_84 rfl ?_
      refine zk_if_ne (pc := 86) 101 dX8_lots_86 (by decide) (fun h86 => ?_) (fun h86 => ?_)
      · rw [show (0 : Int32) = nI 0 from rfl, nIeq (by omega) (by omega)] at h86
        refine zk_iload (pc := 101) dX8_lots_101 rfl ?_
        refine zk_iconst (pc := 103) (v := 1) dX8_lots_103 (by decide) ?_
        refine zk_icmp_ne (pc := 104) 124 dX8_lots_104 (by decide) (fun h104 => ?_) (fun h104 => ?_)
        · rw [show (1 : Int32) = nI 1 from rfl, nIeq (by omega) (by omega)] at h104
          refine zk_iload (pc := 124) dX8_lots_124 rfl ?_
          refine zk_iconst (pc := 126) (v := 2) dX8_lots_126 (by decide) ?_
          refine zk_icmp_ne (pc := 127) 141 dX8_lots_127 (by decide) (fun h127 => ?_) (fun h127 => ?_)
          · rw [show (2 : Int32) = nI 2 from rfl, nIeq (by omega) (by omega)] at h127
            refine zk_aload_n (pc := 141) 0 dX8_lots_141 rfl rfl ?_
            refine zk_aload_n (pc := 142) 0 dX8_lots_142 rfl rfl ?_
            refine zk_getR (pc := 143) dX8_lots_143 flX8_38 rfl rfl ?_
            refine zk_lload_n (pc := 146) 3 dX8_lots_146 rfl rfl ?_
            refine zk_aload_n (pc := 147) 0 dX8_lots_147 rfl rfl ?_
            refine zk_getI (pc := 148) dX8_lots_148 flX8_63 rfl rfl ?_
            refine zk_i2l (pc := 151) dX8_lots_151 ?_
            rw [cM, nI_l (by omega)]
            refine zk_lrem (pc := 152) dX8_lots_152 (by rw [show (0 : Int64) = lN 0 from rfl, propext (pk_lEQ (by omega) (by decide))]; omega) ?_
            rw [pk_lRem (by omega) (by omega) (by omega)]
            refine zk_l2i (pc := 153) dX8_lots_153 ?_
            rw [lN_i]
            have hmM : lotN S (k + 1) % M < M := Nat.mod_lt _ (by omega)
            obtain ⟨q, hq, hsq⟩ := cS _ hmM
            refine zk_lload_n (pc := 154) 3 dX8_lots_154 rfl rfl ?_
            refine zk_ldc2 (pc := 155) dX8_lots_155 kcX8_250 ?_
            refine zk_ldiv (pc := 158) dX8_lots_158 (by decide) ?_
            refine zk_ldc2 (pc := 159) dX8_lots_159 kcX8_252 ?_
            refine zk_lrem (pc := 162) dX8_lots_162 (by decide) ?_
            rw [show (64 : Int64) = lN 64 from rfl, pk_lDiv (by omega) (by decide) (by decide), show (100 : Int64) = lN 100 from rfl, pk_lRem (by omega) (by decide) (by decide)]
            refine zk_l2i (pc := 163) dX8_lots_163 ?_
            rw [lN_i]
            refine zk_callVV (pc := 164) dX8_lots_164 mtX8_talkIn lkX8_174 stX8_talkIn (by rfl) (by rfl) [_, _, _] _ rfl rfl (Nat.le_of_ble_eq_true rfl) (Nat.le_of_ble_eq_true rfl) (sp_X8_talkIn (s := 55) rfl (by decide) (by decide) (by decide) cC hC8 hC3 (by omega) hq hsq (fun z hz => (cA z hz).2) _) ?_
            refine zs_iinc (pc := 167) (ls' := [_, _, _, _, _, _, _]) dX8_lots_167 rfl (nI_1 k) (by decide) rfl ?_
            refine zk_goto (pc := 170) 52 dX8_lots_170 (by decide) ?_
            first
              | (have hD : lotD (lotN S (k + 1)) C M = (1, 0, 0) := by unfold lotD; rw [if_pos h86]
                 have e := ih (by omega) (.int (nI (lotN S (k + 1) / 8 % 8)))
                 rw [ltD, hD] at e; exact e)
              | (have hD : lotD (lotN S (k + 1)) C M = (2, lotN S (k + 1) % C, 0) := by unfold lotD; rw [if_neg h86, if_pos h104]
                 have e := ih (by omega) (.int (nI (lotN S (k + 1) / 8 % 8)))
                 rw [ltD, hD] at e; exact e)
              | (have hD : lotD (lotN S (k + 1)) C M = (3, 0, 0) := by unfold lotD; rw [if_neg h86, if_neg h104, if_pos h127]
                 have e := ih (by omega) (.int (nI (lotN S (k + 1) / 8 % 8)))
                 rw [ltD, hD] at e; exact e)
              | (have hD : lotD (lotN S (k + 1)) C M = (0, lotN S (k + 1) % M, lotN S (k + 1) / 64 % 100) := by unfold lotD; rw [if_neg h86, if_neg h104, if_neg h127]
                 have e := ih (by omega) (.int (nI (lotN S (k + 1) / 8 % 8)))
                 rw [ltD, hD] at e; exact e)
          · rw [show (2 : Int32) = nI 2 from rfl, nIeq (by omega) (by omega)] at h127
            refine zk_aload_n (pc := 130) 0 dX8_lots_130 rfl rfl ?_
            refine zk_aload_n (pc := 131) 0 dX8_lots_131 rfl rfl ?_
            refine zk_getR (pc := 132) dX8_lots_132 flX8_38 rfl rfl ?_
            refine zk_callVV (pc := 135) dX8_lots_135 mtX8_thunderIn lkX8_180 stX8_thunderIn (by rfl) (by rfl) [_] _ rfl rfl (Nat.le_of_ble_eq_true rfl) (Nat.le_of_ble_eq_true rfl) (sp_X8_thunderIn (s := 55) rfl (by decide) (by decide) (by decide) cC hC8) ?_
            refine zk_goto (pc := 138) 167 dX8_lots_138 (by decide) ?_
            refine zs_iinc (pc := 167) (ls' := [_, _, _, _, _, _, _]) dX8_lots_167 rfl (nI_1 k) (by decide) rfl ?_
            refine zk_goto (pc := 170) 52 dX8_lots_170 (by decide) ?_
            first
              | (have hD : lotD (lotN S (k + 1)) C M = (1, 0, 0) := by unfold lotD; rw [if_pos h86]
                 have e := ih (by omega) (.int (nI (lotN S (k + 1) / 8 % 8)))
                 rw [ltD, hD] at e; exact e)
              | (have hD : lotD (lotN S (k + 1)) C M = (2, lotN S (k + 1) % C, 0) := by unfold lotD; rw [if_neg h86, if_pos h104]
                 have e := ih (by omega) (.int (nI (lotN S (k + 1) / 8 % 8)))
                 rw [ltD, hD] at e; exact e)
              | (have hD : lotD (lotN S (k + 1)) C M = (3, 0, 0) := by unfold lotD; rw [if_neg h86, if_neg h104, if_pos h127]
                 have e := ih (by omega) (.int (nI (lotN S (k + 1) / 8 % 8)))
                 rw [ltD, hD] at e; exact e)
              | (have hD : lotD (lotN S (k + 1)) C M = (0, lotN S (k + 1) % M, lotN S (k + 1) / 64 % 100) := by unfold lotD; rw [if_neg h86, if_neg h104, if_neg h127]
                 have e := ih (by omega) (.int (nI (lotN S (k + 1) / 8 % 8)))
                 rw [ltD, hD] at e; exact e)
        · rw [show (1 : Int32) = nI 1 from rfl, nIeq (by omega) (by omega)] at h104
          refine zk_aload_n (pc := 107) 0 dX8_lots_107 rfl rfl ?_
          refine zk_getR (pc := 108) dX8_lots_108 flX8_38 rfl rfl ?_
          refine zk_lload_n (pc := 111) 3 dX8_lots_111 rfl rfl ?_
          refine zk_aload_n (pc := 112) 0 dX8_lots_112 rfl rfl ?_
          refine zk_getI (pc := 113) dX8_lots_113 flX8_70 rfl rfl ?_
          refine zk_i2l (pc := 116) dX8_lots_116 ?_
          rw [cC, nI_l (by omega)]
          refine zk_lrem (pc := 117) dX8_lots_117 (by rw [show (0 : Int64) = lN 0 from rfl, propext (pk_lEQ (by omega) (by decide))]; omega) ?_
          rw [pk_lRem (by omega) (by omega) (by omega)]
          refine zk_l2i (pc := 118) dX8_lots_118 ?_
          rw [lN_i]
          have hmC : lotN S (k + 1) % C < C := Nat.mod_lt _ (by omega)
          refine zk_iconst (pc := 119) (v := 0) dX8_lots_119 (by decide) ?_
          refine zk_iastore (pc := 120) (lotN S (k + 1) % C) dX8_lots_120 rfl rfl (by omega) ?_
          refine zk_goto (pc := 121) 167 dX8_lots_121 (by decide) ?_
          refine zs_iinc (pc := 167) (ls' := [_, _, _, _, _, _, _]) dX8_lots_167 rfl (nI_1 k) (by decide) rfl ?_
          refine zk_goto (pc := 170) 52 dX8_lots_170 (by decide) ?_
          first
            | (have hD : lotD (lotN S (k + 1)) C M = (1, 0, 0) := by unfold lotD; rw [if_pos h86]
               have e := ih (by omega) (.int (nI (lotN S (k + 1) / 8 % 8)))
               rw [ltD, hD] at e; exact e)
            | (have hD : lotD (lotN S (k + 1)) C M = (2, lotN S (k + 1) % C, 0) := by unfold lotD; rw [if_neg h86, if_pos h104]
               have e := ih (by omega) (.int (nI (lotN S (k + 1) / 8 % 8)))
               rw [ltD, hD] at e; exact e)
            | (have hD : lotD (lotN S (k + 1)) C M = (3, 0, 0) := by unfold lotD; rw [if_neg h86, if_neg h104, if_pos h127]
               have e := ih (by omega) (.int (nI (lotN S (k + 1) / 8 % 8)))
               rw [ltD, hD] at e; exact e)
            | (have hD : lotD (lotN S (k + 1)) C M = (0, lotN S (k + 1) % M, lotN S (k + 1) / 64 % 100) := by unfold lotD; rw [if_neg h86, if_neg h104, if_neg h127]
               have e := ih (by omega) (.int (nI (lotN S (k + 1) / 8 % 8)))
               rw [ltD, hD] at e; exact e)
      · rw [show (0 : Int32) = nI 0 from rfl, nIeq (by omega) (by omega)] at h86
        refine zk_aload_n (pc := 89) 0 dX8_lots_89 rfl rfl ?_
        refine zk_aload_n (pc := 90) 0 dX8_lots_90 rfl rfl ?_
        refine zk_getR (pc := 91) dX8_lots_91 flX8_38 rfl rfl ?_
        refine zk_callVI (pc := 94) dX8_lots_94 mtX8_hourIn lkX8_177 stX8_hourIn (by rfl) (by rfl) [_] _ rfl rfl (Nat.le_of_ble_eq_true rfl) (Nat.le_of_ble_eq_true rfl) (sp_X8_hourIn (s := 55) rfl (by decide) (by decide) (by decide) cC hC8 cL.1 cL.2 cA) ?_
        refine zk_pop (pc := 97) dX8_lots_97 rfl ?_
        refine zk_goto (pc := 98) 167 dX8_lots_98 (by decide) ?_
        refine zs_iinc (pc := 167) (ls' := [_, _, _, _, _, _, _]) dX8_lots_167 rfl (nI_1 k) (by decide) rfl ?_
        refine zk_goto (pc := 170) 52 dX8_lots_170 (by decide) ?_
        first
          | (have hD : lotD (lotN S (k + 1)) C M = (1, 0, 0) := by unfold lotD; rw [if_pos h86]
             have e := ih (by omega) (.int (nI (lotN S (k + 1) / 8 % 8)))
             rw [ltD, hD] at e; exact e)
          | (have hD : lotD (lotN S (k + 1)) C M = (2, lotN S (k + 1) % C, 0) := by unfold lotD; rw [if_neg h86, if_pos h104]
             have e := ih (by omega) (.int (nI (lotN S (k + 1) / 8 % 8)))
             rw [ltD, hD] at e; exact e)
          | (have hD : lotD (lotN S (k + 1)) C M = (3, 0, 0) := by unfold lotD; rw [if_neg h86, if_neg h104, if_pos h127]
             have e := ih (by omega) (.int (nI (lotN S (k + 1) / 8 % 8)))
             rw [ltD, hD] at e; exact e)
          | (have hD : lotD (lotN S (k + 1)) C M = (0, lotN S (k + 1) % M, lotN S (k + 1) / 64 % 100) := by unfold lotD; rw [if_neg h86, if_neg h104, if_neg h127]
             have e := ih (by omega) (.int (nI (lotN S (k + 1) / 8 % 8)))
             rw [ltD, hD] at e; exact e)
  refine zk_iload_n (pc := 0) 1 dX8_lots_0 rfl rfl ?_
  refine zk_iconst (pc := 1) (v := 1) dX8_lots_1 (by decide) ?_
  refine zk_bipush (pc := 2) (v := 20) dX8_lots_2 (by decide) ?_
  refine zk_callSI (pc := 4) dX8_lots_4 mtX8_in lkX8_66 stX8_in [_, _, _] _ rfl rfl (Nat.le_of_ble_eq_true rfl) (Nat.le_of_ble_eq_true rfl) (sp_X8_in _ _ _) ?_
  refine zk_if_eq (pc := 7) 20 dX8_lots_7 (by decide) (fun h7 => ?_) (fun h7 => ?_)
  · rw [zb_e] at h7
    exact absurd hw1 h7 --
  · skip
    refine zk_iload_n (pc := 10) 2 dX8_lots_10 rfl rfl ?_
    refine zk_iconst (pc := 11) (v := 1) dX8_lots_11 (by decide) ?_
    refine zk_ldc (pc := 12) dX8_lots_12 kcX8_243 ?_
    refine zk_callSI (pc := 14) dX8_lots_14 mtX8_in lkX8_66 stX8_in [_, _, _] _ rfl rfl (Nat.le_of_ble_eq_true rfl) (Nat.le_of_ble_eq_true rfl) (sp_X8_in _ _ _) ?_
    refine zk_if_ne (pc := 17) 22 dX8_lots_17 (by decide) (fun h17 => ?_) (fun h17 => ?_)
    · skip
      refine zk_aload_n (pc := 22) 0 dX8_lots_22 rfl rfl ?_
      refine zk_getI (pc := 23) dX8_lots_23 flX8_63 rfl rfl ?_
      refine zk_if_ne (pc := 26) 32 dX8_lots_26 (by decide) (fun h26 => ?_) (fun h26 => ?_)
      · skip
        refine zk_aload_n (pc := 32) 0 dX8_lots_32 rfl rfl ?_
        refine zk_getI (pc := 33) dX8_lots_33 flX8_130 rfl rfl ?_
        refine zk_iload_n (pc := 36) 1 dX8_lots_36 rfl rfl ?_
        refine zk_iadd (pc := 37) dX8_lots_37 ?_
        refine zk_bipush (pc := 38) (v := 40) dX8_lots_38 (by decide) ?_
        refine zk_icmp_le (pc := 40) 46 dX8_lots_40 (by decide) (fun h40 => ?_) (fun h40 => ?_)
        · skip
          refine zk_iload_n (pc := 46) 2 dX8_lots_46 rfl rfl ?_
          refine zk_i2l (pc := 47) dX8_lots_47 ?_
          rw [nI_l (by omega)]
          refine zs_lstore_n (pc := 48) (ls' := [_, _, _, _, _, _, _]) 3 dX8_lots_48 rfl (by decide) rfl ?_
          refine zk_iconst (pc := 49) (v := 0) dX8_lots_49 (by decide) ?_
          refine zs_istore (pc := 50) (ls' := [_, _, _, _, _, _, _]) 5 dX8_lots_50 (by decide) rfl ?_
          exact loop 0 (Nat.zero_le _) _
        · rw [hn, nI_add, show (40 : Int32) = nI 40 from rfl, nIle (by omega) (by omega)] at h40
          omega --
      · rw [hM] at h26
        exact absurd h26 (nI_ne0 hM0 (by omega)) --
    · rw [zb_e] at h17
      exact absurd hw2 h17 --
theorem sp_X8_lots_n (n p : Int32) (hb : ¬ ((1 ≤ n ∧ n ≤ 20) ∧ (1 ≤ p ∧ p ≤ 2147483646))) : zk_M (d + 1) RX8 cX8_lots 7 (some .int) none 0 (zk_loc [.ref 46, .int n, .int p] 7) [] mu lm (zk_R (some (.int (-1))) mu lm) := by
  refine zk_iload_n (pc := 0) 1 dX8_lots_0 rfl rfl ?_
  refine zk_iconst (pc := 1) (v := 1) dX8_lots_1 (by decide) ?_
  refine zk_bipush (pc := 2) (v := 20) dX8_lots_2 (by decide) ?_
  refine zk_callSI (pc := 4) dX8_lots_4 mtX8_in lkX8_66 stX8_in [_, _, _] _ rfl rfl (Nat.le_of_ble_eq_true rfl) (Nat.le_of_ble_eq_true rfl) (sp_X8_in _ _ _) ?_
  refine zk_if_eq (pc := 7) 20 dX8_lots_7 (by decide) (fun h7 => ?_) (fun h7 => ?_)
  · rw [zb_e] at h7
    refine zk_iconst (pc := 20) (v := -1) dX8_lots_20 (by decide) ?_
    exact zk_ireturn (pc := 21) dX8_lots_21 (Or.inl rfl) (zk_ri rfl)
  · rw [zb_n] at h7
    refine zk_iload_n (pc := 10) 2 dX8_lots_10 rfl rfl ?_
    refine zk_iconst (pc := 11) (v := 1) dX8_lots_11 (by decide) ?_
    refine zk_ldc (pc := 12) dX8_lots_12 kcX8_243 ?_
    refine zk_callSI (pc := 14) dX8_lots_14 mtX8_in lkX8_66 stX8_in [_, _, _] _ rfl rfl (Nat.le_of_ble_eq_true rfl) (Nat.le_of_ble_eq_true rfl) (sp_X8_in _ _ _) ?_
    refine zk_if_ne (pc := 17) 22 dX8_lots_17 (by decide) (fun h17 => ?_) (fun h17 => ?_)
    · rw [zb_n] at h17
      exact absurd ⟨h7, h17⟩ hb --
    · rw [zb_e] at h17
      refine zk_iconst (pc := 20) (v := -1) dX8_lots_20 (by decide) ?_
      exact zk_ireturn (pc := 21) dX8_lots_21 (Or.inl rfl) (zk_ri rfl)
theorem sp_X8_lots_0 {n p : Int32} (hb : (1 ≤ n ∧ n ≤ 20) ∧ (1 ≤ p ∧ p ≤ 2147483646)) (hM : mu 46 18 = 0) : zk_M (d + 1) RX8 cX8_lots 7 (some .int) none 0 (zk_loc [.ref 46, .int n, .int p] 7) [] mu lm (zk_R (some (.int (-4))) mu lm) := by
  refine zk_iload_n (pc := 0) 1 dX8_lots_0 rfl rfl ?_
  refine zk_iconst (pc := 1) (v := 1) dX8_lots_1 (by decide) ?_
  refine zk_bipush (pc := 2) (v := 20) dX8_lots_2 (by decide) ?_
  refine zk_callSI (pc := 4) dX8_lots_4 mtX8_in lkX8_66 stX8_in [_, _, _] _ rfl rfl (Nat.le_of_ble_eq_true rfl) (Nat.le_of_ble_eq_true rfl) (sp_X8_in _ _ _) ?_
  refine zk_if_eq (pc := 7) 20 dX8_lots_7 (by decide) (fun h7 => ?_) (fun h7 => ?_)
  · rw [zb_e] at h7
    exact absurd hb.1 h7 --
  · skip
    refine zk_iload_n (pc := 10) 2 dX8_lots_10 rfl rfl ?_
    refine zk_iconst (pc := 11) (v := 1) dX8_lots_11 (by decide) ?_
    refine zk_ldc (pc := 12) dX8_lots_12 kcX8_243 ?_
    refine zk_callSI (pc := 14) dX8_lots_14 mtX8_in lkX8_66 stX8_in [_, _, _] _ rfl rfl (Nat.le_of_ble_eq_true rfl) (Nat.le_of_ble_eq_true rfl) (sp_X8_in _ _ _) ?_
    refine zk_if_ne (pc := 17) 22 dX8_lots_17 (by decide) (fun h17 => ?_) (fun h17 => ?_)
    · skip
      refine zk_aload_n (pc := 22) 0 dX8_lots_22 rfl rfl ?_
      refine zk_getI (pc := 23) dX8_lots_23 flX8_63 rfl rfl ?_
      refine zk_if_ne (pc := 26) 32 dX8_lots_26 (by decide) (fun h26 => ?_) (fun h26 => ?_)
      · exact absurd hM h26 --
      · skip
        refine zk_bipush (pc := 29) (v := -4) dX8_lots_29 (by decide) ?_
        exact zk_ireturn (pc := 31) dX8_lots_31 (Or.inl rfl) (zk_ri rfl)
    · rw [zb_e] at h17
      exact absurd hb.2 h17 --
theorem sp_X8_lots_f {n p : Int32} (hb : (1 ≤ n ∧ n ≤ 20) ∧ (1 ≤ p ∧ p ≤ 2147483646)) (hM : ¬ mu 46 18 = 0) (hf : ¬ mu 46 24 + n ≤ 40) : zk_M (d + 1) RX8 cX8_lots 7 (some .int) none 0 (zk_loc [.ref 46, .int n, .int p] 7) [] mu lm (zk_R (some (.int (-2))) mu lm) := by
  refine zk_iload_n (pc := 0) 1 dX8_lots_0 rfl rfl ?_
  refine zk_iconst (pc := 1) (v := 1) dX8_lots_1 (by decide) ?_
  refine zk_bipush (pc := 2) (v := 20) dX8_lots_2 (by decide) ?_
  refine zk_callSI (pc := 4) dX8_lots_4 mtX8_in lkX8_66 stX8_in [_, _, _] _ rfl rfl (Nat.le_of_ble_eq_true rfl) (Nat.le_of_ble_eq_true rfl) (sp_X8_in _ _ _) ?_
  refine zk_if_eq (pc := 7) 20 dX8_lots_7 (by decide) (fun h7 => ?_) (fun h7 => ?_)
  · rw [zb_e] at h7
    exact absurd hb.1 h7 --
  · skip
    refine zk_iload_n (pc := 10) 2 dX8_lots_10 rfl rfl ?_
    refine zk_iconst (pc := 11) (v := 1) dX8_lots_11 (by decide) ?_
    refine zk_ldc (pc := 12) dX8_lots_12 kcX8_243 ?_
    refine zk_callSI (pc := 14) dX8_lots_14 mtX8_in lkX8_66 stX8_in [_, _, _] _ rfl rfl (Nat.le_of_ble_eq_true rfl) (Nat.le_of_ble_eq_true rfl) (sp_X8_in _ _ _) ?_
    refine zk_if_ne (pc := 17) 22 dX8_lots_17 (by decide) (fun h17 => ?_) (fun h17 => ?_)
    · skip
      refine zk_aload_n (pc := 22) 0 dX8_lots_22 rfl rfl ?_
      refine zk_getI (pc := 23) dX8_lots_23 flX8_63 rfl rfl ?_
      refine zk_if_ne (pc := 26) 32 dX8_lots_26 (by decide) (fun h26 => ?_) (fun h26 => ?_)
      · skip
        refine zk_aload_n (pc := 32) 0 dX8_lots_32 rfl rfl ?_
        refine zk_getI (pc := 33) dX8_lots_33 flX8_130 rfl rfl ?_
        refine zk_iload_n (pc := 36) 1 dX8_lots_36 rfl rfl ?_
        refine zk_iadd (pc := 37) dX8_lots_37 ?_
        refine zk_bipush (pc := 38) (v := 40) dX8_lots_38 (by decide) ?_
        refine zk_icmp_le (pc := 40) 46 dX8_lots_40 (by decide) (fun h40 => ?_) (fun h40 => ?_)
        · exact absurd h40 hf --
        · skip
          refine zk_bipush (pc := 43) (v := -2) dX8_lots_43 (by decide) ?_
          exact zk_ireturn (pc := 45) dX8_lots_45 (Or.inl rfl) (zk_ri rfl)
      · exact absurd h26 hM --
    · rw [zb_e] at h17
      exact absurd hb.2 h17 --
end M55
