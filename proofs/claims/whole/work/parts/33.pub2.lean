section M33
variable {d : Nat} {mu : Mem} {lm : MemL}
/-- what is known of a member -/
def mFact (mu : Mem) (j : Nat) (w : Int32) : Int32 := if w = 0 then mu 24 j else if w = 1 then mu 25 j else if w = 2 then mu 27 (mu 25 j).toNatClampNeg else mu 26 j
theorem sp_mf {j q t : Nat} (hj : j < 6) (hq : mu 25 j = nI q) (hq8 : q < 8) (ht : t ≤ 3) : zk_M d RX7 cX7_memberFact 3 (some .int) none 0 (zk_loc [.ref 0, .int (nI j), .int (nI t)] 3) [] mu lm (zk_R (some (.int (mFact mu j (nI t)))) mu lm) := by
  match t, ht with
  | 0, _ => exact sp_mf0 hj
  | 1, _ => exact sp_mf1 hj
  | 2, _ =>
    have e := sp_mf2 (d := d) (lm := lm) hj hq hq8
    have h : mFact mu j (nI 2) = mu 27 q := by
      unfold mFact
      rw [if_neg (by decide), if_neg (by decide), if_pos (by decide), hq, nI_clamp (by omega)]
    rw [h]
    exact e
  | 3, _ => exact sp_mf3 hj
def cMember (mu : Mem) (i w : Int32) : Int32 × Mem := if (0 ≤ i ∧ i < mu 23 6) ∧ (0 ≤ w ∧ w ≤ 3) then (1, zk_up mu 0 10 (mFact mu i.toNatClampNeg w)) else (-1, mu)
theorem sp_X7_member {C M : Nat} (hC : mu 23 5 = nI C) (hC8 : C ≤ 8) (hM : mu 23 6 = nI M) (hM6 : M ≤ 6) (hS : ∀ j, j < M → ∃ q, q < C ∧ mu 25 j = nI q) (i w : Int32) : zk_M (d + 1) RX7 cX7_member 3 (some .int) none 0 (zk_loc [.ref 0, .int i, .int w] 3) [] mu lm (zk_R (some (.int (cMember mu i w).1)) (cMember mu i w).2 lm) := by
  refine zk_aload_n (pc := 0) 0 dX7_member_0 rfl rfl ?_
  refine zk_getR (pc := 1) dX7_member_1 flX7_23 rfl rfl ?_
  refine zk_iload_n (pc := 4) 1 dX7_member_4 rfl rfl ?_
  refine zk_callVI (pc := 5) dX7_member_5 mtX0_hasMember lkX7_126 stX0_hasMember (by rfl) (by rfl) [_] _ rfl rfl (Nat.le_of_ble_eq_true rfl) (Nat.le_of_ble_eq_true rfl) (sp_X0_hasMember _) ?_
  refine zk_if_eq (pc := 8) 20 dX7_member_8 (by decide) (fun h8 => ?_) (fun h8 => ?_)
  · rw [zb_e] at h8
    refine zk_iconst (pc := 20) (v := -1) dX7_member_20 (by decide) ?_
    refine zk_ireturn (pc := 21) dX7_member_21 (Or.inl rfl) (zk_pr ?_)
    unfold cMember
    first | rw [if_neg (fun q => h8 q.1)] | rw [if_neg (fun q => h17 q.2)]
  · rw [zb_n] at h8
    refine zk_iload_n (pc := 11) 2 dX7_member_11 rfl rfl ?_
    refine zk_iconst (pc := 12) (v := 0) dX7_member_12 (by decide) ?_
    refine zk_iconst (pc := 13) (v := 3) dX7_member_13 (by decide) ?_
    refine zk_callSI (pc := 14) dX7_member_14 mtX7_within lkX7_130 stX7_within [_, _, _] _ rfl rfl (Nat.le_of_ble_eq_true rfl) (Nat.le_of_ble_eq_true rfl) (sp_X7_within _ _ _) ?_
    refine zk_if_ne (pc := 17) 22 dX7_member_17 (by decide) (fun h17 => ?_) (fun h17 => ?_)
    · rw [zb_n] at h17
      obtain ⟨j, hj, rfl⟩ := zget h8 hM (by omega)
      obtain ⟨t, ht, rfl⟩ := zgetl (M := 3) h17 (by decide)
      obtain ⟨q, hq, hsq⟩ := hS j hj
      refine zk_aload_n (pc := 22) 0 dX7_member_22 rfl rfl ?_
      refine zk_aload_n (pc := 23) 0 dX7_member_23 rfl rfl ?_
      refine zk_iload_n (pc := 24) 1 dX7_member_24 rfl rfl ?_
      refine zk_iload_n (pc := 25) 2 dX7_member_25 rfl rfl ?_
      refine zk_callVI (pc := 26) dX7_member_26 mtX7_memberFact lkX7_134 stX7_memberFact (by rfl) (by rfl) [_, _] _ rfl rfl (Nat.le_of_ble_eq_true rfl) (Nat.le_of_ble_eq_true rfl) (sp_mf (by omega) hsq (by omega) ht) ?_
      refine zk_putI (pc := 29) dX7_member_29 flX7_82 rfl rfl ?_
      refine zk_iconst (pc := 32) (v := 1) dX7_member_32 (by decide) ?_
      refine zk_ireturn (pc := 33) dX7_member_33 (Or.inl rfl) (zk_pr ?_)
      unfold cMember
      rw [if_pos ⟨h8, h17⟩, nI_clamp (by omega)]
    · rw [zb_e] at h17
      refine zk_iconst (pc := 20) (v := -1) dX7_member_20 (by decide) ?_
      refine zk_ireturn (pc := 21) dX7_member_21 (Or.inl rfl) (zk_pr ?_)
      unfold cMember
      first | rw [if_neg (fun q => h8 q.1)] | rw [if_neg (fun q => h17 q.2)]
def cSmoke (mu : Mem) (c : Int32) : Int32 := if 0 ≤ c ∧ c < mu 23 5 then mu 27 c.toNatClampNeg else -1
theorem sp_X7_smoke {C M : Nat} (hC : mu 23 5 = nI C) (hC8 : C ≤ 8) (hM : mu 23 6 = nI M) (hM6 : M ≤ 6) (i : Int32) : zk_M (d + 1) RX7 cX7_smoke 2 (some .int) none 0 (zk_loc [.ref 0, .int i] 2) [] mu lm (zk_R (some (.int (cSmoke mu i))) mu lm) := by
  refine zk_aload_n (pc := 0) 0 dX7_smoke_0 rfl rfl ?_
  refine zk_getR (pc := 1) dX7_smoke_1 flX7_23 rfl rfl ?_
  refine zk_iload_n (pc := 4) 1 dX7_smoke_4 rfl rfl ?_
  refine zk_callVI (pc := 5) dX7_smoke_5 mtX0_hasCell lkX7_161 stX0_hasCell (by rfl) (by rfl) [_] _ rfl rfl (Nat.le_of_ble_eq_true rfl) (Nat.le_of_ble_eq_true rfl) (sp_X0_hasCell _) ?_
  refine zk_if_eq (pc := 8) 23 dX7_smoke_8 (by decide) (fun h8 => ?_) (fun h8 => ?_)
  · rw [zb_e] at h8
    refine zk_iconst (pc := 23) (v := -1) dX7_smoke_23 (by decide) ?_
    refine zk_ireturn (pc := 24) dX7_smoke_24 (Or.inl rfl) (zk_ri ?_)
    unfold cSmoke
    first | rw [if_neg h8] | rw [if_pos h8, nI_clamp (by omega)]
  · rw [zb_n] at h8
    obtain ⟨c, hc, rfl⟩ := zget h8 hC (by omega)
    refine zk_aload_n (pc := 11) 0 dX7_smoke_11 rfl rfl ?_
    refine zk_getR (pc := 12) dX7_smoke_12 flX7_23 rfl rfl ?_
    refine zk_getR (pc := 15) dX7_smoke_15 flX7_164 rfl rfl ?_
    refine zk_iload_n (pc := 18) 1 dX7_smoke_18 rfl rfl ?_
    refine zk_iaload (pc := 19) c dX7_smoke_19 rfl rfl (by omega) ?_
    refine zk_goto (pc := 20) 24 dX7_smoke_20 (by decide) ?_
    refine zk_ireturn (pc := 24) dX7_smoke_24 (Or.inl rfl) (zk_ri ?_)
    unfold cSmoke
    first | rw [if_neg h8] | rw [if_pos h8, nI_clamp (by omega)]
def kIs (k w : Int32) : Prop := w = 0 ∨ (w = 1 ∧ (k = 1 ∨ k = 4)) ∨ (w = 2 ∧ (k = 2 ∨ k = 5)) ∨ (w ≠ 0 ∧ w ≠ 1 ∧ w ≠ 2 ∧ k = w)
def cMk (mu : Mem) (C M j : Nat) (w : Int32) : Int32 := if w = 1 then mu 27 (mu 25 j).toNatClampNeg + mu 27 (cBeh (nI C) (mu 25 j)).toNatClampNeg + mu 27 (cAhd (nI C) (mu 25 j)).toNatClampNeg
  else if w = 2 then zsum M (fun k => zb ((¬ nI k = nI j ∧ mu 25 k = mu 25 j) ∧ (mu 24 k = 2 ∨ mu 24 k = 5)))
  else if w = 3 then zsum M (fun k => zb (¬ nI k = nI j ∧ 5 - kSay (mu 24 k) 5 = 0))
  else if w = 4 then zsum 100 (fun v => zb (kSay (mu 24 j) (nI v) = 0))
  else zsum 100 (fun v => zb (kSay (mu 24 j) (nI v) = kSay (mu 24 j) 7))
theorem cBeh_n {C q : Nat} (hC : C ≤ 8) (hq : q < C) : ∃ b, b < C ∧ cBeh (nI C) (nI q) = nI b ∧ b = (q + 1) % C := by
  unfold cBeh
  by_cases h : C ≤ q + 1
  · rw [if_pos (by rw [nI_1, nIle (by omega) (by omega)]; exact h)]
    exact ⟨0, by omega, rfl, by rw [show q + 1 = C by omega, Nat.mod_self]⟩
  · rw [if_neg (by rw [nI_1, nIle (by omega) (by omega)]; exact h), nI_1]
    exact ⟨q + 1, by omega, rfl, (Nat.mod_eq_of_lt (by omega)).symm⟩
theorem cAhd_n {C q : Nat} (hC : C ≤ 8) (hq : q < C) : ∃ b, b < C ∧ cAhd (nI C) (nI q) = nI b ∧ b = (q + C - 1) % C := by
  unfold cAhd
  by_cases h : q ≤ 0
  · rw [if_pos (by rw [show (0 : Int32) = nI 0 from rfl, nIle (by omega) (by omega)]; exact h), show C = (C - 1) + 1 by omega, nI_pred]
    exact ⟨C - 1, by omega, rfl, by rw [show q + (C - 1 + 1) - 1 = C - 1 by omega]; exact (Nat.mod_eq_of_lt (by omega)).symm⟩
  · rw [if_neg (by rw [show (0 : Int32) = nI 0 from rfl, nIle (by omega) (by omega)]; exact h), show q = (q - 1) + 1 by omega, nI_pred]
    exact ⟨q - 1, by omega, rfl, by rw [show q - 1 + 1 + C - 1 = (q - 1) + C by omega, Nat.add_mod_right]; exact (Nat.mod_eq_of_lt (by omega)).symm⟩
theorem sp_X7_mark {C M : Nat} (hC : mu 23 5 = nI C) (hC8 : C ≤ 8) (hM : mu 23 6 = nI M) (hM6 : M ≤ 6) (hS : ∀ j, j < M → ∃ q, q < C ∧ mu 25 j = nI q) {j t : Nat} (hj : j < M) (ht : 1 ≤ t) (ht5 : t ≤ 5) (hk : kIs (mu 24 j) (nI t)) : zk_M (d + 4) RX7 cX7_mark 4 (some .int) none 0 (zk_loc [.ref 0, .int (nI j), .int (nI t)] 4) [] mu lm (zk_R (some (.int (cMk mu C M j (nI t)))) mu lm) := by
  have hm : 0 ≤ nI j ∧ nI j < mu 23 6 := ⟨nI_pos' (by omega), by rw [hM, nIlt (by omega) (by omega)]; exact hj⟩
  have hw : (1 : Int32) ≤ nI t ∧ nI t ≤ 5 := ⟨show nI 1 ≤ nI t from nI_le ht (by omega), show nI t ≤ nI 5 from nI_le ht5 (by decide)⟩
  obtain ⟨q, hq, hsq⟩ := hS j hj
  obtain ⟨b, hb, hbe, -⟩ := cBeh_n hC8 hq
  obtain ⟨a, ha, hae, -⟩ := cAhd_n hC8 hq
  refine zk_aload_n (pc := 0) 0 dX7_mark_0 rfl rfl ?_
  refine zk_getR (pc := 1) dX7_mark_1 flX7_23 rfl rfl ?_
  refine zk_iload_n (pc := 4) 1 dX7_mark_4 rfl rfl ?_
  refine zk_callVI (pc := 5) dX7_mark_5 mtX0_hasMember lkX7_126 stX0_hasMember (by rfl) (by rfl) [_] _ rfl rfl (Nat.le_of_ble_eq_true rfl) (Nat.le_of_ble_eq_true rfl) (sp_X0_hasMember _) ?_
  refine zk_if_eq (pc := 8) 20 dX7_mark_8 (by decide) (fun h8 => ?_) (fun h8 => ?_)
  · rw [zb_e] at h8
    exact absurd hm h8 --
  · skip
    refine zk_iload_n (pc := 11) 2 dX7_mark_11 rfl rfl ?_
    refine zk_iconst (pc := 12) (v := 1) dX7_mark_12 (by decide) ?_
    refine zk_iconst (pc := 13) (v := 5) dX7_mark_13 (by decide) ?_
    refine zk_callSI (pc := 14) dX7_mark_14 mtX7_within lkX7_130 stX7_within [_, _, _] _ rfl rfl (Nat.le_of_ble_eq_true rfl) (Nat.le_of_ble_eq_true rfl) (sp_X7_within _ _ _) ?_
    refine zk_if_ne (pc := 17) 22 dX7_mark_17 (by decide) (fun h17 => ?_) (fun h17 => ?_)
    · rw [zb_n] at h17
      refine zk_aload_n (pc := 22) 0 dX7_mark_22 rfl rfl ?_
      refine zk_getR (pc := 23) dX7_mark_23 flX7_23 rfl rfl ?_
      refine zk_getR (pc := 26) dX7_mark_26 flX7_140 rfl rfl ?_
      refine zk_iload_n (pc := 29) 1 dX7_mark_29 rfl rfl ?_
      refine zk_iaload (pc := 30) j dX7_mark_30 rfl rfl (by omega) ?_
      refine zs_istore_n (pc := 31) (ls' := [_, _, _, _]) 3 dX7_mark_31 rfl (by decide) rfl ?_
      refine zk_iload_n (pc := 32) 3 dX7_mark_32 rfl rfl ?_
      refine zk_iload_n (pc := 33) 2 dX7_mark_33 rfl rfl ?_
      refine zk_callSI (pc := 34) dX7_mark_34 mtX2_isOf lkX7_143 stX2_isOf [_, _] _ rfl rfl (Nat.le_of_ble_eq_true rfl) (Nat.le_of_ble_eq_true rfl) (sp_X2_isOf _ _ (by match t, ht, ht5 with | 1, _, _ => decide | 2, _, _ => decide | 3, _, _ => decide | 4, _, _ => decide | 5, _, _ => decide)) ?_
      refine zk_if_ne (pc := 37) 46 dX7_mark_37 (by decide) (fun h37 => ?_) (fun h37 => ?_)
      · skip
        refine zk_iload_n (pc := 46) 2 dX7_mark_46 rfl rfl ?_
        match t, ht, ht5 with
        | 1, _, _ =>
          refine zk_tabIn (pc := 47) 76 dX7_mark_47 (by decide) (by decide) (by rfl) (by decide) ?_
          refine zk_aload_n (pc := 76) 0 dX7_mark_76 rfl rfl ?_
          refine zk_getR (pc := 77) dX7_mark_77 flX7_23 rfl rfl ?_
          refine zk_iload_n (pc := 80) 1 dX7_mark_80 rfl rfl ?_
          refine zk_callVI (pc := 81) dX7_mark_81 mtX0_ringSmoke lkX7_146 stX0_ringSmoke (by rfl) (by rfl) [_] _ rfl rfl (Nat.le_of_ble_eq_true rfl) (Nat.le_of_ble_eq_true rfl) (sp_X0_ringSmoke (by omega) hsq (by omega) (by rw [hC, hsq]; exact hbe) (by omega) (by rw [hC, hsq]; exact hae) (by omega)) ?_
          refine zk_ireturn (pc := 84) dX7_mark_84 (Or.inl rfl) (zk_ri ?_)
          unfold cMk
          rw [if_pos (by decide), hsq, hbe, hae, nI_clamp (by omega), nI_clamp (by omega), nI_clamp (by omega)]
        | 2, _, _ =>
          refine zk_tabIn (pc := 47) 85 dX7_mark_47 (by decide) (by decide) (by rfl) (by decide) ?_
          refine zk_aload_n (pc := 85) 0 dX7_mark_85 rfl rfl ?_
          refine zk_getR (pc := 86) dX7_mark_86 flX7_23 rfl rfl ?_
          refine zk_iload_n (pc := 89) 1 dX7_mark_89 rfl rfl ?_
          refine zk_callVI (pc := 90) dX7_mark_90 mtX0_otherYoungBeside lkX7_149 stX0_otherYoungBeside (by rfl) (by rfl) [_] _ rfl rfl (Nat.le_of_ble_eq_true rfl) (Nat.le_of_ble_eq_true rfl) (sp_X0_otherYoungBeside hM hM6 (by omega)) ?_
          refine zk_ireturn (pc := 93) dX7_mark_93 (Or.inl rfl) ?_
          exact zk_ri rfl
        | 3, _, _ =>
          refine zk_tabIn (pc := 47) 94 dX7_mark_47 (by decide) (by decide) (by rfl) (by decide) ?_
          refine zk_aload_n (pc := 94) 0 dX7_mark_94 rfl rfl ?_
          refine zk_getR (pc := 95) dX7_mark_95 flX7_23 rfl rfl ?_
          refine zk_iload_n (pc := 98) 1 dX7_mark_98 rfl rfl ?_
          refine zk_iconst (pc := 99) (v := 5) dX7_mark_99 (by decide) ?_
          refine zk_callVI (pc := 100) dX7_mark_100 mtX0_othersWithoutBreath lkX7_152 stX0_othersWithoutBreath (by rfl) (by rfl) [_, _] _ rfl rfl (Nat.le_of_ble_eq_true rfl) (Nat.le_of_ble_eq_true rfl) (sp_X0_othersWithoutBreath hM hM6 _ _) ?_
          refine zk_ireturn (pc := 103) dX7_mark_103 (Or.inl rfl) ?_
          exact zk_ri rfl
        | 4, _, _ =>
          refine zk_tabIn (pc := 47) 104 dX7_mark_47 (by decide) (by decide) (by rfl) (by decide) ?_
          refine zk_iload_n (pc := 104) 3 dX7_mark_104 rfl rfl ?_
          refine zk_iconst (pc := 105) (v := 0) dX7_mark_105 (by decide) ?_
          refine zk_callSI (pc := 106) dX7_mark_106 mtX2_meaningsOf lkX7_155 stX2_meaningsOf [_, _] _ rfl rfl (Nat.le_of_ble_eq_true rfl) (Nat.le_of_ble_eq_true rfl) (sp_X2_meaningsOf _ _) ?_
          refine zk_ireturn (pc := 109) dX7_mark_109 (Or.inl rfl) ?_
          exact zk_ri rfl
        | 5, _, _ =>
          refine zk_tabOut (pc := 47) 110 dX7_mark_47 (by decide) (by decide) ?_
          refine zk_iload_n (pc := 110) 3 dX7_mark_110 rfl rfl ?_
          refine zk_iload_n (pc := 111) 3 dX7_mark_111 rfl rfl ?_
          refine zk_bipush (pc := 112) (v := 7) dX7_mark_112 (by decide) ?_
          refine zk_callSI (pc := 114) dX7_mark_114 mtX2_spoken lkX7_158 stX2_spoken [_, _] _ rfl rfl (Nat.le_of_ble_eq_true rfl) (Nat.le_of_ble_eq_true rfl) (sp_X2_spoken _ _) ?_
          refine zk_callSI (pc := 117) dX7_mark_117 mtX2_meaningsOf lkX7_155 stX2_meaningsOf [_, _] _ rfl rfl (Nat.le_of_ble_eq_true rfl) (Nat.le_of_ble_eq_true rfl) (sp_X2_meaningsOf _ _) ?_
          refine zk_ireturn (pc := 120) dX7_mark_120 (Or.inl rfl) ?_
          exact zk_ri rfl
      · rw [zb_e] at h37
        exact absurd hk h37 --
    · rw [zb_e] at h17
      exact absurd hw h17 --
theorem sp_X7_mark_n (i w : Int32) (hb : ¬ ((0 ≤ i ∧ i < mu 23 6) ∧ (1 ≤ w ∧ w ≤ 5))) : zk_M (d + 1) RX7 cX7_mark 4 (some .int) none 0 (zk_loc [.ref 0, .int i, .int w] 4) [] mu lm (zk_R (some (.int (-1))) mu lm) := by
  refine zk_aload_n (pc := 0) 0 dX7_mark_0 rfl rfl ?_
  refine zk_getR (pc := 1) dX7_mark_1 flX7_23 rfl rfl ?_
  refine zk_iload_n (pc := 4) 1 dX7_mark_4 rfl rfl ?_
  refine zk_callVI (pc := 5) dX7_mark_5 mtX0_hasMember lkX7_126 stX0_hasMember (by rfl) (by rfl) [_] _ rfl rfl (Nat.le_of_ble_eq_true rfl) (Nat.le_of_ble_eq_true rfl) (sp_X0_hasMember _) ?_
  refine zk_if_eq (pc := 8) 20 dX7_mark_8 (by decide) (fun h8 => ?_) (fun h8 => ?_)
  · rw [zb_e] at h8
    refine zk_iconst (pc := 20) (v := -1) dX7_mark_20 (by decide) ?_
    exact zk_ireturn (pc := 21) dX7_mark_21 (Or.inl rfl) (zk_ri rfl)
  · rw [zb_n] at h8
    refine zk_iload_n (pc := 11) 2 dX7_mark_11 rfl rfl ?_
    refine zk_iconst (pc := 12) (v := 1) dX7_mark_12 (by decide) ?_
    refine zk_iconst (pc := 13) (v := 5) dX7_mark_13 (by decide) ?_
    refine zk_callSI (pc := 14) dX7_mark_14 mtX7_within lkX7_130 stX7_within [_, _, _] _ rfl rfl (Nat.le_of_ble_eq_true rfl) (Nat.le_of_ble_eq_true rfl) (sp_X7_within _ _ _) ?_
    refine zk_if_ne (pc := 17) 22 dX7_mark_17 (by decide) (fun h17 => ?_) (fun h17 => ?_)
    · rw [zb_n] at h17
      exact absurd ⟨h8, h17⟩ hb --
    · rw [zb_e] at h17
      refine zk_iconst (pc := 20) (v := -1) dX7_mark_20 (by decide) ?_
      exact zk_ireturn (pc := 21) dX7_mark_21 (Or.inl rfl) (zk_ri rfl)
theorem sp_X7_mark_u {C M : Nat} (hC : mu 23 5 = nI C) (hC8 : C ≤ 8) (hM : mu 23 6 = nI M) (hM6 : M ≤ 6) {j t : Nat} (hj : j < M) (ht : 1 ≤ t) (ht5 : t ≤ 5) (hk : ¬ kIs (mu 24 j) (nI t)) : zk_M (d + 1) RX7 cX7_mark 4 (some .int) none 0 (zk_loc [.ref 0, .int (nI j), .int (nI t)] 4) [] mu lm (zk_R (some (.int (-3))) (fndM mu 3) lm) := by
  have hm : 0 ≤ nI j ∧ nI j < mu 23 6 := ⟨nI_pos' (by omega), by rw [hM, nIlt (by omega) (by omega)]; exact hj⟩
  have hw : (1 : Int32) ≤ nI t ∧ nI t ≤ 5 := ⟨show nI 1 ≤ nI t from nI_le ht (by omega), show nI t ≤ nI 5 from nI_le ht5 (by decide)⟩
  refine zk_aload_n (pc := 0) 0 dX7_mark_0 rfl rfl ?_
  refine zk_getR (pc := 1) dX7_mark_1 flX7_23 rfl rfl ?_
  refine zk_iload_n (pc := 4) 1 dX7_mark_4 rfl rfl ?_
  refine zk_callVI (pc := 5) dX7_mark_5 mtX0_hasMember lkX7_126 stX0_hasMember (by rfl) (by rfl) [_] _ rfl rfl (Nat.le_of_ble_eq_true rfl) (Nat.le_of_ble_eq_true rfl) (sp_X0_hasMember _) ?_
  refine zk_if_eq (pc := 8) 20 dX7_mark_8 (by decide) (fun h8 => ?_) (fun h8 => ?_)
  · rw [zb_e] at h8
    exact absurd hm h8 --
  · skip
    refine zk_iload_n (pc := 11) 2 dX7_mark_11 rfl rfl ?_
    refine zk_iconst (pc := 12) (v := 1) dX7_mark_12 (by decide) ?_
    refine zk_iconst (pc := 13) (v := 5) dX7_mark_13 (by decide) ?_
    refine zk_callSI (pc := 14) dX7_mark_14 mtX7_within lkX7_130 stX7_within [_, _, _] _ rfl rfl (Nat.le_of_ble_eq_true rfl) (Nat.le_of_ble_eq_true rfl) (sp_X7_within _ _ _) ?_
    refine zk_if_ne (pc := 17) 22 dX7_mark_17 (by decide) (fun h17 => ?_) (fun h17 => ?_)
    · rw [zb_n] at h17
      refine zk_aload_n (pc := 22) 0 dX7_mark_22 rfl rfl ?_
      refine zk_getR (pc := 23) dX7_mark_23 flX7_23 rfl rfl ?_
      refine zk_getR (pc := 26) dX7_mark_26 flX7_140 rfl rfl ?_
      refine zk_iload_n (pc := 29) 1 dX7_mark_29 rfl rfl ?_
      refine zk_iaload (pc := 30) j dX7_mark_30 rfl rfl (by omega) ?_
      refine zs_istore_n (pc := 31) (ls' := [_, _, _, _]) 3 dX7_mark_31 rfl (by decide) rfl ?_
      refine zk_iload_n (pc := 32) 3 dX7_mark_32 rfl rfl ?_
      refine zk_iload_n (pc := 33) 2 dX7_mark_33 rfl rfl ?_
      refine zk_callSI (pc := 34) dX7_mark_34 mtX2_isOf lkX7_143 stX2_isOf [_, _] _ rfl rfl (Nat.le_of_ble_eq_true rfl) (Nat.le_of_ble_eq_true rfl) (sp_X2_isOf _ _ (by match t, ht, ht5 with | 1, _, _ => decide | 2, _, _ => decide | 3, _, _ => decide | 4, _, _ => decide | 5, _, _ => decide)) ?_
      refine zk_if_ne (pc := 37) 46 dX7_mark_37 (by decide) (fun h37 => ?_) (fun h37 => ?_)
      · rw [zb_n] at h37
        exact absurd h37 hk --
      · rw [zb_e] at h37
        refine zk_aload_n (pc := 40) 0 dX7_mark_40 rfl rfl ?_
        refine zk_iconst (pc := 41) (v := 3) dX7_mark_41 (by decide) ?_
        refine zk_callVI (pc := 42) dX7_mark_42 mtX7_found lkX7_93 stX7_found (by rfl) (by rfl) [_] _ rfl rfl (Nat.le_of_ble_eq_true rfl) (Nat.le_of_ble_eq_true rfl) (sp_X7_found (f := 3) (by decide)) ?_
        exact zk_ireturn (pc := 45) dX7_mark_45 (Or.inl rfl) ⟨rfl, rfl, rfl⟩
    · rw [zb_e] at h17
      exact absurd hw h17 --
def doM (mu : Mem) (C n w o v : Nat) : Int32 × Mem := if n < 40 then (enR (wrD mu n w o v) C w o (nI v), enM (wrD mu n w o v) C w o (nI v)) else (-2, mu)
theorem sp_X7_talk {C M : Nat} (hC : mu 23 5 = nI C) (hC8 : C ≤ 8) (hM : mu 23 6 = nI M) (hM6 : M ≤ 6) {n : Nat} (hn : mu 28 1 = nI n) (hn4 : n ≤ 40) {j a : Nat} (hj : j < M) (ha : a ≤ 99) : zk_M (d + 8) RX7 cX7_talk 3 (some .int) none 0 (zk_loc [.ref 0, .int (nI j), .int (nI a)] 3) [] mu lm (zk_R (some (.int (doM mu C n 0 j a).1)) (doM mu C n 0 j a).2 lm) := by
  have hm : 0 ≤ nI j ∧ nI j < mu 23 6 := ⟨nI_pos' (by omega), by rw [hM, nIlt (by omega) (by omega)]; exact hj⟩
  have hv : (0 : Int32) ≤ nI a ∧ nI a ≤ 99 := ⟨nI_pos' (by omega), show nI a ≤ nI 99 from nI_le ha (by decide)⟩
  refine zk_aload_n (pc := 0) 0 dX7_talk_0 rfl rfl ?_
  refine zk_getR (pc := 1) dX7_talk_1 flX7_23 rfl rfl ?_
  refine zk_iload_n (pc := 4) 1 dX7_talk_4 rfl rfl ?_
  refine zk_callVI (pc := 5) dX7_talk_5 mtX0_hasMember lkX7_126 stX0_hasMember (by rfl) (by rfl) [_] _ rfl rfl (Nat.le_of_ble_eq_true rfl) (Nat.le_of_ble_eq_true rfl) (sp_X0_hasMember _) ?_
  refine zk_if_eq (pc := 8) 18 dX7_talk_8 (by decide) (fun h8 => ?_) (fun h8 => ?_)
  · rw [zb_e] at h8
    exact absurd hm h8 --
  · skip
    refine zk_iload_n (pc := 11) 2 dX7_talk_11 rfl rfl ?_
    refine zk_callSI (pc := 12) dX7_talk_12 mtX7_isMeaning lkX7_167 stX7_isMeaning [_] _ rfl rfl (Nat.le_of_ble_eq_true rfl) (Nat.le_of_ble_eq_true rfl) (sp_X7_isMeaning _) ?_
    refine zk_if_ne (pc := 15) 20 dX7_talk_15 (by decide) (fun h15 => ?_) (fun h15 => ?_)
    · skip
      refine zk_aload_n (pc := 20) 0 dX7_talk_20 rfl rfl ?_
      refine zk_getR (pc := 21) dX7_talk_21 flX7_30 rfl rfl ?_
      refine zk_callVI (pc := 24) dX7_talk_24 mtX1_isFull lkX7_170 stX1_isFull (by rfl) (by rfl) [] _ rfl rfl (Nat.le_of_ble_eq_true rfl) (Nat.le_of_ble_eq_true rfl) (sp_X1_isFull (c := 28) (p := 29) ⟨rfl, rfl⟩) ?_
      refine zk_if_eq (pc := 27) 35 dX7_talk_27 (by decide) (fun h27 => ?_) (fun h27 => ?_)
      · rw [zb_e, hn, show (40 : Int32) = nI 40 from rfl, nIle (by omega) (by omega)] at h27
        refine zk_aload_n (pc := 35) 0 dX7_talk_35 rfl rfl ?_
        refine zk_iconst (pc := 36) (v := 0) dX7_talk_36 (by decide) ?_
        refine zk_iload_n (pc := 37) 1 dX7_talk_37 rfl rfl ?_
        refine zk_iload_n (pc := 38) 2 dX7_talk_38 rfl rfl ?_
        refine zk_callVI (pc := 39) dX7_talk_39 mtX7_perform lkX7_173 stX7_perform (by rfl) (by rfl) [_, _, _] _ rfl rfl (Nat.le_of_ble_eq_true rfl) (Nat.le_of_ble_eq_true rfl) (sp_X7_perform (w := 0) (o := j) (v := a) hC hC8 hM hM6 (⟨by decide, fun _ => hj, fun q => absurd q (by decide)⟩) hn (by omega)) ?_
        refine zk_ireturn (pc := 42) dX7_talk_42 (Or.inl rfl) (zk_pr ?_)
        unfold doM
        first | rw [if_neg (by omega)] | rw [if_pos (by omega)]
      · rw [zb_n, hn, show (40 : Int32) = nI 40 from rfl, nIle (by omega) (by omega)] at h27
        refine zk_bipush (pc := 30) (v := -2) dX7_talk_30 (by decide) ?_
        refine zk_goto (pc := 32) 42 dX7_talk_32 (by decide) ?_
        refine zk_ireturn (pc := 42) dX7_talk_42 (Or.inl rfl) (zk_pr ?_)
        unfold doM
        first | rw [if_neg (by omega)] | rw [if_pos (by omega)]
    · rw [zb_e] at h15
      exact absurd hv h15 --
theorem sp_X7_talk_n (i v : Int32) (hb : ¬ ((0 ≤ i ∧ i < mu 23 6) ∧ (0 ≤ v ∧ v ≤ 99))) : zk_M (d + 2) RX7 cX7_talk 3 (some .int) none 0 (zk_loc [.ref 0, .int i, .int v] 3) [] mu lm (zk_R (some (.int (-1))) mu lm) := by
  refine zk_aload_n (pc := 0) 0 dX7_talk_0 rfl rfl ?_
  refine zk_getR (pc := 1) dX7_talk_1 flX7_23 rfl rfl ?_
  refine zk_iload_n (pc := 4) 1 dX7_talk_4 rfl rfl ?_
  refine zk_callVI (pc := 5) dX7_talk_5 mtX0_hasMember lkX7_126 stX0_hasMember (by rfl) (by rfl) [_] _ rfl rfl (Nat.le_of_ble_eq_true rfl) (Nat.le_of_ble_eq_true rfl) (sp_X0_hasMember _) ?_
  refine zk_if_eq (pc := 8) 18 dX7_talk_8 (by decide) (fun h8 => ?_) (fun h8 => ?_)
  · rw [zb_e] at h8
    refine zk_iconst (pc := 18) (v := -1) dX7_talk_18 (by decide) ?_
    exact zk_ireturn (pc := 19) dX7_talk_19 (Or.inl rfl) (zk_ri rfl)
  · rw [zb_n] at h8
    refine zk_iload_n (pc := 11) 2 dX7_talk_11 rfl rfl ?_
    refine zk_callSI (pc := 12) dX7_talk_12 mtX7_isMeaning lkX7_167 stX7_isMeaning [_] _ rfl rfl (Nat.le_of_ble_eq_true rfl) (Nat.le_of_ble_eq_true rfl) (sp_X7_isMeaning _) ?_
    refine zk_if_ne (pc := 15) 20 dX7_talk_15 (by decide) (fun h15 => ?_) (fun h15 => ?_)
    · rw [zb_n] at h15
      exact absurd ⟨h8, h15⟩ hb --
    · rw [zb_e] at h15
      refine zk_iconst (pc := 18) (v := -1) dX7_talk_18 (by decide) ?_
      exact zk_ireturn (pc := 19) dX7_talk_19 (Or.inl rfl) (zk_ri rfl)
theorem sp_X7_hour {C M : Nat} (hC : mu 23 5 = nI C) (hC8 : C ≤ 8) (hM : mu 23 6 = nI M) (hM6 : M ≤ 6) {n : Nat} (hn : mu 28 1 = nI n) (hn4 : n ≤ 40) : zk_M (d + 8) RX7 cX7_hour 1 (some .int) none 0 (zk_loc [.ref 0] 1) [] mu lm (zk_R (some (.int (if M = 0 then (-4, mu) else doM mu C n 1 0 0).1)) (if M = 0 then (-4, mu) else doM mu C n 1 0 0).2 lm) := by
  refine zk_aload_n (pc := 0) 0 dX7_hour_0 rfl rfl ?_
  refine zk_getR (pc := 1) dX7_hour_1 flX7_23 rfl rfl ?_
  refine zk_getI (pc := 4) dX7_hour_4 flX7_123 rfl rfl ?_
  refine zk_if_ne (pc := 7) 13 dX7_hour_7 (by decide) (fun h7 => ?_) (fun h7 => ?_)
  · rw [hM] at h7
    have hM0 : ¬ M = 0 := fun q => h7 (by rw [q]; rfl)
    rw [if_neg hM0]
    refine zk_aload_n (pc := 13) 0 dX7_hour_13 rfl rfl ?_
    refine zk_getR (pc := 14) dX7_hour_14 flX7_30 rfl rfl ?_
    refine zk_callVI (pc := 17) dX7_hour_17 mtX1_isFull lkX7_170 stX1_isFull (by rfl) (by rfl) [] _ rfl rfl (Nat.le_of_ble_eq_true rfl) (Nat.le_of_ble_eq_true rfl) (sp_X1_isFull (c := 28) (p := 29) ⟨rfl, rfl⟩) ?_
    refine zk_if_eq (pc := 20) 28 dX7_hour_20 (by decide) (fun h20 => ?_) (fun h20 => ?_)
    · rw [zb_e, hn, show (40 : Int32) = nI 40 from rfl, nIle (by omega) (by omega)] at h20
      refine zk_aload_n (pc := 28) 0 dX7_hour_28 rfl rfl ?_
      refine zk_iconst (pc := 29) (v := 1) dX7_hour_29 (by decide) ?_
      refine zk_iconst (pc := 30) (v := 0) dX7_hour_30 (by decide) ?_
      refine zk_iconst (pc := 31) (v := 0) dX7_hour_31 (by decide) ?_
      refine zk_callVI (pc := 32) dX7_hour_32 mtX7_perform lkX7_173 stX7_perform (by rfl) (by rfl) [_, _, _] _ rfl rfl (Nat.le_of_ble_eq_true rfl) (Nat.le_of_ble_eq_true rfl) (sp_X7_perform (w := 1) (o := 0) (v := 0) hC hC8 hM hM6 (⟨by decide, fun q => absurd q (by decide), fun q => absurd q (by decide)⟩) hn (by omega)) ?_
      refine zk_ireturn (pc := 35) dX7_hour_35 (Or.inl rfl) (zk_pr ?_)
      unfold doM
      first | rw [if_neg (by omega)] | rw [if_pos (by omega)]
    · rw [zb_n, hn, show (40 : Int32) = nI 40 from rfl, nIle (by omega) (by omega)] at h20
      refine zk_bipush (pc := 23) (v := -2) dX7_hour_23 (by decide) ?_
      refine zk_goto (pc := 25) 35 dX7_hour_25 (by decide) ?_
      refine zk_ireturn (pc := 35) dX7_hour_35 (Or.inl rfl) (zk_pr ?_)
      unfold doM
      first | rw [if_neg (by omega)] | rw [if_pos (by omega)]
  · rw [hM, show (0 : Int32) = nI 0 from rfl, nIeq (by omega) (by omega)] at h7
    rw [if_pos h7]
    refine zk_bipush (pc := 10) (v := -4) dX7_hour_10 (by decide) ?_
    exact zk_ireturn (pc := 12) dX7_hour_12 (Or.inl rfl) (zk_pr rfl)
theorem sp_X7_open {C M : Nat} (hC : mu 23 5 = nI C) (hC8 : C ≤ 8) (hM : mu 23 6 = nI M) (hM6 : M ≤ 6) {n : Nat} (hn : mu 28 1 = nI n) (hn4 : n ≤ 40) {c : Nat} (hc : c < C) : zk_M (d + 8) RX7 cX7_open 2 (some .int) none 0 (zk_loc [.ref 0, .int (nI c)] 2) [] mu lm (zk_R (some (.int (if mu 27 c = 0 then (-4, mu) else doM mu C n 2 c 0).1)) (if mu 27 c = 0 then (-4, mu) else doM mu C n 2 c 0).2 lm) := by
  have hm : 0 ≤ nI c ∧ nI c < mu 23 5 := ⟨nI_pos' (by omega), by rw [hC, nIlt (by omega) (by omega)]; exact hc⟩
  refine zk_aload_n (pc := 0) 0 dX7_open_0 rfl rfl ?_
  refine zk_getR (pc := 1) dX7_open_1 flX7_23 rfl rfl ?_
  refine zk_iload_n (pc := 4) 1 dX7_open_4 rfl rfl ?_
  refine zk_callVI (pc := 5) dX7_open_5 mtX0_hasCell lkX7_161 stX0_hasCell (by rfl) (by rfl) [_] _ rfl rfl (Nat.le_of_ble_eq_true rfl) (Nat.le_of_ble_eq_true rfl) (sp_X0_hasCell _) ?_
  refine zk_if_ne (pc := 8) 13 dX7_open_8 (by decide) (fun h8 => ?_) (fun h8 => ?_)
  · skip
    refine zk_aload_n (pc := 13) 0 dX7_open_13 rfl rfl ?_
    refine zk_getR (pc := 14) dX7_open_14 flX7_23 rfl rfl ?_
    refine zk_getR (pc := 17) dX7_open_17 flX7_164 rfl rfl ?_
    refine zk_iload_n (pc := 20) 1 dX7_open_20 rfl rfl ?_
    refine zk_iaload (pc := 21) c dX7_open_21 rfl rfl (by omega) ?_
    refine zk_if_ne (pc := 22) 28 dX7_open_22 (by decide) (fun h22 => ?_) (fun h22 => ?_)
    · rw [if_neg h22]
      refine zk_aload_n (pc := 28) 0 dX7_open_28 rfl rfl ?_
      refine zk_getR (pc := 29) dX7_open_29 flX7_30 rfl rfl ?_
      refine zk_callVI (pc := 32) dX7_open_32 mtX1_isFull lkX7_170 stX1_isFull (by rfl) (by rfl) [] _ rfl rfl (Nat.le_of_ble_eq_true rfl) (Nat.le_of_ble_eq_true rfl) (sp_X1_isFull (c := 28) (p := 29) ⟨rfl, rfl⟩) ?_
      refine zk_if_eq (pc := 35) 43 dX7_open_35 (by decide) (fun h35 => ?_) (fun h35 => ?_)
      · rw [zb_e, hn, show (40 : Int32) = nI 40 from rfl, nIle (by omega) (by omega)] at h35
        refine zk_aload_n (pc := 43) 0 dX7_open_43 rfl rfl ?_
        refine zk_iconst (pc := 44) (v := 2) dX7_open_44 (by decide) ?_
        refine zk_iload_n (pc := 45) 1 dX7_open_45 rfl rfl ?_
        refine zk_iconst (pc := 46) (v := 0) dX7_open_46 (by decide) ?_
        refine zk_callVI (pc := 47) dX7_open_47 mtX7_perform lkX7_173 stX7_perform (by rfl) (by rfl) [_, _, _] _ rfl rfl (Nat.le_of_ble_eq_true rfl) (Nat.le_of_ble_eq_true rfl) (sp_X7_perform (w := 2) (o := c) (v := 0) hC hC8 hM hM6 (⟨by decide, fun q => absurd q (by decide), fun _ => hc⟩) hn (by omega)) ?_
        refine zk_ireturn (pc := 50) dX7_open_50 (Or.inl rfl) (zk_pr ?_)
        unfold doM
        first | rw [if_neg (by omega)] | rw [if_pos (by omega)]
      · rw [zb_n, hn, show (40 : Int32) = nI 40 from rfl, nIle (by omega) (by omega)] at h35
        refine zk_bipush (pc := 38) (v := -2) dX7_open_38 (by decide) ?_
        refine zk_goto (pc := 40) 50 dX7_open_40 (by decide) ?_
        refine zk_ireturn (pc := 50) dX7_open_50 (Or.inl rfl) (zk_pr ?_)
        unfold doM
        first | rw [if_neg (by omega)] | rw [if_pos (by omega)]
    · rw [if_pos h22]
      refine zk_bipush (pc := 25) (v := -4) dX7_open_25 (by decide) ?_
      exact zk_ireturn (pc := 27) dX7_open_27 (Or.inl rfl) (zk_pr rfl)
  · rw [zb_e] at h8
    exact absurd hm h8 --
theorem sp_X7_open_n (i : Int32) (hb : ¬ (0 ≤ i ∧ i < mu 23 5)) : zk_M (d + 1) RX7 cX7_open 2 (some .int) none 0 (zk_loc [.ref 0, .int i] 2) [] mu lm (zk_R (some (.int (-1))) mu lm) := by
  refine zk_aload_n (pc := 0) 0 dX7_open_0 rfl rfl ?_
  refine zk_getR (pc := 1) dX7_open_1 flX7_23 rfl rfl ?_
  refine zk_iload_n (pc := 4) 1 dX7_open_4 rfl rfl ?_
  refine zk_callVI (pc := 5) dX7_open_5 mtX0_hasCell lkX7_161 stX0_hasCell (by rfl) (by rfl) [_] _ rfl rfl (Nat.le_of_ble_eq_true rfl) (Nat.le_of_ble_eq_true rfl) (sp_X0_hasCell _) ?_
  refine zk_if_ne (pc := 8) 13 dX7_open_8 (by decide) (fun h8 => ?_) (fun h8 => ?_)
  · rw [zb_n] at h8
    exact absurd h8 hb --
  · rw [zb_e] at h8
    refine zk_iconst (pc := 11) (v := -1) dX7_open_11 (by decide) ?_
    exact zk_ireturn (pc := 12) dX7_open_12 (Or.inl rfl) (zk_ri rfl)
theorem sp_X7_thunder {C M : Nat} (hC : mu 23 5 = nI C) (hC8 : C ≤ 8) (hM : mu 23 6 = nI M) (hM6 : M ≤ 6) {n : Nat} (hn : mu 28 1 = nI n) (hn4 : n ≤ 40) : zk_M (d + 8) RX7 cX7_thunder 1 (some .int) none 0 (zk_loc [.ref 0] 1) [] mu lm (zk_R (some (.int (if zsum C (mu 27) = 0 then (-4, mu) else doM mu C n 3 0 0).1)) (if zsum C (mu 27) = 0 then (-4, mu) else doM mu C n 3 0 0).2 lm) := by
  refine zk_aload_n (pc := 0) 0 dX7_thunder_0 rfl rfl ?_
  refine zk_getR (pc := 1) dX7_thunder_1 flX7_23 rfl rfl ?_
  refine zk_callVI (pc := 4) dX7_thunder_4 mtX0_allSmoke lkX7_177 stX0_allSmoke (by rfl) (by rfl) [] _ rfl rfl (Nat.le_of_ble_eq_true rfl) (Nat.le_of_ble_eq_true rfl) (sp_X0_allSmoke hC hC8) ?_
  refine zk_if_ne (pc := 7) 13 dX7_thunder_7 (by decide) (fun h7 => ?_) (fun h7 => ?_)
  · rw [if_neg h7]
    refine zk_aload_n (pc := 13) 0 dX7_thunder_13 rfl rfl ?_
    refine zk_getR (pc := 14) dX7_thunder_14 flX7_30 rfl rfl ?_
    refine zk_callVI (pc := 17) dX7_thunder_17 mtX1_isFull lkX7_170 stX1_isFull (by rfl) (by rfl) [] _ rfl rfl (Nat.le_of_ble_eq_true rfl) (Nat.le_of_ble_eq_true rfl) (sp_X1_isFull (c := 28) (p := 29) ⟨rfl, rfl⟩) ?_
    refine zk_if_eq (pc := 20) 28 dX7_thunder_20 (by decide) (fun h20 => ?_) (fun h20 => ?_)
    · rw [zb_e, hn, show (40 : Int32) = nI 40 from rfl, nIle (by omega) (by omega)] at h20
      refine zk_aload_n (pc := 28) 0 dX7_thunder_28 rfl rfl ?_
      refine zk_iconst (pc := 29) (v := 3) dX7_thunder_29 (by decide) ?_
      refine zk_iconst (pc := 30) (v := 0) dX7_thunder_30 (by decide) ?_
      refine zk_iconst (pc := 31) (v := 0) dX7_thunder_31 (by decide) ?_
      refine zk_callVI (pc := 32) dX7_thunder_32 mtX7_perform lkX7_173 stX7_perform (by rfl) (by rfl) [_, _, _] _ rfl rfl (Nat.le_of_ble_eq_true rfl) (Nat.le_of_ble_eq_true rfl) (sp_X7_perform (w := 3) (o := 0) (v := 0) hC hC8 hM hM6 (⟨by decide, fun q => absurd q (by decide), fun q => absurd q (by decide)⟩) hn (by omega)) ?_
      refine zk_ireturn (pc := 35) dX7_thunder_35 (Or.inl rfl) (zk_pr ?_)
      unfold doM
      first | rw [if_neg (by omega)] | rw [if_pos (by omega)]
    · rw [zb_n, hn, show (40 : Int32) = nI 40 from rfl, nIle (by omega) (by omega)] at h20
      refine zk_bipush (pc := 23) (v := -2) dX7_thunder_23 (by decide) ?_
      refine zk_goto (pc := 25) 35 dX7_thunder_25 (by decide) ?_
      refine zk_ireturn (pc := 35) dX7_thunder_35 (Or.inl rfl) (zk_pr ?_)
      unfold doM
      first | rw [if_neg (by omega)] | rw [if_pos (by omega)]
  · rw [if_pos h7]
    refine zk_bipush (pc := 10) (v := -4) dX7_thunder_10 (by decide) ?_
    exact zk_ireturn (pc := 12) dX7_thunder_12 (Or.inl rfl) (zk_pr rfl)
theorem sp_X7_undo {C M : Nat} (hC : mu 23 5 = nI C) (hC8 : C ≤ 8) (hM : mu 23 6 = nI M) (hM6 : M ≤ 6) {n : Nat} (hn : mu 28 1 = nI n) (hn4 : n ≤ 40) (D : Nat → Nat × Nat × Nat) (hD : dAll mu 29 C M n D) {k : Nat} (hk : k ≤ n) : zk_M (d + 8) RX7 cX7_undo 3 (some .int) none 0 (zk_loc [.ref 0, .int (nI k)] 3) [] mu lm (zk_R (some (.int (nI (n - k)))) (rlv (frshM (zk_up mu 28 1 (nI k))) C D k) lm) := by
  have hm : 0 ≤ nI k ∧ nI k ≤ mu 28 1 := ⟨nI_pos' (by omega), by rw [hn, nIle (by omega) (by omega)]; exact hk⟩
  refine zk_iload_n (pc := 0) 1 dX7_undo_0 rfl rfl ?_
  refine zk_iconst (pc := 1) (v := 0) dX7_undo_1 (by decide) ?_
  refine zk_aload_n (pc := 2) 0 dX7_undo_2 rfl rfl ?_
  refine zk_getR (pc := 3) dX7_undo_3 flX7_30 rfl rfl ?_
  refine zk_getI (pc := 6) dX7_undo_6 flX7_34 rfl rfl ?_
  refine zk_callSI (pc := 9) dX7_undo_9 mtX7_within lkX7_130 stX7_within [_, _, _] _ rfl rfl (Nat.le_of_ble_eq_true rfl) (Nat.le_of_ble_eq_true rfl) (sp_X7_within _ _ _) ?_
  refine zk_if_ne (pc := 12) 17 dX7_undo_12 (by decide) (fun h12 => ?_) (fun h12 => ?_)
  · skip
    refine zk_aload_n (pc := 17) 0 dX7_undo_17 rfl rfl ?_
    refine zk_getR (pc := 18) dX7_undo_18 flX7_30 rfl rfl ?_
    refine zk_getI (pc := 21) dX7_undo_21 flX7_34 rfl rfl ?_
    refine zk_iload_n (pc := 24) 1 dX7_undo_24 rfl rfl ?_
    refine zk_isub (pc := 25) dX7_undo_25 ?_
    refine zs_istore_n (pc := 26) (ls' := [_, _, _]) 2 dX7_undo_26 rfl (by decide) rfl ?_
    refine zk_aload_n (pc := 27) 0 dX7_undo_27 rfl rfl ?_
    refine zk_getR (pc := 28) dX7_undo_28 flX7_30 rfl rfl ?_
    refine zk_iload_n (pc := 31) 1 dX7_undo_31 rfl rfl ?_
    refine zk_putI (pc := 32) dX7_undo_32 flX7_34 rfl rfl ?_
    refine zk_aload_n (pc := 35) 0 dX7_undo_35 rfl rfl ?_
    refine zk_callVV (pc := 36) dX7_undo_36 mtX7_relive lkX7_181 stX7_relive (by rfl) (by rfl) [] _ rfl rfl (Nat.le_of_ble_eq_true rfl) (Nat.le_of_ble_eq_true rfl) (sp_X7_relive (C := C) (M := M) (n := k) (by rw [zup_c _ _ _ (by decide)]; exact hC) hC8 (by rw [zup_c _ _ _ (by decide)]; exact hM) hM6 (by rw [zup_s]) (by omega) D (fun z hz => by rw [zup_c _ _ _ (by decide)]; exact hD z (by omega))) ?_
    refine zk_iload_n (pc := 39) 2 dX7_undo_39 rfl rfl ?_
    refine zk_ireturn (pc := 40) dX7_undo_40 (Or.inl rfl) (zk_rm ?_ rfl rfl)
    rw [hn, pk_sub hk]
  · rw [zb_e] at h12
    exact absurd hm h12 --
theorem sp_X7_undo_n (i : Int32) (hb : ¬ (0 ≤ i ∧ i ≤ mu 28 1)) : zk_M (d + 1) RX7 cX7_undo 3 (some .int) none 0 (zk_loc [.ref 0, .int i] 3) [] mu lm (zk_R (some (.int (-1))) mu lm) := by
  refine zk_iload_n (pc := 0) 1 dX7_undo_0 rfl rfl ?_
  refine zk_iconst (pc := 1) (v := 0) dX7_undo_1 (by decide) ?_
  refine zk_aload_n (pc := 2) 0 dX7_undo_2 rfl rfl ?_
  refine zk_getR (pc := 3) dX7_undo_3 flX7_30 rfl rfl ?_
  refine zk_getI (pc := 6) dX7_undo_6 flX7_34 rfl rfl ?_
  refine zk_callSI (pc := 9) dX7_undo_9 mtX7_within lkX7_130 stX7_within [_, _, _] _ rfl rfl (Nat.le_of_ble_eq_true rfl) (Nat.le_of_ble_eq_true rfl) (sp_X7_within _ _ _) ?_
  refine zk_if_ne (pc := 12) 17 dX7_undo_12 (by decide) (fun h12 => ?_) (fun h12 => ?_)
  · rw [zb_n] at h12
    exact absurd h12 hb --
  · rw [zb_e] at h12
    refine zk_iconst (pc := 15) (v := -1) dX7_undo_15 (by decide) ?_
    exact zk_ireturn (pc := 16) dX7_undo_16 (Or.inl rfl) (zk_ri rfl)
theorem sp_X7_keep_n (i : Int32) (hb : ¬ (0 ≤ i ∧ i ≤ 2)) : zk_M (d + 1) RX7 cX7_keep 2 (some .int) none 0 (zk_loc [.ref 0, .int i] 2) [] mu lm (zk_R (some (.int (-1))) mu lm) := by
  refine zk_iload_n (pc := 0) 1 dX7_keep_0 rfl rfl ?_
  refine zk_iconst (pc := 1) (v := 0) dX7_keep_1 (by decide) ?_
  refine zk_aload_n (pc := 2) 0 dX7_keep_2 rfl rfl ?_
  refine zk_getR (pc := 3) dX7_keep_3 flX7_38 rfl rfl ?_
  refine zk_alen (pc := 6) dX7_keep_6 rfl (by decide) ?_
  refine zk_iconst (pc := 7) (v := 1) dX7_keep_7 (by decide) ?_
  refine zk_isub (pc := 8) dX7_keep_8 ?_
  rw [show nI 3 - 1 = 2 from rfl]
  refine zk_callSI (pc := 9) dX7_keep_9 mtX7_within lkX7_130 stX7_within [_, _, _] _ rfl rfl (Nat.le_of_ble_eq_true rfl) (Nat.le_of_ble_eq_true rfl) (sp_X7_within _ _ _) ?_
  refine zk_if_ne (pc := 12) 17 dX7_keep_12 (by decide) (fun h12 => ?_) (fun h12 => ?_)
  · rw [zb_n] at h12
    exact absurd h12 hb --
  · rw [zb_e] at h12
    refine zk_iconst (pc := 15) (v := -1) dX7_keep_15 (by decide) ?_
    exact zk_ireturn (pc := 16) dX7_keep_16 (Or.inl rfl) (zk_ri rfl)
theorem sp_X7_on_n (i : Int32) (hb : ¬ (0 ≤ i ∧ i ≤ 2)) : zk_M (d + 1) RX7 cX7_on 2 (some .int) none 0 (zk_loc [.ref 0, .int i] 2) [] mu lm (zk_R (some (.int (-1))) mu lm) := by
  refine zk_iload_n (pc := 0) 1 dX7_on_0 rfl rfl ?_
  refine zk_iconst (pc := 1) (v := 0) dX7_on_1 (by decide) ?_
  refine zk_aload_n (pc := 2) 0 dX7_on_2 rfl rfl ?_
  refine zk_getR (pc := 3) dX7_on_3 flX7_38 rfl rfl ?_
  refine zk_alen (pc := 6) dX7_on_6 rfl (by decide) ?_
  refine zk_iconst (pc := 7) (v := 1) dX7_on_7 (by decide) ?_
  refine zk_isub (pc := 8) dX7_on_8 ?_
  rw [show nI 3 - 1 = 2 from rfl]
  refine zk_callSI (pc := 9) dX7_on_9 mtX7_within lkX7_130 stX7_within [_, _, _] _ rfl rfl (Nat.le_of_ble_eq_true rfl) (Nat.le_of_ble_eq_true rfl) (sp_X7_within _ _ _) ?_
  refine zk_if_ne (pc := 12) 17 dX7_on_12 (by decide) (fun h12 => ?_) (fun h12 => ?_)
  · rw [zb_n] at h12
    exact absurd h12 hb --
  · rw [zb_e] at h12
    refine zk_iconst (pc := 15) (v := -1) dX7_on_15 (by decide) ?_
    exact zk_ireturn (pc := 16) dX7_on_16 (Or.inl rfl) (zk_ri rfl)
theorem sp_X7_keep {C M : Nat} (hC : mu 23 5 = nI C) (hC8 : C ≤ 8) (hM : mu 23 6 = nI M) (hM6 : M ≤ 6) {k : Nat} (hk : k < 3) : zk_M (d + 1) RX7 cX7_keep 2 (some .int) none 0 (zk_loc [.ref 0, .int (nI k)] 2) [] mu lm (zk_R (some (.int (if M = 0 then -4 else mu 28 1))) (if M = 0 then mu else zk_up (zcp mu (32 + 2 * k) 29 40) (31 + 2 * k) 1 (mu 28 1)) lm) := by
  have hm : 0 ≤ nI k ∧ nI k ≤ 2 := ⟨nI_pos' (by omega), show nI k ≤ nI 2 from nI_le (by omega) (by decide)⟩
  refine zk_iload_n (pc := 0) 1 dX7_keep_0 rfl rfl ?_
  refine zk_iconst (pc := 1) (v := 0) dX7_keep_1 (by decide) ?_
  refine zk_aload_n (pc := 2) 0 dX7_keep_2 rfl rfl ?_
  refine zk_getR (pc := 3) dX7_keep_3 flX7_38 rfl rfl ?_
  refine zk_alen (pc := 6) dX7_keep_6 rfl (by decide) ?_
  refine zk_iconst (pc := 7) (v := 1) dX7_keep_7 (by decide) ?_
  refine zk_isub (pc := 8) dX7_keep_8 ?_
  rw [show nI 3 - 1 = 2 from rfl]
  refine zk_callSI (pc := 9) dX7_keep_9 mtX7_within lkX7_130 stX7_within [_, _, _] _ rfl rfl (Nat.le_of_ble_eq_true rfl) (Nat.le_of_ble_eq_true rfl) (sp_X7_within _ _ _) ?_
  refine zk_if_ne (pc := 12) 17 dX7_keep_12 (by decide) (fun h12 => ?_) (fun h12 => ?_)
  · skip
    refine zk_aload_n (pc := 17) 0 dX7_keep_17 rfl rfl ?_
    refine zk_getR (pc := 18) dX7_keep_18 flX7_23 rfl rfl ?_
    refine zk_getI (pc := 21) dX7_keep_21 flX7_123 rfl rfl ?_
    refine zk_if_ne (pc := 24) 30 dX7_keep_24 (by decide) (fun h24 => ?_) (fun h24 => ?_)
    · rw [hM] at h24
      have hM0 : ¬ M = 0 := fun q => h24 (by rw [q]; rfl)
      rw [if_neg hM0, if_neg hM0]
      refine zk_aload_n (pc := 30) 0 dX7_keep_30 rfl rfl ?_
      refine zk_getR (pc := 31) dX7_keep_31 flX7_38 rfl rfl ?_
      refine zk_iload_n (pc := 34) 1 dX7_keep_34 rfl rfl ?_
      refine zk_aaload (pc := 35) k dX7_keep_35 rfl (by decide) rfl (by omega) (zKepts (by omega)).2 ?_
      refine zk_aload_n (pc := 36) 0 dX7_keep_36 rfl rfl ?_
      refine zk_getR (pc := 37) dX7_keep_37 flX7_30 rfl rfl ?_
      refine zk_callVV (pc := 40) dX7_keep_40 mtX1_takeFrom lkX7_184 stX1_takeFrom (zKepts hk).1.1 (by rfl) [_] _ rfl rfl (Nat.le_of_ble_eq_true rfl) (Nat.le_of_ble_eq_true rfl) (sp_X1_takeFrom (e := 28) (q := 29) (zKepts hk).1 ⟨rfl, rfl⟩ (by omega)) ?_
      refine zk_aload_n (pc := 43) 0 dX7_keep_43 rfl rfl ?_
      refine zk_getR (pc := 44) dX7_keep_44 flX7_30 rfl rfl ?_
      refine zk_getI (pc := 47) dX7_keep_47 flX7_34 rfl rfl ?_
      refine zk_ireturn (pc := 50) dX7_keep_50 (Or.inl rfl) (zk_rm ?_ rfl rfl)
      rw [zup_c _ _ _ (by omega), zcp_c _ _ _ (by omega)]
    · rw [hM, show (0 : Int32) = nI 0 from rfl, nIeq (by omega) (by omega)] at h24
      rw [if_pos h24, if_pos h24]
      refine zk_bipush (pc := 27) (v := -4) dX7_keep_27 (by decide) ?_
      exact zk_ireturn (pc := 29) dX7_keep_29 (Or.inl rfl) (zk_ri rfl)
  · rw [zb_e] at h12
    exact absurd hm h12 --
theorem sp_X7_on_1 {k : Nat} (hk : k < 3) (hs : mu (31 + 2 * k) 1 = -1) : zk_M (d + 1) RX7 cX7_on 2 (some .int) none 0 (zk_loc [.ref 0, .int (nI k)] 2) [] mu lm (zk_R (some (.int (-3))) (fndM mu 1) lm) := by
  have hm : 0 ≤ nI k ∧ nI k ≤ 2 := ⟨nI_pos' (by omega), show nI k ≤ nI 2 from nI_le (by omega) (by decide)⟩
  refine zk_iload_n (pc := 0) 1 dX7_on_0 rfl rfl ?_
  refine zk_iconst (pc := 1) (v := 0) dX7_on_1 (by decide) ?_
  refine zk_aload_n (pc := 2) 0 dX7_on_2 rfl rfl ?_
  refine zk_getR (pc := 3) dX7_on_3 flX7_38 rfl rfl ?_
  refine zk_alen (pc := 6) dX7_on_6 rfl (by decide) ?_
  refine zk_iconst (pc := 7) (v := 1) dX7_on_7 (by decide) ?_
  refine zk_isub (pc := 8) dX7_on_8 ?_
  rw [show nI 3 - 1 = 2 from rfl]
  refine zk_callSI (pc := 9) dX7_on_9 mtX7_within lkX7_130 stX7_within [_, _, _] _ rfl rfl (Nat.le_of_ble_eq_true rfl) (Nat.le_of_ble_eq_true rfl) (sp_X7_within _ _ _) ?_
  refine zk_if_ne (pc := 12) 17 dX7_on_12 (by decide) (fun h12 => ?_) (fun h12 => ?_)
  · skip
    refine zk_aload_n (pc := 17) 0 dX7_on_17 rfl rfl ?_
    refine zk_getR (pc := 18) dX7_on_18 flX7_38 rfl rfl ?_
    refine zk_iload_n (pc := 21) 1 dX7_on_21 rfl rfl ?_
    refine zk_aaload (pc := 22) k dX7_on_22 rfl (by decide) rfl (by omega) (zKepts (by omega)).2 ?_
    refine zk_getI (pc := 23) dX7_on_23 flX7_34 (zKepts hk).1.1 rfl ?_
    refine zk_iconst (pc := 26) (v := -1) dX7_on_26 (by decide) ?_
    refine zk_icmp_ne (pc := 27) 36 dX7_on_27 (by decide) (fun h27 => ?_) (fun h27 => ?_)
    · exact absurd hs h27 --
    · skip
      refine zk_aload_n (pc := 30) 0 dX7_on_30 rfl rfl ?_
      refine zk_iconst (pc := 31) (v := 1) dX7_on_31 (by decide) ?_
      refine zk_callVI (pc := 32) dX7_on_32 mtX7_found lkX7_93 stX7_found (by rfl) (by rfl) [_] _ rfl rfl (Nat.le_of_ble_eq_true rfl) (Nat.le_of_ble_eq_true rfl) (sp_X7_found (f := 1) (by decide)) ?_
      exact zk_ireturn (pc := 35) dX7_on_35 (Or.inl rfl) ⟨rfl, rfl, rfl⟩
  · rw [zb_e] at h12
    exact absurd hm h12 --
theorem sp_X7_on {C M : Nat} (hC : mu 23 5 = nI C) (hC8 : C ≤ 8) (hM : mu 23 6 = nI M) (hM6 : M ≤ 6) {n k : Nat} (hk : k < 3) (hn : mu (31 + 2 * k) 1 = nI n) (hn4 : n ≤ 40) (D : Nat → Nat × Nat × Nat) (hD : dAll mu (32 + 2 * k) C M n D) : zk_M (d + 8) RX7 cX7_on 2 (some .int) none 0 (zk_loc [.ref 0, .int (nI k)] 2) [] mu lm (zk_R (some (.int (nI n))) (rlv (frshM (zk_up (zcp mu 29 (32 + 2 * k) 40) 28 1 (nI n))) C D n) lm) := by
  have hm : 0 ≤ nI k ∧ nI k ≤ 2 := ⟨nI_pos' (by omega), show nI k ≤ nI 2 from nI_le (by omega) (by decide)⟩
  refine zk_iload_n (pc := 0) 1 dX7_on_0 rfl rfl ?_
  refine zk_iconst (pc := 1) (v := 0) dX7_on_1 (by decide) ?_
  refine zk_aload_n (pc := 2) 0 dX7_on_2 rfl rfl ?_
  refine zk_getR (pc := 3) dX7_on_3 flX7_38 rfl rfl ?_
  refine zk_alen (pc := 6) dX7_on_6 rfl (by decide) ?_
  refine zk_iconst (pc := 7) (v := 1) dX7_on_7 (by decide) ?_
  refine zk_isub (pc := 8) dX7_on_8 ?_
  rw [show nI 3 - 1 = 2 from rfl]
  refine zk_callSI (pc := 9) dX7_on_9 mtX7_within lkX7_130 stX7_within [_, _, _] _ rfl rfl (Nat.le_of_ble_eq_true rfl) (Nat.le_of_ble_eq_true rfl) (sp_X7_within _ _ _) ?_
  refine zk_if_ne (pc := 12) 17 dX7_on_12 (by decide) (fun h12 => ?_) (fun h12 => ?_)
  · skip
    refine zk_aload_n (pc := 17) 0 dX7_on_17 rfl rfl ?_
    refine zk_getR (pc := 18) dX7_on_18 flX7_38 rfl rfl ?_
    refine zk_iload_n (pc := 21) 1 dX7_on_21 rfl rfl ?_
    refine zk_aaload (pc := 22) k dX7_on_22 rfl (by decide) rfl (by omega) (zKepts (by omega)).2 ?_
    refine zk_getI (pc := 23) dX7_on_23 flX7_34 (zKepts hk).1.1 rfl ?_
    refine zk_iconst (pc := 26) (v := -1) dX7_on_26 (by decide) ?_
    refine zk_icmp_ne (pc := 27) 36 dX7_on_27 (by decide) (fun h27 => ?_) (fun h27 => ?_)
    · skip
      refine zk_aload_n (pc := 36) 0 dX7_on_36 rfl rfl ?_
      refine zk_getR (pc := 37) dX7_on_37 flX7_30 rfl rfl ?_
      refine zk_aload_n (pc := 40) 0 dX7_on_40 rfl rfl ?_
      refine zk_getR (pc := 41) dX7_on_41 flX7_38 rfl rfl ?_
      refine zk_iload_n (pc := 44) 1 dX7_on_44 rfl rfl ?_
      refine zk_aaload (pc := 45) k dX7_on_45 rfl (by decide) rfl (by omega) (zKepts (by omega)).2 ?_
      refine zk_callVV (pc := 46) dX7_on_46 mtX1_takeFrom lkX7_184 stX1_takeFrom (by rfl) (by rfl) [_] _ rfl rfl (Nat.le_of_ble_eq_true rfl) (Nat.le_of_ble_eq_true rfl) (by have q := sp_X1_takeFrom (d := d + 7) (mu := mu) (lm := lm) (c := 28) (p := 29) ⟨rfl, rfl⟩ (zKepts hk).1 (by omega); rw [hn] at q; exact q) ?_
      refine zk_aload_n (pc := 49) 0 dX7_on_49 rfl rfl ?_
      refine zk_callVV (pc := 50) dX7_on_50 mtX7_relive lkX7_181 stX7_relive (by rfl) (by rfl) [] _ rfl rfl (Nat.le_of_ble_eq_true rfl) (Nat.le_of_ble_eq_true rfl) (sp_X7_relive (C := C) (M := M) (n := n) (by rw [zup_c _ _ _ (by decide), zcp_c _ _ _ (by decide)]; exact hC) hC8 (by rw [zup_c _ _ _ (by decide), zcp_c _ _ _ (by decide)]; exact hM) hM6 (by rw [zup_s]) (by omega) D (fun z hz => by rw [zup_c _ _ _ (by decide)]; unfold zcp; rw [zuc_s, if_pos (by omega)]; exact hD z hz)) ?_
      refine zk_aload_n (pc := 53) 0 dX7_on_53 rfl rfl ?_
      refine zk_getR (pc := 54) dX7_on_54 flX7_30 rfl rfl ?_
      refine zk_getI (pc := 57) dX7_on_57 flX7_34 rfl rfl ?_
      refine zk_ireturn (pc := 60) dX7_on_60 (Or.inl rfl) (zk_rm ?_ rfl rfl)
      rw [rlv_c (by decide) (by decide) (by decide), frshM_c (by decide) (by decide) (by decide), zup_s]
    · rw [hn] at h27
      exact absurd (show nI n < 0 by rw [h27]; decide) (nI_pos (by omega)) --
  · rw [zb_e] at h12
    exact absurd hm h12 --
def hld (mu : Mem) (c : Nat) (i n : Int32) : Prop := 0 ≤ i ∧ 0 ≤ n ∧ n ≤ mu c 1 ∧ i ≤ mu c 1 - n
theorem sp_X7_copy_n {r t : Int32} (hb : ¬ ((0 ≤ r ∧ r < 6) ∧ (0 ≤ t ∧ t < 6))) (i j n : Int32) : zk_M (d + 1) RX7 cX7_copy 8 (some .int) none 0 (zk_loc [.ref 0, .int r, .int i, .int t, .int j, .int n] 8) [] mu lm (zk_R (some (.int (-1))) mu lm) := by
  by_cases h1 : 0 ≤ r ∧ r < 6
  · have h2 : ¬ (0 ≤ t ∧ t < 6) := fun q => hb ⟨h1, q⟩
    obtain ⟨k, hk, rfl⟩ := zget (M := 6) h1 rfl (by decide)
    refine zk_aload_n (pc := 0) 0 dX7_copy_0 rfl rfl ?_
    refine zk_getR (pc := 1) dX7_copy_1 flX7_13 rfl rfl ?_
    refine zk_iload_n (pc := 4) 1 dX7_copy_4 rfl rfl ?_
    refine zk_callSA (pc := 5) dX7_copy_5 mtX7_lookUp lkX7_64 stX7_lookUp [_, _] _ rfl rfl (Nat.le_of_ble_eq_true rfl) (Nat.le_of_ble_eq_true rfl) (sp_row hk) ?_
    refine zs_astore (pc := 8) (ls' := [_, _, _, _, _, _, _, _]) 6 dX7_copy_8 (by decide) rfl ?_
    refine zk_aload_n (pc := 10) 0 dX7_copy_10 rfl rfl ?_
    refine zk_getR (pc := 11) dX7_copy_11 flX7_13 rfl rfl ?_
    refine zk_iload_n (pc := 14) 3 dX7_copy_14 rfl rfl ?_
    refine zk_callSU (pc := 15) dX7_copy_15 mtX7_lookUp lkX7_64 stX7_lookUp [_, _] _ rfl rfl (Nat.le_of_ble_eq_true rfl) (Nat.le_of_ble_eq_true rfl) (sp_rowN h2) ?_
    refine zs_astoreN (pc := 18) (ls' := [_, _, _, _, _, _, _, _]) 7 dX7_copy_18 (by decide) rfl ?_
    refine zk_aload (pc := 20) dX7_copy_20 rfl ?_
    refine zk_ifnull (pc := 22) dX7_copy_22 ?_
    refine zk_aloadN (pc := 25) dX7_copy_25 rfl ?_
    refine zk_ifnonnullN (pc := 27) dX7_copy_27 ?_
    refine zk_iconst (pc := 30) (v := -1) dX7_copy_30 (by decide) ?_
    exact zk_ireturn (pc := 31) dX7_copy_31 (Or.inl rfl) (zk_ri rfl)
  · by_cases h2 : 0 ≤ t ∧ t < 6
    · obtain ⟨k, hk, rfl⟩ := zget (M := 6) h2 rfl (by decide)
      refine zk_aload_n (pc := 0) 0 dX7_copy_0 rfl rfl ?_
      refine zk_getR (pc := 1) dX7_copy_1 flX7_13 rfl rfl ?_
      refine zk_iload_n (pc := 4) 1 dX7_copy_4 rfl rfl ?_
      refine zk_callSU (pc := 5) dX7_copy_5 mtX7_lookUp lkX7_64 stX7_lookUp [_, _] _ rfl rfl (Nat.le_of_ble_eq_true rfl) (Nat.le_of_ble_eq_true rfl) (sp_rowN h1) ?_
      refine zs_astoreN (pc := 8) (ls' := [_, _, _, _, _, _, _, _]) 6 dX7_copy_8 (by decide) rfl ?_
      refine zk_aload_n (pc := 10) 0 dX7_copy_10 rfl rfl ?_
      refine zk_getR (pc := 11) dX7_copy_11 flX7_13 rfl rfl ?_
      refine zk_iload_n (pc := 14) 3 dX7_copy_14 rfl rfl ?_
      refine zk_callSA (pc := 15) dX7_copy_15 mtX7_lookUp lkX7_64 stX7_lookUp [_, _] _ rfl rfl (Nat.le_of_ble_eq_true rfl) (Nat.le_of_ble_eq_true rfl) (sp_row hk) ?_
      refine zs_astore (pc := 18) (ls' := [_, _, _, _, _, _, _, _]) 7 dX7_copy_18 (by decide) rfl ?_
      refine zk_aloadN (pc := 20) dX7_copy_20 rfl ?_
      refine zk_ifnullN (pc := 22) 30 dX7_copy_22 (by decide) ?_
      refine zk_iconst (pc := 30) (v := -1) dX7_copy_30 (by decide) ?_
      exact zk_ireturn (pc := 31) dX7_copy_31 (Or.inl rfl) (zk_ri rfl)
    · skip
      refine zk_aload_n (pc := 0) 0 dX7_copy_0 rfl rfl ?_
      refine zk_getR (pc := 1) dX7_copy_1 flX7_13 rfl rfl ?_
      refine zk_iload_n (pc := 4) 1 dX7_copy_4 rfl rfl ?_
      refine zk_callSU (pc := 5) dX7_copy_5 mtX7_lookUp lkX7_64 stX7_lookUp [_, _] _ rfl rfl (Nat.le_of_ble_eq_true rfl) (Nat.le_of_ble_eq_true rfl) (sp_rowN h1) ?_
      refine zs_astoreN (pc := 8) (ls' := [_, _, _, _, _, _, _, _]) 6 dX7_copy_8 (by decide) rfl ?_
      refine zk_aload_n (pc := 10) 0 dX7_copy_10 rfl rfl ?_
      refine zk_getR (pc := 11) dX7_copy_11 flX7_13 rfl rfl ?_
      refine zk_iload_n (pc := 14) 3 dX7_copy_14 rfl rfl ?_
      refine zk_callSU (pc := 15) dX7_copy_15 mtX7_lookUp lkX7_64 stX7_lookUp [_, _] _ rfl rfl (Nat.le_of_ble_eq_true rfl) (Nat.le_of_ble_eq_true rfl) (sp_rowN h2) ?_
      refine zs_astoreN (pc := 18) (ls' := [_, _, _, _, _, _, _, _]) 7 dX7_copy_18 (by decide) rfl ?_
      refine zk_aloadN (pc := 20) dX7_copy_20 rfl ?_
      refine zk_ifnullN (pc := 22) 30 dX7_copy_22 (by decide) ?_
      refine zk_iconst (pc := 30) (v := -1) dX7_copy_30 (by decide) ?_
      exact zk_ireturn (pc := 31) dX7_copy_31 (Or.inl rfl) (zk_ri rfl)
def cCopy (mu : Mem) (k t : Nat) (i j n : Int32) : Int32 × Mem := if 0 ≤ n then (if 0 ≤ mu (2 + 2 * k) 1 ∧ 0 ≤ mu (2 + 2 * t) 1 then (if (0 ≤ i ∧ 0 ≤ n ∧ n ≤ mu (2 + 2 * k) 1 ∧ i ≤ mu (2 + 2 * k) 1 - n) ∧ (0 ≤ j ∧ 0 ≤ n ∧ n ≤ mu (2 + 2 * t) 1 ∧ j ≤ mu (2 + 2 * t) 1 - n) then (1, zk_uc mu (3 + 2 * t) (va_cpy (mu (3 + 2 * k)) (mu (3 + 2 * t)) i.toNatClampNeg j.toNatClampNeg n.toNatClampNeg)) else (-3, fndM mu 2)) else (-3, fndM mu 1)) else (-3, fndM mu 5)
theorem zhld {x i n : Int32} {s : Nat} (hx : x = nI s) (hs : s ≤ 1000) (h : 0 ≤ i ∧ 0 ≤ n ∧ n ≤ x ∧ i ≤ x - n) : ∃ a b, i = nI a ∧ n = nI b ∧ a + b ≤ s := by
  subst hx
  obtain ⟨h1, h2, h3, h4⟩ := h
  obtain ⟨b, hb, rfl⟩ := zgetl ⟨h2, h3⟩ (by omega)
  rw [pk_sub hb] at h4
  obtain ⟨a, ha, rfl⟩ := zgetl ⟨h1, h4⟩ (by omega)
  exact ⟨a, b, rfl, rfl, by omega⟩
theorem sp_X7_copy {k t : Nat} (hk : k < 6) (ht : t < 6) (hz1 : zSz (mu (2 + 2 * k) 1) 40) (hz2 : zSz (mu (2 + 2 * t) 1) 40) (i j n : Int32) : zk_M (d + 1) RX7 cX7_copy 8 (some .int) none 0 (zk_loc [.ref 0, .int (nI k), .int i, .int (nI t), .int j, .int n] 8) [] mu lm (zk_R (some (.int (cCopy mu k t i j n).1)) (cCopy mu k t i j n).2 lm) := by
  have hr := (zRows hk).1
  have hr2 := (zRows ht).1
  refine zk_aload_n (pc := 0) 0 dX7_copy_0 rfl rfl ?_
  refine zk_getR (pc := 1) dX7_copy_1 flX7_13 rfl rfl ?_
  refine zk_iload_n (pc := 4) 1 dX7_copy_4 rfl rfl ?_
  refine zk_callSA (pc := 5) dX7_copy_5 mtX7_lookUp lkX7_64 stX7_lookUp [_, _] _ rfl rfl (Nat.le_of_ble_eq_true rfl) (Nat.le_of_ble_eq_true rfl) (sp_row hk) ?_
  refine zs_astore (pc := 8) (ls' := [_, _, _, _, _, _, _, _]) 6 dX7_copy_8 (by decide) rfl ?_
  refine zk_aload_n (pc := 10) 0 dX7_copy_10 rfl rfl ?_
  refine zk_getR (pc := 11) dX7_copy_11 flX7_13 rfl rfl ?_
  refine zk_iload_n (pc := 14) 3 dX7_copy_14 rfl rfl ?_
  refine zk_callSA (pc := 15) dX7_copy_15 mtX7_lookUp lkX7_64 stX7_lookUp [_, _] _ rfl rfl (Nat.le_of_ble_eq_true rfl) (Nat.le_of_ble_eq_true rfl) (sp_row ht) ?_
  refine zs_astore (pc := 18) (ls' := [_, _, _, _, _, _, _, _]) 7 dX7_copy_18 (by decide) rfl ?_
  refine zk_aload (pc := 20) dX7_copy_20 rfl ?_
  refine zk_ifnull (pc := 22) dX7_copy_22 ?_
  refine zk_aload (pc := 25) dX7_copy_25 rfl ?_
  refine zk_ifnonnull (pc := 27) 32 dX7_copy_27 (by decide) ?_
  refine zk_iload (pc := 32) dX7_copy_32 rfl ?_
  refine zk_if_ge (pc := 34) 43 dX7_copy_34 (by decide) (fun h34 => ?_) (fun h34 => ?_)
  · skip
    refine zk_aload (pc := 43) dX7_copy_43 rfl ?_
    refine zk_callVI (pc := 45) dX7_copy_45 mtX4_isThere lkX7_89 stX4_isThere hr.1 (by rfl) [] _ rfl rfl (Nat.le_of_ble_eq_true rfl) (Nat.le_of_ble_eq_true rfl) (sp_X4_isThere hr) ?_
    refine zk_if_eq (pc := 48) 59 dX7_copy_48 (by decide) (fun h48 => ?_) (fun h48 => ?_)
    · rw [zb_e] at h48
      refine zk_aload_n (pc := 59) 0 dX7_copy_59 rfl rfl ?_
      refine zk_iconst (pc := 60) (v := 1) dX7_copy_60 (by decide) ?_
      refine zk_callVI (pc := 61) dX7_copy_61 mtX7_found lkX7_93 stX7_found (by rfl) (by rfl) [_] _ rfl rfl (Nat.le_of_ble_eq_true rfl) (Nat.le_of_ble_eq_true rfl) (sp_X7_found (f := 1) (by decide)) ?_
      exact zk_ireturn (pc := 64) dX7_copy_64 (Or.inl rfl) (zk_pr (by unfold cCopy; rw [if_pos h34, if_neg (fun q => by first | exact h48 q.1 | exact h56 q.2)]))
    · rw [zb_n] at h48
      refine zk_aload (pc := 51) dX7_copy_51 rfl ?_
      refine zk_callVI (pc := 53) dX7_copy_53 mtX4_isThere lkX7_89 stX4_isThere hr2.1 (by rfl) [] _ rfl rfl (Nat.le_of_ble_eq_true rfl) (Nat.le_of_ble_eq_true rfl) (sp_X4_isThere hr2) ?_
      refine zk_if_ne (pc := 56) 65 dX7_copy_56 (by decide) (fun h56 => ?_) (fun h56 => ?_)
      · rw [zb_n] at h56
        refine zk_aload (pc := 65) dX7_copy_65 rfl ?_
        refine zk_iload_n (pc := 67) 2 dX7_copy_67 rfl rfl ?_
        refine zk_iload (pc := 68) dX7_copy_68 rfl ?_
        refine zk_callVI (pc := 70) dX7_copy_70 mtX4_holds lkX7_97 stX4_holds hr.1 (by rfl) [_, _] _ rfl rfl (Nat.le_of_ble_eq_true rfl) (Nat.le_of_ble_eq_true rfl) (sp_X4_holds hr _ _) ?_
        refine zk_if_eq (pc := 73) 88 dX7_copy_73 (by decide) (fun h73 => ?_) (fun h73 => ?_)
        · rw [zb_e] at h73
          refine zk_aload_n (pc := 88) 0 dX7_copy_88 rfl rfl ?_
          refine zk_iconst (pc := 89) (v := 2) dX7_copy_89 (by decide) ?_
          refine zk_callVI (pc := 90) dX7_copy_90 mtX7_found lkX7_93 stX7_found (by rfl) (by rfl) [_] _ rfl rfl (Nat.le_of_ble_eq_true rfl) (Nat.le_of_ble_eq_true rfl) (sp_X7_found (f := 2) (by decide)) ?_
          exact zk_ireturn (pc := 93) dX7_copy_93 (Or.inl rfl) (zk_pr (by unfold cCopy; rw [if_pos h34, if_pos ⟨h48, h56⟩, if_neg (fun q => by first | exact h73 q.1 | exact h85 q.2)]))
        · rw [zb_n] at h73
          refine zk_aload (pc := 76) dX7_copy_76 rfl ?_
          refine zk_iload (pc := 78) dX7_copy_78 rfl ?_
          refine zk_iload (pc := 80) dX7_copy_80 rfl ?_
          refine zk_callVI (pc := 82) dX7_copy_82 mtX4_holds lkX7_97 stX4_holds hr2.1 (by rfl) [_, _] _ rfl rfl (Nat.le_of_ble_eq_true rfl) (Nat.le_of_ble_eq_true rfl) (sp_X4_holds hr2 _ _) ?_
          refine zk_if_ne (pc := 85) 94 dX7_copy_85 (by decide) (fun h85 => ?_) (fun h85 => ?_)
          · rw [zb_n] at h85
            obtain ⟨s1, hs1, e1⟩ := zsz_pos hz1 (by decide) h48
            obtain ⟨s2, hs2, e2⟩ := zsz_pos hz2 (by decide) h56
            have hcc : cCopy mu k t i j n = (1, zk_uc mu (3 + 2 * t) (va_cpy (mu (3 + 2 * k)) (mu (3 + 2 * t)) i.toNatClampNeg j.toNatClampNeg n.toNatClampNeg)) := by unfold cCopy; rw [if_pos h34, if_pos ⟨h48, h56⟩, if_pos ⟨h73, h85⟩]
            rw [hcc]
            obtain ⟨a, b, rfl, rfl, hab⟩ := zhld e1 (by omega) h73
            obtain ⟨a2, b2, rfl, hb2, hab2⟩ := zhld e2 (by omega) h85
            have hbb : b = b2 := by
              have q := congrArg Int32.toNatClampNeg hb2
              rwa [nI_clamp (by omega), nI_clamp (by omega)] at q
            subst hbb
            rw [nI_clamp (by omega), nI_clamp (by omega), nI_clamp (by omega)]
            refine zk_aload (pc := 94) dX7_copy_94 rfl ?_
            refine zk_getR (pc := 96) dX7_copy_96 flX7_101 hr.1 rfl ?_
            refine zk_iload_n (pc := 99) 2 dX7_copy_99 rfl rfl ?_
            refine zk_aload (pc := 100) dX7_copy_100 rfl ?_
            refine zk_getR (pc := 102) dX7_copy_102 flX7_101 hr2.1 rfl ?_
            refine zk_iload (pc := 105) dX7_copy_105 rfl ?_
            refine zk_iload (pc := 107) dX7_copy_107 rfl ?_
            refine zk_acopy (pc := 109) a a2 b dX7_copy_109 lkX7_104 acN acS acI hr.2.1 hr2.2.1 rfl rfl rfl (by omega) (by omega) (Nat.le_of_ble_eq_true rfl) zk_nfw ?_
            refine zk_iconst (pc := 112) (v := 1) dX7_copy_112 (by decide) ?_
            exact zk_ireturn (pc := 113) dX7_copy_113 (Or.inl rfl) (zk_pr rfl)
          · rw [zb_e] at h85
            refine zk_aload_n (pc := 88) 0 dX7_copy_88 rfl rfl ?_
            refine zk_iconst (pc := 89) (v := 2) dX7_copy_89 (by decide) ?_
            refine zk_callVI (pc := 90) dX7_copy_90 mtX7_found lkX7_93 stX7_found (by rfl) (by rfl) [_] _ rfl rfl (Nat.le_of_ble_eq_true rfl) (Nat.le_of_ble_eq_true rfl) (sp_X7_found (f := 2) (by decide)) ?_
            exact zk_ireturn (pc := 93) dX7_copy_93 (Or.inl rfl) (zk_pr (by unfold cCopy; rw [if_pos h34, if_pos ⟨h48, h56⟩, if_neg (fun q => by first | exact h73 q.1 | exact h85 q.2)]))
      · rw [zb_e] at h56
        refine zk_aload_n (pc := 59) 0 dX7_copy_59 rfl rfl ?_
        refine zk_iconst (pc := 60) (v := 1) dX7_copy_60 (by decide) ?_
        refine zk_callVI (pc := 61) dX7_copy_61 mtX7_found lkX7_93 stX7_found (by rfl) (by rfl) [_] _ rfl rfl (Nat.le_of_ble_eq_true rfl) (Nat.le_of_ble_eq_true rfl) (sp_X7_found (f := 1) (by decide)) ?_
        exact zk_ireturn (pc := 64) dX7_copy_64 (Or.inl rfl) (zk_pr (by unfold cCopy; rw [if_pos h34, if_neg (fun q => by first | exact h48 q.1 | exact h56 q.2)]))
  · skip
    refine zk_aload_n (pc := 37) 0 dX7_copy_37 rfl rfl ?_
    refine zk_iconst (pc := 38) (v := 5) dX7_copy_38 (by decide) ?_
    refine zk_callVI (pc := 39) dX7_copy_39 mtX7_found lkX7_93 stX7_found (by rfl) (by rfl) [_] _ rfl rfl (Nat.le_of_ble_eq_true rfl) (Nat.le_of_ble_eq_true rfl) (sp_X7_found (f := 5) (by decide)) ?_
    exact zk_ireturn (pc := 42) dX7_copy_42 (Or.inl rfl) (zk_pr (by unfold cCopy; rw [if_neg h34]))
end M33
