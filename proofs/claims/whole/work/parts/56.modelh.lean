section M56
variable {d : Nat} {mu : Mem} {lm : MemL}
theorem sp_X8_asked  : zk_M d RX8 cX8_asked 1 (some .int) none 0 (zk_loc [.ref 46] 1) [] mu lm (zk_R (some (.int (mu 46 6))) mu lm) := by
  refine zk_aload_n (pc := 0) 0 dX8_asked_0 rfl rfl ?_
  refine zk_getI (pc := 1) dX8_asked_1 flX8_60 rfl rfl ?_
  refine zk_ireturn (pc := 4) dX8_asked_4 (Or.inl rfl) ?_
  exact zk_ri rfl
theorem sp_X8_finding  : zk_M d RX8 cX8_finding 1 (some .int) none 0 (zk_loc [.ref 46] 1) [] mu lm (zk_R (some (.int (mu 46 4))) mu lm) := by
  refine zk_aload_n (pc := 0) 0 dX8_finding_0 rfl rfl ?_
  refine zk_getI (pc := 1) dX8_finding_1 flX8_56 rfl rfl ?_
  refine zk_ireturn (pc := 4) dX8_finding_4 (Or.inl rfl) ?_
  exact zk_ri rfl
theorem sp_X8_upper  : zk_M d RX8 cX8_upper 1 (some .long) none 0 (zk_loc [.ref 46] 1) [] mu lm (zk_R (some (.long (lm 46 7))) mu lm) := by
  refine zk_aload_n (pc := 0) 0 dX8_upper_0 rfl rfl ?_
  refine zk_getL (pc := 1) dX8_upper_1 flX8_207 rfl rfl ?_
  refine zk_lreturn (pc := 4) dX8_upper_4 rfl ?_
  exact zk_rl rfl
theorem sp_X8_lower  : zk_M d RX8 cX8_lower 1 (some .long) none 0 (zk_loc [.ref 46] 1) [] mu lm (zk_R (some (.long (lm 46 8))) mu lm) := by
  refine zk_aload_n (pc := 0) 0 dX8_lower_0 rfl rfl ?_
  refine zk_getL (pc := 1) dX8_lower_1 flX8_25 rfl rfl ?_
  refine zk_lreturn (pc := 4) dX8_lower_4 rfl ?_
  exact zk_rl rfl
theorem sp_X8_findings (f : Int32) : zk_M (d + 1) RX8 cX8_findings 2 (some .int) none 0 (zk_loc [.ref 46, .int f] 2) [] mu lm (zk_R (some (.int (if 1 ≤ f ∧ f ≤ 5 then mu 51 f.toNatClampNeg else -1))) mu lm) := by
  refine zk_iload_n (pc := 0) 1 dX8_findings_0 rfl rfl ?_
  refine zk_iconst (pc := 1) (v := 1) dX8_findings_1 (by decide) ?_
  refine zk_iconst (pc := 2) (v := 5) dX8_findings_2 (by decide) ?_
  refine zk_callSI (pc := 3) dX8_findings_3 mtX8_in lkX8_66 stX8_in [_, _, _] _ rfl rfl (Nat.le_of_ble_eq_true rfl) (Nat.le_of_ble_eq_true rfl) (sp_X8_in _ _ _) ?_
  refine zk_if_eq (pc := 6) 18 dX8_findings_6 (by decide) (fun h6 => ?_) (fun h6 => ?_)
  · rw [zb_e] at h6
    refine zk_iconst (pc := 18) (v := -1) dX8_findings_18 (by decide) ?_
    refine zk_ireturn (pc := 19) dX8_findings_19 (Or.inl rfl) (zk_ri ?_)
    first | rw [if_neg h6] | rw [if_pos h6, nI_clamp (by omega)]
  · rw [zb_n] at h6
    obtain ⟨j, hj, rfl⟩ := zgetl (i := f) (M := 5) ⟨by have := h6.1; simp only [zle, show (1 : Int32).toInt = 1 by decide, show (0 : Int32).toInt = 0 by decide] at *; omega, h6.2⟩ (by decide)
    refine zk_aload_n (pc := 9) 0 dX8_findings_9 rfl rfl ?_
    refine zk_getR (pc := 10) dX8_findings_10 flX8_22 rfl rfl ?_
    refine zk_iload_n (pc := 13) 1 dX8_findings_13 rfl rfl ?_
    refine zk_iaload (pc := 14) j dX8_findings_14 rfl rfl (by omega) ?_
    refine zk_goto (pc := 15) 19 dX8_findings_15 (by decide) ?_
    refine zk_ireturn (pc := 19) dX8_findings_19 (Or.inl rfl) (zk_ri ?_)
    first | rw [if_neg h6] | rw [if_pos h6, nI_clamp (by omega)]
theorem sp_X8_thereOf {c n : Nat} (hs : zk_shp[c]? = some (1, n, [])) (hn : n < 1000) : zk_M d RX8 cX8_thereOf 6 (some .int) none 0 (zk_loc [.ref c] 6) [] mu lm (zk_R (some (.int (zsum n (fun q => zb (0 ≤ mu c q))))) mu lm) := by
  have loop : ∀ k, k ≤ n → ∀ b5, zk_M d RX8 cX8_thereOf 6 (some .int) none 10 [.ref c, .int (zsum k (fun q => zb (0 ≤ mu c q))), .ref c, .int (nI n), .int (nI k), b5] [] mu lm (zk_R (some (.int (zsum n (fun q => zb (0 ≤ mu c q))))) mu lm) := by
    refine zk_ind n (fun k hk ih => ?_)
    intro b5
    refine zk_iload (pc := 10) dX8_thereOf_10 rfl ?_
    refine zk_iload_n (pc := 12) 3 dX8_thereOf_12 rfl rfl ?_
    refine zk_icmp_ge (pc := 13) 41 dX8_thereOf_13 (by decide) (fun h13 => ?_) (fun h13 => ?_)
    · rw [nIle (by omega) (by omega)] at h13
      refine zk_iload_n (pc := 41) 1 dX8_thereOf_41 rfl rfl ?_
      refine zk_ireturn (pc := 42) dX8_thereOf_42 (Or.inl rfl) (zk_ri ?_)
      rw [show k = n by omega]
    · rw [nIle (by omega) (by omega)] at h13
      refine zk_aload_n (pc := 16) 2 dX8_thereOf_16 rfl rfl ?_
      refine zk_iload (pc := 17) dX8_thereOf_17 rfl ?_
      refine zk_iaload (pc := 19) k dX8_thereOf_19 hs rfl (by omega) ?_
      refine zs_istore (pc := 20) (ls' := [_, _, _, _, _, _]) 5 dX8_thereOf_20 (by decide) rfl ?_
      refine zk_iload_n (pc := 22) 1 dX8_thereOf_22 rfl rfl ?_
      refine zk_iload (pc := 23) dX8_thereOf_23 rfl ?_
      refine zk_if_ge (pc := 25) 32 dX8_thereOf_25 (by decide) (fun h25 => ?_) (fun h25 => ?_)
      · skip
        refine zk_iconst (pc := 32) (v := 1) dX8_thereOf_32 (by decide) ?_
        refine zk_iadd (pc := 33) dX8_thereOf_33 ?_
        refine zs_istore_n (pc := 34) (ls' := [_, _, _, _, _, _]) 1 dX8_thereOf_34 rfl (by decide) rfl ?_
        refine zs_iinc (pc := 35) (ls' := [_, _, _, _, _, _]) dX8_thereOf_35 rfl (nI_1 k) (by decide) rfl ?_
        refine zk_goto (pc := 38) 10 dX8_thereOf_38 (by decide) ?_
        have e := ih (by omega) (.int (mu c k))
        rw [zsum_s] at e
        first
          | (have hz : zb (0 ≤ mu c k) = 1 := zb_t h25
             rw [hz] at e; exact e)
          | (have hz : zb (0 ≤ mu c k) = 0 := zb_f h25
             rw [hz] at e; exact e)
      · skip
        refine zk_iconst (pc := 28) (v := 0) dX8_thereOf_28 (by decide) ?_
        refine zk_goto (pc := 29) 33 dX8_thereOf_29 (by decide) ?_
        refine zk_iadd (pc := 33) dX8_thereOf_33 ?_
        refine zs_istore_n (pc := 34) (ls' := [_, _, _, _, _, _]) 1 dX8_thereOf_34 rfl (by decide) rfl ?_
        refine zs_iinc (pc := 35) (ls' := [_, _, _, _, _, _]) dX8_thereOf_35 rfl (nI_1 k) (by decide) rfl ?_
        refine zk_goto (pc := 38) 10 dX8_thereOf_38 (by decide) ?_
        have e := ih (by omega) (.int (mu c k))
        rw [zsum_s] at e
        first
          | (have hz : zb (0 ≤ mu c k) = 1 := zb_t h25
             rw [hz] at e; exact e)
          | (have hz : zb (0 ≤ mu c k) = 0 := zb_f h25
             rw [hz] at e; exact e)
  refine zk_iconst (pc := 0) (v := 0) dX8_thereOf_0 (by decide) ?_
  refine zs_istore_n (pc := 1) (ls' := [_, _, _, _, _, _]) 1 dX8_thereOf_1 rfl (by decide) rfl ?_
  refine zk_aload_n (pc := 2) 0 dX8_thereOf_2 rfl rfl ?_
  refine zs_astore_n (pc := 3) (ls' := [_, _, _, _, _, _]) 2 dX8_thereOf_3 rfl (by decide) rfl ?_
  refine zk_aload_n (pc := 4) 2 dX8_thereOf_4 rfl rfl ?_
  refine zk_alen (pc := 5) dX8_thereOf_5 hs (by decide) ?_
  refine zs_istore_n (pc := 6) (ls' := [_, _, _, _, _, _]) 3 dX8_thereOf_6 rfl (by decide) rfl ?_
  refine zk_iconst (pc := 7) (v := 0) dX8_thereOf_7 (by decide) ?_
  refine zs_istore (pc := 8) (ls' := [_, _, _, _, _, _]) 4 dX8_thereOf_8 (by decide) rfl ?_
  exact loop 0 (Nat.zero_le _) _
theorem sp_kindMany1 {C M : Nat} (hC : mu 46 17 = nI C) (hC8 : C ≤ 8) (hM : mu 46 18 = nI M) (hM6 : M ≤ 6) : zk_M (d + 1) RX8 cX8_kindMany 4 (some .int) none 0 (zk_loc [.ref 46, .int 1] 4) [] mu lm (zk_R (some (.int (zsum M (fun k => zb (mu 53 k = 1 ∨ mu 53 k = 4))))) mu lm) := by
  have loop : ∀ q, q ≤ M → zk_M (d + 1) RX8 cX8_kindMany 4 (some .int) none 4 [.ref 46, .int 1, .int (zsum q (fun k => zb (mu 53 k = 1 ∨ mu 53 k = 4))), .int (nI q)] [] mu lm (zk_R (some (.int (zsum M (fun k => zb (mu 53 k = 1 ∨ mu 53 k = 4))))) mu lm) := by
    refine zk_ind M (fun q hq ih => ?_)
    refine zk_iload_n (pc := 4) 3 dX8_kindMany_4 rfl rfl ?_
    refine zk_aload_n (pc := 5) 0 dX8_kindMany_5 rfl rfl ?_
    refine zk_getI (pc := 6) dX8_kindMany_6 flX8_63 rfl rfl ?_
    refine zk_icmp_ge (pc := 9) 39 dX8_kindMany_9 (by decide) (fun h9 => ?_) (fun h9 => ?_)
    · rw [hM, nIle (by omega) (by omega)] at h9
      refine zk_iload_n (pc := 39) 2 dX8_kindMany_39 rfl rfl ?_
      refine zk_ireturn (pc := 40) dX8_kindMany_40 (Or.inl rfl) (zk_ri ?_)
      rw [show q = M by omega]
    · rw [hM, nIle (by omega) (by omega)] at h9
      refine zk_iload_n (pc := 12) 2 dX8_kindMany_12 rfl rfl ?_
      refine zk_aload_n (pc := 13) 0 dX8_kindMany_13 rfl rfl ?_
      refine zk_getR (pc := 14) dX8_kindMany_14 flX8_32 rfl rfl ?_
      refine zk_iload_n (pc := 17) 3 dX8_kindMany_17 rfl rfl ?_
      refine zk_iaload (pc := 18) q dX8_kindMany_18 rfl rfl (by omega) ?_
      refine zk_iload_n (pc := 19) 1 dX8_kindMany_19 rfl rfl ?_
      refine zk_callSI (pc := 20) dX8_kindMany_20 mtX8_is lkX8_143 stX8_is [_, _] _ rfl rfl (Nat.le_of_ble_eq_true rfl) (Nat.le_of_ble_eq_true rfl) (sp_is1 _) ?_
      refine zk_if_eq (pc := 23) 30 dX8_kindMany_23 (by decide) (fun h23 => ?_) (fun h23 => ?_)
      · rw [zb_e] at h23
        refine zk_iconst (pc := 30) (v := 0) dX8_kindMany_30 (by decide) ?_
        refine zk_iadd (pc := 31) dX8_kindMany_31 ?_
        refine zs_istore_n (pc := 32) (ls' := [_, _, _, _]) 2 dX8_kindMany_32 rfl (by decide) rfl ?_
        refine zs_iinc (pc := 33) (ls' := [_, _, _, _]) dX8_kindMany_33 rfl (nI_1 q) (by decide) rfl ?_
        refine zk_goto (pc := 36) 4 dX8_kindMany_36 (by decide) ?_
        have e := ih (by omega)
        rw [zsum_s] at e
        first
          | (have hz : zb (mu 53 q = 1 ∨ mu 53 q = 4) = 1 := zb_t h23
             rw [hz] at e; exact e)
          | (have hz : zb (mu 53 q = 1 ∨ mu 53 q = 4) = 0 := zb_f h23
             rw [hz] at e; exact e)
      · rw [zb_n] at h23
        refine zk_iconst (pc := 26) (v := 1) dX8_kindMany_26 (by decide) ?_
        refine zk_goto (pc := 27) 31 dX8_kindMany_27 (by decide) ?_
        refine zk_iadd (pc := 31) dX8_kindMany_31 ?_
        refine zs_istore_n (pc := 32) (ls' := [_, _, _, _]) 2 dX8_kindMany_32 rfl (by decide) rfl ?_
        refine zs_iinc (pc := 33) (ls' := [_, _, _, _]) dX8_kindMany_33 rfl (nI_1 q) (by decide) rfl ?_
        refine zk_goto (pc := 36) 4 dX8_kindMany_36 (by decide) ?_
        have e := ih (by omega)
        rw [zsum_s] at e
        first
          | (have hz : zb (mu 53 q = 1 ∨ mu 53 q = 4) = 1 := zb_t h23
             rw [hz] at e; exact e)
          | (have hz : zb (mu 53 q = 1 ∨ mu 53 q = 4) = 0 := zb_f h23
             rw [hz] at e; exact e)
  refine zk_iconst (pc := 0) (v := 0) dX8_kindMany_0 (by decide) ?_
  refine zs_istore_n (pc := 1) (ls' := [_, _, _, _]) 2 dX8_kindMany_1 rfl (by decide) rfl ?_
  refine zk_iconst (pc := 2) (v := 0) dX8_kindMany_2 (by decide) ?_
  refine zs_istore_n (pc := 3) (ls' := [_, _, _, _]) 3 dX8_kindMany_3 rfl (by decide) rfl ?_
  exact loop 0 (Nat.zero_le _)
theorem sp_kindMany2 {C M : Nat} (hC : mu 46 17 = nI C) (hC8 : C ≤ 8) (hM : mu 46 18 = nI M) (hM6 : M ≤ 6) : zk_M (d + 1) RX8 cX8_kindMany 4 (some .int) none 0 (zk_loc [.ref 46, .int 2] 4) [] mu lm (zk_R (some (.int (zsum M (fun k => zb (mu 53 k = 2 ∨ mu 53 k = 5))))) mu lm) := by
  have loop : ∀ q, q ≤ M → zk_M (d + 1) RX8 cX8_kindMany 4 (some .int) none 4 [.ref 46, .int 2, .int (zsum q (fun k => zb (mu 53 k = 2 ∨ mu 53 k = 5))), .int (nI q)] [] mu lm (zk_R (some (.int (zsum M (fun k => zb (mu 53 k = 2 ∨ mu 53 k = 5))))) mu lm) := by
    refine zk_ind M (fun q hq ih => ?_)
    refine zk_iload_n (pc := 4) 3 dX8_kindMany_4 rfl rfl ?_
    refine zk_aload_n (pc := 5) 0 dX8_kindMany_5 rfl rfl ?_
    refine zk_getI (pc := 6) dX8_kindMany_6 flX8_63 rfl rfl ?_
    refine zk_icmp_ge (pc := 9) 39 dX8_kindMany_9 (by decide) (fun h9 => ?_) (fun h9 => ?_)
    · rw [hM, nIle (by omega) (by omega)] at h9
      refine zk_iload_n (pc := 39) 2 dX8_kindMany_39 rfl rfl ?_
      refine zk_ireturn (pc := 40) dX8_kindMany_40 (Or.inl rfl) (zk_ri ?_)
      rw [show q = M by omega]
    · rw [hM, nIle (by omega) (by omega)] at h9
      refine zk_iload_n (pc := 12) 2 dX8_kindMany_12 rfl rfl ?_
      refine zk_aload_n (pc := 13) 0 dX8_kindMany_13 rfl rfl ?_
      refine zk_getR (pc := 14) dX8_kindMany_14 flX8_32 rfl rfl ?_
      refine zk_iload_n (pc := 17) 3 dX8_kindMany_17 rfl rfl ?_
      refine zk_iaload (pc := 18) q dX8_kindMany_18 rfl rfl (by omega) ?_
      refine zk_iload_n (pc := 19) 1 dX8_kindMany_19 rfl rfl ?_
      refine zk_callSI (pc := 20) dX8_kindMany_20 mtX8_is lkX8_143 stX8_is [_, _] _ rfl rfl (Nat.le_of_ble_eq_true rfl) (Nat.le_of_ble_eq_true rfl) (sp_is2 _) ?_
      refine zk_if_eq (pc := 23) 30 dX8_kindMany_23 (by decide) (fun h23 => ?_) (fun h23 => ?_)
      · rw [zb_e] at h23
        refine zk_iconst (pc := 30) (v := 0) dX8_kindMany_30 (by decide) ?_
        refine zk_iadd (pc := 31) dX8_kindMany_31 ?_
        refine zs_istore_n (pc := 32) (ls' := [_, _, _, _]) 2 dX8_kindMany_32 rfl (by decide) rfl ?_
        refine zs_iinc (pc := 33) (ls' := [_, _, _, _]) dX8_kindMany_33 rfl (nI_1 q) (by decide) rfl ?_
        refine zk_goto (pc := 36) 4 dX8_kindMany_36 (by decide) ?_
        have e := ih (by omega)
        rw [zsum_s] at e
        first
          | (have hz : zb (mu 53 q = 2 ∨ mu 53 q = 5) = 1 := zb_t h23
             rw [hz] at e; exact e)
          | (have hz : zb (mu 53 q = 2 ∨ mu 53 q = 5) = 0 := zb_f h23
             rw [hz] at e; exact e)
      · rw [zb_n] at h23
        refine zk_iconst (pc := 26) (v := 1) dX8_kindMany_26 (by decide) ?_
        refine zk_goto (pc := 27) 31 dX8_kindMany_27 (by decide) ?_
        refine zk_iadd (pc := 31) dX8_kindMany_31 ?_
        refine zs_istore_n (pc := 32) (ls' := [_, _, _, _]) 2 dX8_kindMany_32 rfl (by decide) rfl ?_
        refine zs_iinc (pc := 33) (ls' := [_, _, _, _]) dX8_kindMany_33 rfl (nI_1 q) (by decide) rfl ?_
        refine zk_goto (pc := 36) 4 dX8_kindMany_36 (by decide) ?_
        have e := ih (by omega)
        rw [zsum_s] at e
        first
          | (have hz : zb (mu 53 q = 2 ∨ mu 53 q = 5) = 1 := zb_t h23
             rw [hz] at e; exact e)
          | (have hz : zb (mu 53 q = 2 ∨ mu 53 q = 5) = 0 := zb_f h23
             rw [hz] at e; exact e)
  refine zk_iconst (pc := 0) (v := 0) dX8_kindMany_0 (by decide) ?_
  refine zs_istore_n (pc := 1) (ls' := [_, _, _, _]) 2 dX8_kindMany_1 rfl (by decide) rfl ?_
  refine zk_iconst (pc := 2) (v := 0) dX8_kindMany_2 (by decide) ?_
  refine zs_istore_n (pc := 3) (ls' := [_, _, _, _]) 3 dX8_kindMany_3 rfl (by decide) rfl ?_
  exact loop 0 (Nat.zero_le _)
def mCnt (mu : Mem) (C M : Nat) : Nat → Int32
  | 0 => mu 46 18
  | 1 => mu 46 17
  | 2 => mu 55 8
  | 3 => mu 46 24
  | 4 => zsum C (mu 55)
  | 5 => mu 55 9
  | 6 => mu 55 10
  | 7 => mu 46 16
  | 8 => zsum M (fun k => zb (mu 53 k = 1 ∨ mu 53 k = 4))
  | 9 => zsum M (fun k => zb (mu 53 k = 2 ∨ mu 53 k = 5))
  | 10 => zsum 6 (fun k => zb (0 ≤ mu 47 k))
  | 11 => zsum 4 (fun k => zb (0 ≤ mu 49 k))
  | 12 => zsum 3 (fun k => zb (0 ≤ mu 60 k))
  | _ => -1
theorem sp_X8_count {C M : Nat} (hC : mu 46 17 = nI C) (hC8 : C ≤ 8) (hM : mu 46 18 = nI M) (hM6 : M ≤ 6) {w : Nat} (hw : w ≤ 12) : zk_M (d + 2) RX8 cX8_count 2 (some .int) none 0 (zk_loc [.ref 46, .int (nI w)] 2) [] mu lm (zk_R (some (.int (mCnt mu C M w))) mu lm) := by
  refine zk_iload_n (pc := 0) 1 dX8_count_0 rfl rfl ?_
  match w, hw with
  | 0, _ =>
    refine zk_tabIn (pc := 1) 68 dX8_count_1 (by decide) (by decide) (by rfl) (by decide) ?_
    refine zk_aload_n (pc := 68) 0 dX8_count_68 rfl rfl ?_
    refine zk_getI (pc := 69) dX8_count_69 flX8_63 rfl rfl ?_
    refine zk_ireturn (pc := 72) dX8_count_72 (Or.inl rfl) ?_
    exact zk_ri rfl
  | 1, _ =>
    refine zk_tabIn (pc := 1) 73 dX8_count_1 (by decide) (by decide) (by rfl) (by decide) ?_
    refine zk_aload_n (pc := 73) 0 dX8_count_73 rfl rfl ?_
    refine zk_getI (pc := 74) dX8_count_74 flX8_70 rfl rfl ?_
    refine zk_ireturn (pc := 77) dX8_count_77 (Or.inl rfl) ?_
    exact zk_ri rfl
  | 2, _ =>
    refine zk_tabIn (pc := 1) 78 dX8_count_1 (by decide) (by decide) (by rfl) (by decide) ?_
    refine zk_aload_n (pc := 78) 0 dX8_count_78 rfl rfl ?_
    refine zk_getR (pc := 79) dX8_count_79 flX8_38 rfl rfl ?_
    refine zk_bipush (pc := 82) (v := 8) dX8_count_82 (by decide) ?_
    refine zk_iaload (pc := 84) 8 dX8_count_84 rfl rfl (by decide) ?_
    refine zk_ireturn (pc := 85) dX8_count_85 (Or.inl rfl) ?_
    exact zk_ri rfl
  | 3, _ =>
    refine zk_tabIn (pc := 1) 86 dX8_count_1 (by decide) (by decide) (by rfl) (by decide) ?_
    refine zk_aload_n (pc := 86) 0 dX8_count_86 rfl rfl ?_
    refine zk_getI (pc := 87) dX8_count_87 flX8_130 rfl rfl ?_
    refine zk_ireturn (pc := 90) dX8_count_90 (Or.inl rfl) ?_
    exact zk_ri rfl
  | 4, _ =>
    refine zk_tabIn (pc := 1) 91 dX8_count_1 (by decide) (by decide) (by rfl) (by decide) ?_
    refine zk_aload_n (pc := 91) 0 dX8_count_91 rfl rfl ?_
    refine zk_aload_n (pc := 92) 0 dX8_count_92 rfl rfl ?_
    refine zk_getR (pc := 93) dX8_count_93 flX8_38 rfl rfl ?_
    refine zk_callVI (pc := 96) dX8_count_96 mtX8_allIn lkX8_167 stX8_allIn (by rfl) (by rfl) [_] _ rfl rfl (Nat.le_of_ble_eq_true rfl) (Nat.le_of_ble_eq_true rfl) (sp_X8_allIn (c := 55) (n := 17) rfl hC hC8 (by decide)) ?_
    refine zk_ireturn (pc := 99) dX8_count_99 (Or.inl rfl) ?_
    exact zk_ri rfl
  | 5, _ =>
    refine zk_tabIn (pc := 1) 100 dX8_count_1 (by decide) (by decide) (by rfl) (by decide) ?_
    refine zk_aload_n (pc := 100) 0 dX8_count_100 rfl rfl ?_
    refine zk_getR (pc := 101) dX8_count_101 flX8_38 rfl rfl ?_
    refine zk_bipush (pc := 104) (v := 9) dX8_count_104 (by decide) ?_
    refine zk_iaload (pc := 106) 9 dX8_count_106 rfl rfl (by decide) ?_
    refine zk_ireturn (pc := 107) dX8_count_107 (Or.inl rfl) ?_
    exact zk_ri rfl
  | 6, _ =>
    refine zk_tabIn (pc := 1) 108 dX8_count_1 (by decide) (by decide) (by rfl) (by decide) ?_
    refine zk_aload_n (pc := 108) 0 dX8_count_108 rfl rfl ?_
    refine zk_getR (pc := 109) dX8_count_109 flX8_38 rfl rfl ?_
    refine zk_bipush (pc := 112) (v := 10) dX8_count_112 (by decide) ?_
    refine zk_iaload (pc := 114) 10 dX8_count_114 rfl rfl (by decide) ?_
    refine zk_ireturn (pc := 115) dX8_count_115 (Or.inl rfl) ?_
    exact zk_ri rfl
  | 7, _ =>
    refine zk_tabIn (pc := 1) 116 dX8_count_1 (by decide) (by decide) (by rfl) (by decide) ?_
    refine zk_aload_n (pc := 116) 0 dX8_count_116 rfl rfl ?_
    refine zk_getI (pc := 117) dX8_count_117 flX8_127 rfl rfl ?_
    refine zk_ireturn (pc := 120) dX8_count_120 (Or.inl rfl) ?_
    exact zk_ri rfl
  | 8, _ =>
    refine zk_tabIn (pc := 1) 121 dX8_count_1 (by decide) (by decide) (by rfl) (by decide) ?_
    refine zk_aload_n (pc := 121) 0 dX8_count_121 rfl rfl ?_
    refine zk_iconst (pc := 122) (v := 1) dX8_count_122 (by decide) ?_
    refine zk_callVI (pc := 123) dX8_count_123 mtX8_kindMany lkX8_254 stX8_kindMany (by rfl) (by rfl) [_] _ rfl rfl (Nat.le_of_ble_eq_true rfl) (Nat.le_of_ble_eq_true rfl) (sp_kindMany1 hC hC8 hM hM6) ?_
    refine zk_ireturn (pc := 126) dX8_count_126 (Or.inl rfl) ?_
    exact zk_ri rfl
  | 9, _ =>
    refine zk_tabIn (pc := 1) 127 dX8_count_1 (by decide) (by decide) (by rfl) (by decide) ?_
    refine zk_aload_n (pc := 127) 0 dX8_count_127 rfl rfl ?_
    refine zk_iconst (pc := 128) (v := 2) dX8_count_128 (by decide) ?_
    refine zk_callVI (pc := 129) dX8_count_129 mtX8_kindMany lkX8_254 stX8_kindMany (by rfl) (by rfl) [_] _ rfl rfl (Nat.le_of_ble_eq_true rfl) (Nat.le_of_ble_eq_true rfl) (sp_kindMany2 hC hC8 hM hM6) ?_
    refine zk_ireturn (pc := 132) dX8_count_132 (Or.inl rfl) ?_
    exact zk_ri rfl
  | 10, _ =>
    refine zk_tabIn (pc := 1) 133 dX8_count_1 (by decide) (by decide) (by rfl) (by decide) ?_
    refine zk_aload_n (pc := 133) 0 dX8_count_133 rfl rfl ?_
    refine zk_getR (pc := 134) dX8_count_134 flX8_7 rfl rfl ?_
    refine zk_callSI (pc := 137) dX8_count_137 mtX8_thereOf lkX8_257 stX8_thereOf [_] _ rfl rfl (Nat.le_of_ble_eq_true rfl) (Nat.le_of_ble_eq_true rfl) (sp_X8_thereOf (c := 47) (n := 6) rfl (by decide)) ?_
    refine zk_ireturn (pc := 140) dX8_count_140 (Or.inl rfl) ?_
    exact zk_ri rfl
  | 11, _ =>
    refine zk_tabIn (pc := 1) 141 dX8_count_1 (by decide) (by decide) (by rfl) (by decide) ?_
    refine zk_aload_n (pc := 141) 0 dX8_count_141 rfl rfl ?_
    refine zk_getR (pc := 142) dX8_count_142 flX8_16 rfl rfl ?_
    refine zk_callSI (pc := 145) dX8_count_145 mtX8_thereOf lkX8_257 stX8_thereOf [_] _ rfl rfl (Nat.le_of_ble_eq_true rfl) (Nat.le_of_ble_eq_true rfl) (sp_X8_thereOf (c := 49) (n := 4) rfl (by decide)) ?_
    refine zk_ireturn (pc := 148) dX8_count_148 (Or.inl rfl) ?_
    exact zk_ri rfl
  | 12, _ =>
    refine zk_tabIn (pc := 1) 149 dX8_count_1 (by decide) (by decide) (by rfl) (by decide) ?_
    refine zk_aload_n (pc := 149) 0 dX8_count_149 rfl rfl ?_
    refine zk_getR (pc := 150) dX8_count_150 flX8_53 rfl rfl ?_
    refine zk_callSI (pc := 153) dX8_count_153 mtX8_thereOf lkX8_257 stX8_thereOf [_] _ rfl rfl (Nat.le_of_ble_eq_true rfl) (Nat.le_of_ble_eq_true rfl) (sp_X8_thereOf (c := 60) (n := 3) rfl (by decide)) ?_
    refine zk_ireturn (pc := 156) dX8_count_156 (Or.inl rfl) ?_
    exact zk_ri rfl
theorem sp_X8_count_n {w : Int32} (hw : ¬ (0 ≤ w ∧ w ≤ 12)) : zk_M d RX8 cX8_count 2 (some .int) none 0 (zk_loc [.ref 46, .int w] 2) [] mu lm (zk_R (some (.int (-1))) mu lm) := by
  refine zk_iload_n (pc := 0) 1 dX8_count_0 rfl rfl ?_
  refine zk_tabOut (pc := 1) (x := w) 157 dX8_count_1 (by simp only [zle, show (0 : Int32).toInt = 0 by decide, show (12 : Int32).toInt = 12 by decide] at hw; omega) (by decide) ?_
  refine zk_iconst (pc := 157) (v := -1) dX8_count_157 (by decide) ?_
  refine zk_ireturn (pc := 158) dX8_count_158 (Or.inl rfl) ?_
  exact zk_ri rfl
def mgM (mu : Mem) : Nat → Int64 → Int64
  | 0, h => h
  | i + 1, h => dgA (fun w => mTl mu i (nI w)) 4 (mgM mu i h)
def mg1 (mu : Mem) (C M : Nat) : Int64 := dgA (fun w => mCnt mu C M w) 13 17
def mg2 (mu : Mem) (C M : Nat) : Int64 := dgA (mu 55) C (mg1 mu C M)
def mg3 (mu : Mem) (C M : Nat) : Int64 := mgM mu M (mg2 mu C M)
def mg4 (mu : Mem) (C M : Nat) : Int64 := dgA (mu 60) 3 (mg3 mu C M)
def mg5 (mu : Mem) (C M : Nat) : Int64 := dgS (mu 47) (fun k q => mu 48 (40 * k + q)) 6 (mg4 mu C M)
def mg6 (mu : Mem) (C M : Nat) : Int64 := dgS (mu 49) (fun k q => mu 50 (60 * k + q)) 4 (mg5 mu C M)
theorem dgS_s (sz : Nat → Int32) (f : Nat → Nat → Int32) (k : Nat) (h : Int64) : dgS sz f (k + 1) h = dgA (f k) (sz k).toNatClampNeg (31 * dgS sz f k h + (sz k).toInt64) := rfl
theorem sp_X8_digest {C M : Nat} (hC : mu 46 17 = nI C) (hC8 : C ≤ 8) (hM : mu 46 18 = nI M) (hM6 : M ≤ 6) (hS : ∀ j, j < M → ∃ q, q < C ∧ mu 54 j = nI q) (hz1 : ∀ k, k < 6 → zSz (mu 47 k) 40) (hz2 : ∀ k, k < 4 → zSz (mu 49 k) 60) : zk_M (d + 3) RX8 cX8_digest 5 (some .long) none 0 (zk_loc [.ref 46] 5) [] mu lm (zk_R (some (.long (mg6 mu C M))) mu lm) := by
  have loop6 : ∀ k, k ≤ 4 → ∀ b4 : Value, zk_M (d + 3) RX8 cX8_digest 5 (some .long) none 204 [.ref 46, .long (dgS (mu 49) (fun k q => mu 50 (60 * k + q)) k (mg5 mu C M)), .retAddr 0, .int (nI k), b4] [] mu lm (zk_R (some (.long (mg6 mu C M))) mu lm) := by
    refine zk_ind 4 (fun k hk ih => ?_)
    intro b4
    have inner : k < 4 → ∀ q, q ≤ (mu 49 k).toNatClampNeg → zk_M (d + 3) RX8 cX8_digest 5 (some .long) none 226 [.ref 46, .long (dgA (fun q => mu 50 (60 * k + q)) q (31 * dgS (mu 49) (fun k q => mu 50 (60 * k + q)) k (mg5 mu C M) + (mu 49 k).toInt64)), .retAddr 0, .int (nI k), .int (nI q)] [] mu lm (zk_R (some (.long (mg6 mu C M))) mu lm) := by
      intro hk6
      have hcl : (mu 49 k).toNatClampNeg ≤ 60 := by
        rcases hz2 k hk6 with z | ⟨j, hj, z⟩
        · rw [z]; decide
        · rw [z, nI_clamp (by omega)]; exact hj
      have hlt : ∀ q : Nat, q ≤ 60 → (mu 49 k ≤ nI q) = ((mu 49 k).toNatClampNeg ≤ q) := by
        intro q hq
        rcases hz2 k hk6 with z | ⟨j, hj, z⟩
        · rw [z]
          exact propext ⟨fun _ => Nat.zero_le _, fun _ => by simp only [zle, nI_toInt (show q < 2 ^ 31 by omega)]; rw [show (-1 : Int32).toInt = -1 by decide]; omega⟩
        · rw [z, nI_clamp (by omega), nIle (by omega) (by omega)]
      refine zk_ind (mu 49 k).toNatClampNeg (fun q hq ih2 => ?_)
      refine zk_iload (pc := 226) dX8_digest_226 rfl ?_
      refine zk_aload_n (pc := 228) 0 dX8_digest_228 rfl rfl ?_
      refine zk_getR (pc := 229) dX8_digest_229 flX8_16 rfl rfl ?_
      refine zk_iload_n (pc := 232) 3 dX8_digest_232 rfl rfl ?_
      refine zk_iaload (pc := 233) k dX8_digest_233 rfl rfl (by omega) ?_
      refine zk_icmp_ge (pc := 234) 263 dX8_digest_234 (by decide) (fun h234 => ?_) (fun h234 => ?_)
      · rw [hlt q (by omega)] at h234
        refine zs_iinc (pc := 263) (ls' := [_, _, _, _, _]) dX8_digest_263 rfl (nI_1 k) (by decide) rfl ?_
        refine zk_goto (pc := 266) 204 dX8_digest_266 (by decide) ?_
        have e := ih hk6 (.int (nI q))
        rw [dgS_s, show (mu 49 k).toNatClampNeg = q by omega] at e
        exact e
      · rw [hlt q (by omega)] at h234
        refine zk_ldc2 (pc := 237) dX8_digest_237 kcX8_262 ?_
        refine zk_lload_n (pc := 240) 1 dX8_digest_240 rfl rfl ?_
        refine zk_lmul (pc := 241) dX8_digest_241 ?_
        refine zk_aload_n (pc := 242) 0 dX8_digest_242 rfl rfl ?_
        refine zk_getR (pc := 243) dX8_digest_243 flX8_19 rfl rfl ?_
        refine zk_bipush (pc := 246) (v := 60) dX8_digest_246 (by decide) ?_
        refine zk_iload_n (pc := 248) 3 dX8_digest_248 rfl rfl ?_
        refine zk_imul (pc := 249) dX8_digest_249 ?_
        refine zk_iload (pc := 250) dX8_digest_250 rfl ?_
        refine zk_iadd (pc := 252) dX8_digest_252 ?_
        refine zk_iaload (pc := 253) (60 * k + q) dX8_digest_253 rfl (by rw [show (60 : Int32) = nI 60 from rfl, pk_mul, nI_add]) (by omega) ?_
        refine zk_i2l (pc := 254) dX8_digest_254 ?_
        refine zk_ladd (pc := 255) dX8_digest_255 ?_
        refine zs_lstore_n (pc := 256) (ls' := [_, _, _, _, _]) 1 dX8_digest_256 rfl (by decide) rfl ?_
        refine zs_iinc (pc := 257) (ls' := [_, _, _, _, _]) dX8_digest_257 rfl (nI_1 q) (by decide) rfl ?_
        refine zk_goto (pc := 260) 226 dX8_digest_260 (by decide) ?_
        exact ih2 (by omega)
    refine zk_iload_n (pc := 204) 3 dX8_digest_204 rfl rfl ?_
    refine zk_iconst (pc := 205) (v := 4) dX8_digest_205 (by decide) ?_
    refine zk_icmp_ge (pc := 206) 269 dX8_digest_206 (by decide) (fun h206 => ?_) (fun h206 => ?_)
    · rw [show (4 : Int32) = nI 4 from rfl, nIle (by omega) (by omega)] at h206
      refine zk_lload_n (pc := 269) 1 dX8_digest_269 rfl rfl ?_
      obtain rfl : k = 4 := by omega
      exact zk_lreturn (pc := 270) dX8_digest_270 rfl (zk_rl rfl)
    · rw [show (4 : Int32) = nI 4 from rfl, nIle (by omega) (by omega)] at h206
      refine zk_ldc2 (pc := 209) dX8_digest_209 kcX8_262 ?_
      refine zk_lload_n (pc := 212) 1 dX8_digest_212 rfl rfl ?_
      refine zk_lmul (pc := 213) dX8_digest_213 ?_
      refine zk_aload_n (pc := 214) 0 dX8_digest_214 rfl rfl ?_
      refine zk_getR (pc := 215) dX8_digest_215 flX8_16 rfl rfl ?_
      refine zk_iload_n (pc := 218) 3 dX8_digest_218 rfl rfl ?_
      refine zk_iaload (pc := 219) k dX8_digest_219 rfl rfl (by omega) ?_
      refine zk_i2l (pc := 220) dX8_digest_220 ?_
      refine zk_ladd (pc := 221) dX8_digest_221 ?_
      refine zs_lstore_n (pc := 222) (ls' := [_, _, _, _, _]) 1 dX8_digest_222 rfl (by decide) rfl ?_
      refine zk_iconst (pc := 223) (v := 0) dX8_digest_223 (by decide) ?_
      refine zs_istore (pc := 224) (ls' := [_, _, _, _, _]) 4 dX8_digest_224 (by decide) rfl ?_
      exact inner (by omega) 0 (Nat.zero_le _)
  have loop5 : ∀ k, k ≤ 6 → ∀ b4 : Value, zk_M (d + 3) RX8 cX8_digest 5 (some .long) none 136 [.ref 46, .long (dgS (mu 47) (fun k q => mu 48 (40 * k + q)) k (mg4 mu C M)), .retAddr 0, .int (nI k), b4] [] mu lm (zk_R (some (.long (mg6 mu C M))) mu lm) := by
    refine zk_ind 6 (fun k hk ih => ?_)
    intro b4
    have inner : k < 6 → ∀ q, q ≤ (mu 47 k).toNatClampNeg → zk_M (d + 3) RX8 cX8_digest 5 (some .long) none 159 [.ref 46, .long (dgA (fun q => mu 48 (40 * k + q)) q (31 * dgS (mu 47) (fun k q => mu 48 (40 * k + q)) k (mg4 mu C M) + (mu 47 k).toInt64)), .retAddr 0, .int (nI k), .int (nI q)] [] mu lm (zk_R (some (.long (mg6 mu C M))) mu lm) := by
      intro hk6
      have hcl : (mu 47 k).toNatClampNeg ≤ 40 := by
        rcases hz1 k hk6 with z | ⟨j, hj, z⟩
        · rw [z]; decide
        · rw [z, nI_clamp (by omega)]; exact hj
      have hlt : ∀ q : Nat, q ≤ 40 → (mu 47 k ≤ nI q) = ((mu 47 k).toNatClampNeg ≤ q) := by
        intro q hq
        rcases hz1 k hk6 with z | ⟨j, hj, z⟩
        · rw [z]
          exact propext ⟨fun _ => Nat.zero_le _, fun _ => by simp only [zle, nI_toInt (show q < 2 ^ 31 by omega)]; rw [show (-1 : Int32).toInt = -1 by decide]; omega⟩
        · rw [z, nI_clamp (by omega), nIle (by omega) (by omega)]
      refine zk_ind (mu 47 k).toNatClampNeg (fun q hq ih2 => ?_)
      refine zk_iload (pc := 159) dX8_digest_159 rfl ?_
      refine zk_aload_n (pc := 161) 0 dX8_digest_161 rfl rfl ?_
      refine zk_getR (pc := 162) dX8_digest_162 flX8_7 rfl rfl ?_
      refine zk_iload_n (pc := 165) 3 dX8_digest_165 rfl rfl ?_
      refine zk_iaload (pc := 166) k dX8_digest_166 rfl rfl (by omega) ?_
      refine zk_icmp_ge (pc := 167) 196 dX8_digest_167 (by decide) (fun h167 => ?_) (fun h167 => ?_)
      · rw [hlt q (by omega)] at h167
        refine zs_iinc (pc := 196) (ls' := [_, _, _, _, _]) dX8_digest_196 rfl (nI_1 k) (by decide) rfl ?_
        refine zk_goto (pc := 199) 136 dX8_digest_199 (by decide) ?_
        have e := ih hk6 (.int (nI q))
        rw [dgS_s, show (mu 47 k).toNatClampNeg = q by omega] at e
        exact e
      · rw [hlt q (by omega)] at h167
        refine zk_ldc2 (pc := 170) dX8_digest_170 kcX8_262 ?_
        refine zk_lload_n (pc := 173) 1 dX8_digest_173 rfl rfl ?_
        refine zk_lmul (pc := 174) dX8_digest_174 ?_
        refine zk_aload_n (pc := 175) 0 dX8_digest_175 rfl rfl ?_
        refine zk_getR (pc := 176) dX8_digest_176 flX8_13 rfl rfl ?_
        refine zk_bipush (pc := 179) (v := 40) dX8_digest_179 (by decide) ?_
        refine zk_iload_n (pc := 181) 3 dX8_digest_181 rfl rfl ?_
        refine zk_imul (pc := 182) dX8_digest_182 ?_
        refine zk_iload (pc := 183) dX8_digest_183 rfl ?_
        refine zk_iadd (pc := 185) dX8_digest_185 ?_
        refine zk_iaload (pc := 186) (40 * k + q) dX8_digest_186 rfl (by rw [show (40 : Int32) = nI 40 from rfl, pk_mul, nI_add]) (by omega) ?_
        refine zk_i2l (pc := 187) dX8_digest_187 ?_
        refine zk_ladd (pc := 188) dX8_digest_188 ?_
        refine zs_lstore_n (pc := 189) (ls' := [_, _, _, _, _]) 1 dX8_digest_189 rfl (by decide) rfl ?_
        refine zs_iinc (pc := 190) (ls' := [_, _, _, _, _]) dX8_digest_190 rfl (nI_1 q) (by decide) rfl ?_
        refine zk_goto (pc := 193) 159 dX8_digest_193 (by decide) ?_
        exact ih2 (by omega)
    refine zk_iload_n (pc := 136) 3 dX8_digest_136 rfl rfl ?_
    refine zk_bipush (pc := 137) (v := 6) dX8_digest_137 (by decide) ?_
    refine zk_icmp_ge (pc := 139) 202 dX8_digest_139 (by decide) (fun h139 => ?_) (fun h139 => ?_)
    · rw [show (6 : Int32) = nI 6 from rfl, nIle (by omega) (by omega)] at h139
      refine zk_iconst (pc := 202) (v := 0) dX8_digest_202 (by decide) ?_
      refine zs_istore_n (pc := 203) (ls' := [_, _, _, _, _]) 3 dX8_digest_203 rfl (by decide) rfl ?_
      obtain rfl : k = 6 := by omega
      exact loop6 0 (Nat.zero_le _) _
    · rw [show (6 : Int32) = nI 6 from rfl, nIle (by omega) (by omega)] at h139
      refine zk_ldc2 (pc := 142) dX8_digest_142 kcX8_262 ?_
      refine zk_lload_n (pc := 145) 1 dX8_digest_145 rfl rfl ?_
      refine zk_lmul (pc := 146) dX8_digest_146 ?_
      refine zk_aload_n (pc := 147) 0 dX8_digest_147 rfl rfl ?_
      refine zk_getR (pc := 148) dX8_digest_148 flX8_7 rfl rfl ?_
      refine zk_iload_n (pc := 151) 3 dX8_digest_151 rfl rfl ?_
      refine zk_iaload (pc := 152) k dX8_digest_152 rfl rfl (by omega) ?_
      refine zk_i2l (pc := 153) dX8_digest_153 ?_
      refine zk_ladd (pc := 154) dX8_digest_154 ?_
      refine zs_lstore_n (pc := 155) (ls' := [_, _, _, _, _]) 1 dX8_digest_155 rfl (by decide) rfl ?_
      refine zk_iconst (pc := 156) (v := 0) dX8_digest_156 (by decide) ?_
      refine zs_istore (pc := 157) (ls' := [_, _, _, _, _]) 4 dX8_digest_157 (by decide) rfl ?_
      exact inner (by omega) 0 (Nat.zero_le _)
  have loop4 : ∀ k, k ≤ 3 → ∀ b4 : Value, zk_M (d + 3) RX8 cX8_digest 5 (some .long) none 109 [.ref 46, .long (dgA (mu 60) k (mg3 mu C M)), .retAddr 0, .int (nI k), b4] [] mu lm (zk_R (some (.long (mg6 mu C M))) mu lm) := by
    refine zk_ind 3 (fun k hk ih => ?_)
    intro b4
    refine zk_iload_n (pc := 109) 3 dX8_digest_109 rfl rfl ?_
    refine zk_iconst (pc := 110) (v := 3) dX8_digest_110 (by decide) ?_
    refine zk_icmp_ge (pc := 111) 134 dX8_digest_111 (by decide) (fun h111 => ?_) (fun h111 => ?_)
    · rw [show (3 : Int32) = nI 3 from rfl, nIle (by omega) (by omega)] at h111
      refine zk_iconst (pc := 134) (v := 0) dX8_digest_134 (by decide) ?_
      refine zs_istore_n (pc := 135) (ls' := [_, _, _, _, _]) 3 dX8_digest_135 rfl (by decide) rfl ?_
      obtain rfl : k = 3 := by omega
      exact loop5 0 (Nat.zero_le _) _
    · rw [show (3 : Int32) = nI 3 from rfl, nIle (by omega) (by omega)] at h111
      refine zk_ldc2 (pc := 114) dX8_digest_114 kcX8_262 ?_
      refine zk_lload_n (pc := 117) 1 dX8_digest_117 rfl rfl ?_
      refine zk_lmul (pc := 118) dX8_digest_118 ?_
      refine zk_aload_n (pc := 119) 0 dX8_digest_119 rfl rfl ?_
      refine zk_getR (pc := 120) dX8_digest_120 flX8_53 rfl rfl ?_
      refine zk_iload_n (pc := 123) 3 dX8_digest_123 rfl rfl ?_
      refine zk_iaload (pc := 124) k dX8_digest_124 rfl rfl (by omega) ?_
      refine zk_i2l (pc := 125) dX8_digest_125 ?_
      refine zk_ladd (pc := 126) dX8_digest_126 ?_
      refine zs_lstore_n (pc := 127) (ls' := [_, _, _, _, _]) 1 dX8_digest_127 rfl (by decide) rfl ?_
      refine zs_iinc (pc := 128) (ls' := [_, _, _, _, _]) dX8_digest_128 rfl (nI_1 k) (by decide) rfl ?_
      refine zk_goto (pc := 131) 109 dX8_digest_131 (by decide) ?_
      exact ih (by omega) _
  have loop3 : ∀ k, k ≤ M → ∀ b4 : Value, zk_M (d + 3) RX8 cX8_digest 5 (some .long) none 63 [.ref 46, .long (mgM mu k (mg2 mu C M)), .retAddr 0, .int (nI k), b4] [] mu lm (zk_R (some (.long (mg6 mu C M))) mu lm) := by
    refine zk_ind M (fun k hk ih => ?_)
    intro b4
    have inner : k < M → ∀ q, q ≤ 4 → zk_M (d + 3) RX8 cX8_digest 5 (some .long) none 74 [.ref 46, .long (dgA (fun w => mTl mu k (nI w)) q (mgM mu k (mg2 mu C M))), .retAddr 0, .int (nI k), .int (nI q)] [] mu lm (zk_R (some (.long (mg6 mu C M))) mu lm) := by
      intro hkM
      obtain ⟨z, hz, hsz⟩ := hS k hkM
      refine zk_ind 4 (fun q hq ih2 => ?_)
      refine zk_iload (pc := 74) dX8_digest_74 rfl ?_
      refine zk_iconst (pc := 76) (v := 4) dX8_digest_76 (by decide) ?_
      refine zk_icmp_ge (pc := 77) 101 dX8_digest_77 (by decide) (fun h77 => ?_) (fun h77 => ?_)
      · rw [show (4 : Int32) = nI 4 from rfl, nIle (by omega) (by omega)] at h77
        refine zs_iinc (pc := 101) (ls' := [_, _, _, _, _]) dX8_digest_101 rfl (nI_1 k) (by decide) rfl ?_
        refine zk_goto (pc := 104) 63 dX8_digest_104 (by decide) ?_
        obtain rfl : q = 4 := by omega
        exact ih (by omega) _
      · rw [show (4 : Int32) = nI 4 from rfl, nIle (by omega) (by omega)] at h77
        refine zk_ldc2 (pc := 80) dX8_digest_80 kcX8_262 ?_
        refine zk_lload_n (pc := 83) 1 dX8_digest_83 rfl rfl ?_
        refine zk_lmul (pc := 84) dX8_digest_84 ?_
        refine zk_aload_n (pc := 85) 0 dX8_digest_85 rfl rfl ?_
        refine zk_iload_n (pc := 86) 3 dX8_digest_86 rfl rfl ?_
        refine zk_iload (pc := 87) dX8_digest_87 rfl ?_
        refine zk_callVI (pc := 89) dX8_digest_89 mtX8_memberTells lkX8_137 stX8_memberTells (by rfl) (by rfl) [_, _] _ rfl rfl (Nat.le_of_ble_eq_true rfl) (Nat.le_of_ble_eq_true rfl) (sp_X8_memberTells (by omega) hsz (by omega) _) ?_
        refine zk_i2l (pc := 92) dX8_digest_92 ?_
        refine zk_ladd (pc := 93) dX8_digest_93 ?_
        refine zs_lstore_n (pc := 94) (ls' := [_, _, _, _, _]) 1 dX8_digest_94 rfl (by decide) rfl ?_
        refine zs_iinc (pc := 95) (ls' := [_, _, _, _, _]) dX8_digest_95 rfl (nI_1 q) (by decide) rfl ?_
        refine zk_goto (pc := 98) 74 dX8_digest_98 (by decide) ?_
        exact ih2 (by omega)
    refine zk_iload_n (pc := 63) 3 dX8_digest_63 rfl rfl ?_
    refine zk_aload_n (pc := 64) 0 dX8_digest_64 rfl rfl ?_
    refine zk_getI (pc := 65) dX8_digest_65 flX8_63 rfl rfl ?_
    refine zk_icmp_ge (pc := 68) 107 dX8_digest_68 (by decide) (fun h68 => ?_) (fun h68 => ?_)
    · rw [hM, nIle (by omega) (by omega)] at h68
      refine zk_iconst (pc := 107) (v := 0) dX8_digest_107 (by decide) ?_
      refine zs_istore_n (pc := 108) (ls' := [_, _, _, _, _]) 3 dX8_digest_108 rfl (by decide) rfl ?_
      obtain rfl : k = M := by omega
      exact loop4 0 (Nat.zero_le _) _
    · rw [hM, nIle (by omega) (by omega)] at h68
      refine zk_iconst (pc := 71) (v := 0) dX8_digest_71 (by decide) ?_
      refine zs_istore (pc := 72) (ls' := [_, _, _, _, _]) 4 dX8_digest_72 (by decide) rfl ?_
      exact inner (by omega) 0 (Nat.zero_le _)
  have loop2 : ∀ k, k ≤ C → ∀ b4 : Value, zk_M (d + 3) RX8 cX8_digest 5 (some .long) none 33 [.ref 46, .long (dgA (mu 55) k (mg1 mu C M)), .retAddr 0, .int (nI k), b4] [] mu lm (zk_R (some (.long (mg6 mu C M))) mu lm) := by
    refine zk_ind C (fun k hk ih => ?_)
    intro b4
    refine zk_iload_n (pc := 33) 3 dX8_digest_33 rfl rfl ?_
    refine zk_aload_n (pc := 34) 0 dX8_digest_34 rfl rfl ?_
    refine zk_getI (pc := 35) dX8_digest_35 flX8_70 rfl rfl ?_
    refine zk_icmp_ge (pc := 38) 61 dX8_digest_38 (by decide) (fun h38 => ?_) (fun h38 => ?_)
    · rw [hC, nIle (by omega) (by omega)] at h38
      refine zk_iconst (pc := 61) (v := 0) dX8_digest_61 (by decide) ?_
      refine zs_istore_n (pc := 62) (ls' := [_, _, _, _, _]) 3 dX8_digest_62 rfl (by decide) rfl ?_
      obtain rfl : k = C := by omega
      exact loop3 0 (Nat.zero_le _) _
    · rw [hC, nIle (by omega) (by omega)] at h38
      refine zk_ldc2 (pc := 41) dX8_digest_41 kcX8_262 ?_
      refine zk_lload_n (pc := 44) 1 dX8_digest_44 rfl rfl ?_
      refine zk_lmul (pc := 45) dX8_digest_45 ?_
      refine zk_aload_n (pc := 46) 0 dX8_digest_46 rfl rfl ?_
      refine zk_getR (pc := 47) dX8_digest_47 flX8_38 rfl rfl ?_
      refine zk_iload_n (pc := 50) 3 dX8_digest_50 rfl rfl ?_
      refine zk_iaload (pc := 51) k dX8_digest_51 rfl rfl (by omega) ?_
      refine zk_i2l (pc := 52) dX8_digest_52 ?_
      refine zk_ladd (pc := 53) dX8_digest_53 ?_
      refine zs_lstore_n (pc := 54) (ls' := [_, _, _, _, _]) 1 dX8_digest_54 rfl (by decide) rfl ?_
      refine zs_iinc (pc := 55) (ls' := [_, _, _, _, _]) dX8_digest_55 rfl (nI_1 k) (by decide) rfl ?_
      refine zk_goto (pc := 58) 33 dX8_digest_58 (by decide) ?_
      exact ih (by omega) _
  have loop1 : ∀ k, k ≤ 13 → ∀ b4 : Value, zk_M (d + 3) RX8 cX8_digest 5 (some .long) none 6 [.ref 46, .long (dgA (fun w => mCnt mu C M w) k 17), .retAddr 0, .int (nI k), b4] [] mu lm (zk_R (some (.long (mg6 mu C M))) mu lm) := by
    refine zk_ind 13 (fun k hk ih => ?_)
    intro b4
    refine zk_iload_n (pc := 6) 3 dX8_digest_6 rfl rfl ?_
    refine zk_bipush (pc := 7) (v := 13) dX8_digest_7 (by decide) ?_
    refine zk_icmp_ge (pc := 9) 31 dX8_digest_9 (by decide) (fun h9 => ?_) (fun h9 => ?_)
    · rw [show (13 : Int32) = nI 13 from rfl, nIle (by omega) (by omega)] at h9
      refine zk_iconst (pc := 31) (v := 0) dX8_digest_31 (by decide) ?_
      refine zs_istore_n (pc := 32) (ls' := [_, _, _, _, _]) 3 dX8_digest_32 rfl (by decide) rfl ?_
      obtain rfl : k = 13 := by omega
      exact loop2 0 (Nat.zero_le _) _
    · rw [show (13 : Int32) = nI 13 from rfl, nIle (by omega) (by omega)] at h9
      refine zk_ldc2 (pc := 12) dX8_digest_12 kcX8_262 ?_
      refine zk_lload_n (pc := 15) 1 dX8_digest_15 rfl rfl ?_
      refine zk_lmul (pc := 16) dX8_digest_16 ?_
      refine zk_aload_n (pc := 17) 0 dX8_digest_17 rfl rfl ?_
      refine zk_iload_n (pc := 18) 3 dX8_digest_18 rfl rfl ?_
      refine zk_callVI (pc := 19) dX8_digest_19 mtX8_count lkX8_264 stX8_count (by rfl) (by rfl) [_] _ rfl rfl (Nat.le_of_ble_eq_true rfl) (Nat.le_of_ble_eq_true rfl) (sp_X8_count hC hC8 hM hM6 (by omega)) ?_
      refine zk_i2l (pc := 22) dX8_digest_22 ?_
      refine zk_ladd (pc := 23) dX8_digest_23 ?_
      refine zs_lstore_n (pc := 24) (ls' := [_, _, _, _, _]) 1 dX8_digest_24 rfl (by decide) rfl ?_
      refine zs_iinc (pc := 25) (ls' := [_, _, _, _, _]) dX8_digest_25 rfl (nI_1 k) (by decide) rfl ?_
      refine zk_goto (pc := 28) 6 dX8_digest_28 (by decide) ?_
      exact ih (by omega) _
  refine zk_ldc2 (pc := 0) dX8_digest_0 kcX8_260 ?_
  refine zs_lstore_n (pc := 3) (ls' := [_, _, _, _, _]) 1 dX8_digest_3 rfl (by decide) rfl ?_
  refine zk_iconst (pc := 4) (v := 0) dX8_digest_4 (by decide) ?_
  refine zs_istore_n (pc := 5) (ls' := [_, _, _, _, _]) 3 dX8_digest_5 rfl (by decide) rfl ?_
  exact loop1 0 (Nat.zero_le _) _
end M56
