section M50
variable {d : Nat} {mu : Mem} {lm : MemL}
def mSum (mu : Mem) (M : Nat) (v x : Int32) : Int32 := zsum M (fun i => if (x >>> (nI i &&& 31)) &&& 1 = 1 then v - kSay (mu 53 i) v else 0)
theorem sp_X8_isSo {C M : Nat} (hC : mu 46 17 = nI C) (hC8 : C ≤ 8) (hM : mu 46 18 = nI M) (hM6 : M ≤ 6) (x v b : Int32) : zk_M (d + 2) RX8 cX8_isSo 6 (some .boolean) none 0 (zk_loc [.ref 46, .int x, .int v, .int b] 6) [] mu lm (zk_R (some (.int (zb (mSum mu M v x = b)))) mu lm) := by
  have loop : ∀ k, k ≤ M → zk_M (d + 2) RX8 cX8_isSo 6 (some .boolean) none 6 [.ref 46, .int x, .int v, .int b, .int (zsum k (fun i => if (x >>> (nI i &&& 31)) &&& 1 = 1 then v - kSay (mu 53 i) v else 0)), .int (nI k)] [] mu lm (zk_R (some (.int (zb (mSum mu M v x = b)))) mu lm) := by
    refine zk_ind M (fun k hk ih => ?_)
    refine zk_iload (pc := 6) dX8_isSo_6 rfl ?_
    refine zk_aload_n (pc := 8) 0 dX8_isSo_8 rfl rfl ?_
    refine zk_getI (pc := 9) dX8_isSo_9 flX8_63 rfl rfl ?_
    refine zk_icmp_ge (pc := 12) 46 dX8_isSo_12 (by decide) (fun h12 => ?_) (fun h12 => ?_)
    · rw [hM, nIle (by omega) (by omega)] at h12
      refine zk_iload (pc := 46) dX8_isSo_46 rfl ?_
      refine zk_iload_n (pc := 48) 3 dX8_isSo_48 rfl rfl ?_
      refine zk_icmp_ne (pc := 49) 56 dX8_isSo_49 (by decide) (fun h49 => ?_) (fun h49 => ?_)
      · skip
        refine zk_iconst (pc := 56) (v := 0) dX8_isSo_56 (by decide) ?_
        refine zk_ireturn (pc := 57) dX8_isSo_57 (Or.inr ⟨rfl, by first | exact Or.inl rfl | exact Or.inr rfl⟩) (zk_ri ?_)
        obtain rfl : k = M := by omega
        first
          | (have hz : zb (mSum mu k v x = b) = 1 := zb_t h49
             rw [hz])
          | (have hz : zb (mSum mu k v x = b) = 0 := zb_f h49
             rw [hz])
      · skip
        refine zk_iconst (pc := 52) (v := 1) dX8_isSo_52 (by decide) ?_
        refine zk_goto (pc := 53) 57 dX8_isSo_53 (by decide) ?_
        refine zk_ireturn (pc := 57) dX8_isSo_57 (Or.inr ⟨rfl, by first | exact Or.inl rfl | exact Or.inr rfl⟩) (zk_ri ?_)
        obtain rfl : k = M := by omega
        first
          | (have hz : zb (mSum mu k v x = b) = 1 := zb_t h49
             rw [hz])
          | (have hz : zb (mSum mu k v x = b) = 0 := zb_f h49
             rw [hz])
    · rw [hM, nIle (by omega) (by omega)] at h12
      refine zk_iload (pc := 15) dX8_isSo_15 rfl ?_
      refine zk_iload_n (pc := 17) 1 dX8_isSo_17 rfl rfl ?_
      refine zk_iload (pc := 18) dX8_isSo_18 rfl ?_
      refine zk_callSI (pc := 20) dX8_isSo_20 mtX8_has lkX8_187 stX8_has [_, _] _ rfl rfl (Nat.le_of_ble_eq_true rfl) (Nat.le_of_ble_eq_true rfl) (sp_X8_has _ _) ?_
      refine zk_if_eq (pc := 23) 36 dX8_isSo_23 (by decide) (fun h23 => ?_) (fun h23 => ?_)
      · rw [zb_e] at h23
        refine zk_iconst (pc := 36) (v := 0) dX8_isSo_36 (by decide) ?_
        refine zk_iadd (pc := 37) dX8_isSo_37 ?_
        refine zs_istore (pc := 38) (ls' := [_, _, _, _, _, _]) 4 dX8_isSo_38 (by decide) rfl ?_
        refine zs_iinc (pc := 40) (ls' := [_, _, _, _, _, _]) dX8_isSo_40 rfl (nI_1 k) (by decide) rfl ?_
        refine zk_goto (pc := 43) 6 dX8_isSo_43 (by decide) ?_
        have e := ih (by omega)
        rw [zsum_s] at e
        first | (rw [if_pos h23] at e; exact e) | (rw [if_neg h23] at e; exact e)
      · rw [zb_n] at h23
        refine zk_aload_n (pc := 26) 0 dX8_isSo_26 rfl rfl ?_
        refine zk_iload (pc := 27) dX8_isSo_27 rfl ?_
        refine zk_iload_n (pc := 29) 2 dX8_isSo_29 rfl rfl ?_
        refine zk_callVI (pc := 30) dX8_isSo_30 mtX8_breath lkX8_153 stX8_breath (by rfl) (by rfl) [_, _] _ rfl rfl (Nat.le_of_ble_eq_true rfl) (Nat.le_of_ble_eq_true rfl) (sp_X8_breath (by omega) _) ?_
        refine zk_goto (pc := 33) 37 dX8_isSo_33 (by decide) ?_
        refine zk_iadd (pc := 37) dX8_isSo_37 ?_
        refine zs_istore (pc := 38) (ls' := [_, _, _, _, _, _]) 4 dX8_isSo_38 (by decide) rfl ?_
        refine zs_iinc (pc := 40) (ls' := [_, _, _, _, _, _]) dX8_isSo_40 rfl (nI_1 k) (by decide) rfl ?_
        refine zk_goto (pc := 43) 6 dX8_isSo_43 (by decide) ?_
        have e := ih (by omega)
        rw [zsum_s] at e
        first | (rw [if_pos h23] at e; exact e) | (rw [if_neg h23] at e; exact e)
  refine zk_iconst (pc := 0) (v := 0) dX8_isSo_0 (by decide) ?_
  refine zs_istore (pc := 1) (ls' := [_, _, _, _, _, _]) 4 dX8_isSo_1 (by decide) rfl ?_
  refine zk_iconst (pc := 3) (v := 0) dX8_isSo_3 (by decide) ?_
  refine zs_istore (pc := 4) (ls' := [_, _, _, _, _, _]) 5 dX8_isSo_4 (by decide) rfl ?_
  exact loop 0 (Nat.zero_le _)
def mrfS (mu : Mem) (v b : Int32) : Int32 := if (0 ≤ v ∧ v ≤ 99) ∧ (0 ≤ b ∧ b ≤ 594) then (if mu 46 18 = 0 then -4 else 0) else -1
theorem sp_X8_wrongSets (v b : Int32) : zk_M (d + 1) RX8 cX8_wrongSets 3 (some .int) none 0 (zk_loc [.ref 46, .int v, .int b] 3) [] mu lm (zk_R (some (.int (mrfS mu v b))) mu lm) := by
  refine zk_iload_n (pc := 0) 1 dX8_wrongSets_0 rfl rfl ?_
  refine zk_iconst (pc := 1) (v := 0) dX8_wrongSets_1 (by decide) ?_
  refine zk_bipush (pc := 2) (v := 99) dX8_wrongSets_2 (by decide) ?_
  refine zk_callSI (pc := 4) dX8_wrongSets_4 mtX8_in lkX8_66 stX8_in [_, _, _] _ rfl rfl (Nat.le_of_ble_eq_true rfl) (Nat.le_of_ble_eq_true rfl) (sp_X8_in _ _ _) ?_
  refine zk_if_eq (pc := 7) 21 dX8_wrongSets_7 (by decide) (fun h7 => ?_) (fun h7 => ?_)
  · rw [zb_e] at h7
    refine zk_iconst (pc := 21) (v := -1) dX8_wrongSets_21 (by decide) ?_
    refine zk_goto (pc := 22) 38 dX8_wrongSets_22 (by decide) ?_
    refine zk_ireturn (pc := 38) dX8_wrongSets_38 (Or.inl rfl) (zk_ri ?_)
    unfold mrfS
    first | (rw [if_neg (fun q => h7 q.1)]; done) | (rw [if_neg (fun q => h18 q.2)]; done) | (rw [if_pos (And.intro h7 h18), if_neg h29]; done) | (rw [if_pos (And.intro h7 h18), if_pos h29]; done)
  · rw [zb_n] at h7
    refine zk_iload_n (pc := 10) 2 dX8_wrongSets_10 rfl rfl ?_
    refine zk_iconst (pc := 11) (v := 0) dX8_wrongSets_11 (by decide) ?_
    refine zk_sipush (pc := 12) (v := 594) dX8_wrongSets_12 (by decide) ?_
    refine zk_callSI (pc := 15) dX8_wrongSets_15 mtX8_in lkX8_66 stX8_in [_, _, _] _ rfl rfl (Nat.le_of_ble_eq_true rfl) (Nat.le_of_ble_eq_true rfl) (sp_X8_in _ _ _) ?_
    refine zk_if_ne (pc := 18) 25 dX8_wrongSets_18 (by decide) (fun h18 => ?_) (fun h18 => ?_)
    · rw [zb_n] at h18
      refine zk_aload_n (pc := 25) 0 dX8_wrongSets_25 rfl rfl ?_
      refine zk_getI (pc := 26) dX8_wrongSets_26 flX8_63 rfl rfl ?_
      refine zk_if_ne (pc := 29) 37 dX8_wrongSets_29 (by decide) (fun h29 => ?_) (fun h29 => ?_)
      · skip
        refine zk_iconst (pc := 37) (v := 0) dX8_wrongSets_37 (by decide) ?_
        refine zk_ireturn (pc := 38) dX8_wrongSets_38 (Or.inl rfl) (zk_ri ?_)
        unfold mrfS
        first | (rw [if_neg (fun q => h7 q.1)]; done) | (rw [if_neg (fun q => h18 q.2)]; done) | (rw [if_pos (And.intro h7 h18), if_neg h29]; done) | (rw [if_pos (And.intro h7 h18), if_pos h29]; done)
      · skip
        refine zk_bipush (pc := 32) (v := -4) dX8_wrongSets_32 (by decide) ?_
        refine zk_goto (pc := 34) 38 dX8_wrongSets_34 (by decide) ?_
        refine zk_ireturn (pc := 38) dX8_wrongSets_38 (Or.inl rfl) (zk_ri ?_)
        unfold mrfS
        first | (rw [if_neg (fun q => h7 q.1)]; done) | (rw [if_neg (fun q => h18 q.2)]; done) | (rw [if_pos (And.intro h7 h18), if_neg h29]; done) | (rw [if_pos (And.intro h7 h18), if_pos h29]; done)
    · rw [zb_e] at h18
      refine zk_iconst (pc := 21) (v := -1) dX8_wrongSets_21 (by decide) ?_
      refine zk_goto (pc := 22) 38 dX8_wrongSets_22 (by decide) ?_
      refine zk_ireturn (pc := 38) dX8_wrongSets_38 (Or.inl rfl) (zk_ri ?_)
      unfold mrfS
      first | (rw [if_neg (fun q => h7 q.1)]; done) | (rw [if_neg (fun q => h18 q.2)]; done) | (rw [if_pos (And.intro h7 h18), if_neg h29]; done) | (rw [if_pos (And.intro h7 h18), if_pos h29]; done)
def mWth (mu : Mem) (M : Nat) (v b nd : Int32) : Int32 := zsum (2 ^ M) (fun x => zb (nI x &&& nd = nd ∧ mSum mu M v (nI x) = b))
theorem sp_X8_manyBy {C M : Nat} (hC : mu 46 17 = nI C) (hC8 : C ≤ 8) (hM : mu 46 18 = nI M) (hM6 : M ≤ 6) (v b nd : Int32) : zk_M (d + 3) RX8 cX8_manyBy 7 (some .int) none 0 (zk_loc [.ref 46, .int v, .int b, .int nd, .int 0] 7) [] mu lm (zk_R (some (.int (mWth mu M v b nd))) mu lm) := by
  have hp : 2 ^ M ≤ 256 := zpow (by omega)
  have loop : ∀ k, k ≤ 2 ^ M → zk_M (d + 3) RX8 cX8_manyBy 7 (some .int) none 6 [.ref 46, .int v, .int b, .int nd, .int 0, .int (zsum k (fun x => zb (nI x &&& nd = nd ∧ mSum mu M v (nI x) = b))), .int (nI k)] [] mu lm (zk_R (some (.int (mWth mu M v b nd))) mu lm) := by
    refine zk_ind (2 ^ M) (fun k hk ih => ?_)
    refine zk_iload (pc := 6) dX8_manyBy_6 rfl ?_
    refine zk_iconst (pc := 8) (v := 1) dX8_manyBy_8 (by decide) ?_
    refine zk_aload_n (pc := 9) 0 dX8_manyBy_9 rfl rfl ?_
    refine zk_getI (pc := 10) dX8_manyBy_10 flX8_63 rfl rfl ?_
    refine zk_ishl (pc := 13) dX8_manyBy_13 ?_
    refine zk_icmp_ge (pc := 14) 60 dX8_manyBy_14 (by decide) (fun h14 => ?_) (fun h14 => ?_)
    · rw [hM, zshl (by omega), nIle (by omega) (by omega)] at h14
      refine zk_iload (pc := 60) dX8_manyBy_60 rfl ?_
      refine zk_ireturn (pc := 62) dX8_manyBy_62 (Or.inl rfl) (zk_ri ?_)
      obtain rfl : k = 2 ^ M := by omega
      rfl
    · rw [hM, zshl (by omega), nIle (by omega) (by omega)] at h14
      refine zk_iload (pc := 17) dX8_manyBy_17 rfl ?_
      refine zk_iload (pc := 19) dX8_manyBy_19 rfl ?_
      refine zk_iload_n (pc := 21) 3 dX8_manyBy_21 rfl rfl ?_
      refine zk_iand (pc := 22) dX8_manyBy_22 ?_
      refine zk_iload_n (pc := 23) 3 dX8_manyBy_23 rfl rfl ?_
      refine zk_icmp_ne (pc := 24) 50 dX8_manyBy_24 (by decide) (fun h24 => ?_) (fun h24 => ?_)
      · skip
        refine zk_iconst (pc := 50) (v := 0) dX8_manyBy_50 (by decide) ?_
        refine zk_iadd (pc := 51) dX8_manyBy_51 ?_
        refine zs_istore (pc := 52) (ls' := [_, _, _, _, _, _, _]) 5 dX8_manyBy_52 (by decide) rfl ?_
        refine zs_iinc (pc := 54) (ls' := [_, _, _, _, _, _, _]) dX8_manyBy_54 rfl (nI_1 k) (by decide) rfl ?_
        refine zk_goto (pc := 57) 6 dX8_manyBy_57 (by decide) ?_
        have e := ih (by omega)
        rw [zsum_s] at e
        first
          | (have hz : zb (nI k &&& nd = nd ∧ mSum mu M v (nI k) = b) = 0 := zb_f (fun z => h24 z.1)
             rw [hz] at e; exact e)
          | (have hz : zb (nI k &&& nd = nd ∧ mSum mu M v (nI k) = b) = 0 := zb_f (fun z => h43 z.2)
             rw [hz] at e; exact e)
          | (have hz : zb (nI k &&& nd = nd ∧ mSum mu M v (nI k) = b) = 1 := zb_t ⟨h24, h43⟩
             rw [hz] at e; exact e)
      · skip
        refine zk_iload (pc := 27) dX8_manyBy_27 rfl ?_
        refine zk_iload (pc := 29) dX8_manyBy_29 rfl ?_
        refine zk_iand (pc := 31) dX8_manyBy_31 ?_
        refine zk_if_ne (pc := 32) 50 dX8_manyBy_32 (by decide) (fun h32 => ?_) (fun h32 => ?_)
        · exact absurd Int32.and_zero h32 --
        · skip
          refine zk_aload_n (pc := 35) 0 dX8_manyBy_35 rfl rfl ?_
          refine zk_iload (pc := 36) dX8_manyBy_36 rfl ?_
          refine zk_iload_n (pc := 38) 1 dX8_manyBy_38 rfl rfl ?_
          refine zk_iload_n (pc := 39) 2 dX8_manyBy_39 rfl rfl ?_
          refine zk_callVI (pc := 40) dX8_manyBy_40 mtX8_isSo lkX8_197 stX8_isSo (by rfl) (by rfl) [_, _, _] _ rfl rfl (Nat.le_of_ble_eq_true rfl) (Nat.le_of_ble_eq_true rfl) (sp_X8_isSo hC hC8 hM hM6 _ _ _) ?_
          refine zk_if_eq (pc := 43) 50 dX8_manyBy_43 (by decide) (fun h43 => ?_) (fun h43 => ?_)
          · rw [zb_e] at h43
            refine zk_iconst (pc := 50) (v := 0) dX8_manyBy_50 (by decide) ?_
            refine zk_iadd (pc := 51) dX8_manyBy_51 ?_
            refine zs_istore (pc := 52) (ls' := [_, _, _, _, _, _, _]) 5 dX8_manyBy_52 (by decide) rfl ?_
            refine zs_iinc (pc := 54) (ls' := [_, _, _, _, _, _, _]) dX8_manyBy_54 rfl (nI_1 k) (by decide) rfl ?_
            refine zk_goto (pc := 57) 6 dX8_manyBy_57 (by decide) ?_
            have e := ih (by omega)
            rw [zsum_s] at e
            first
              | (have hz : zb (nI k &&& nd = nd ∧ mSum mu M v (nI k) = b) = 0 := zb_f (fun z => h24 z.1)
                 rw [hz] at e; exact e)
              | (have hz : zb (nI k &&& nd = nd ∧ mSum mu M v (nI k) = b) = 0 := zb_f (fun z => h43 z.2)
                 rw [hz] at e; exact e)
              | (have hz : zb (nI k &&& nd = nd ∧ mSum mu M v (nI k) = b) = 1 := zb_t ⟨h24, h43⟩
                 rw [hz] at e; exact e)
          · rw [zb_n] at h43
            refine zk_iconst (pc := 46) (v := 1) dX8_manyBy_46 (by decide) ?_
            refine zk_goto (pc := 47) 51 dX8_manyBy_47 (by decide) ?_
            refine zk_iadd (pc := 51) dX8_manyBy_51 ?_
            refine zs_istore (pc := 52) (ls' := [_, _, _, _, _, _, _]) 5 dX8_manyBy_52 (by decide) rfl ?_
            refine zs_iinc (pc := 54) (ls' := [_, _, _, _, _, _, _]) dX8_manyBy_54 rfl (nI_1 k) (by decide) rfl ?_
            refine zk_goto (pc := 57) 6 dX8_manyBy_57 (by decide) ?_
            have e := ih (by omega)
            rw [zsum_s] at e
            first
              | (have hz : zb (nI k &&& nd = nd ∧ mSum mu M v (nI k) = b) = 0 := zb_f (fun z => h24 z.1)
                 rw [hz] at e; exact e)
              | (have hz : zb (nI k &&& nd = nd ∧ mSum mu M v (nI k) = b) = 0 := zb_f (fun z => h43 z.2)
                 rw [hz] at e; exact e)
              | (have hz : zb (nI k &&& nd = nd ∧ mSum mu M v (nI k) = b) = 1 := zb_t ⟨h24, h43⟩
                 rw [hz] at e; exact e)
  refine zk_iconst (pc := 0) (v := 0) dX8_manyBy_0 (by decide) ?_
  refine zs_istore (pc := 1) (ls' := [_, _, _, _, _, _, _]) 5 dX8_manyBy_1 (by decide) rfl ?_
  refine zk_iconst (pc := 3) (v := 0) dX8_manyBy_3 (by decide) ?_
  refine zs_istore (pc := 4) (ls' := [_, _, _, _, _, _, _]) 6 dX8_manyBy_4 (by decide) rfl ?_
  exact loop 0 (Nat.zero_le _)
theorem sp_X8_sets_n {v b : Int32} (hrf : ¬ mrfS mu v b = 0) : zk_M (d + 2) RX8 cX8_sets 5 (some .int) none 0 (zk_loc [.ref 46, .int v, .int b] 5) [] mu lm (zk_R (some (.int (mrfS mu v b))) mu lm) := by
  refine zk_aload_n (pc := 0) 0 dX8_sets_0 rfl rfl ?_
  refine zk_iload_n (pc := 1) 1 dX8_sets_1 rfl rfl ?_
  refine zk_iload_n (pc := 2) 2 dX8_sets_2 rfl rfl ?_
  refine zk_callVI (pc := 3) dX8_sets_3 mtX8_wrongSets lkX8_200 stX8_wrongSets (by rfl) (by rfl) [_, _] _ rfl rfl (Nat.le_of_ble_eq_true rfl) (Nat.le_of_ble_eq_true rfl) (sp_X8_wrongSets _ _) ?_
  refine zk_if_eq (pc := 6) 16 dX8_sets_6 (by decide) (fun h6 => ?_) (fun h6 => ?_)
  · exact absurd h6 hrf --
  · skip
    refine zk_aload_n (pc := 9) 0 dX8_sets_9 rfl rfl ?_
    refine zk_iload_n (pc := 10) 1 dX8_sets_10 rfl rfl ?_
    refine zk_iload_n (pc := 11) 2 dX8_sets_11 rfl rfl ?_
    refine zk_callVI (pc := 12) dX8_sets_12 mtX8_wrongSets lkX8_200 stX8_wrongSets (by rfl) (by rfl) [_, _] _ rfl rfl (Nat.le_of_ble_eq_true rfl) (Nat.le_of_ble_eq_true rfl) (sp_X8_wrongSets _ _) ?_
    exact zk_ireturn (pc := 15) dX8_sets_15 (Or.inl rfl) (zk_ri rfl)
theorem sp_X8_sure_n {v b : Int32} (hrf : ¬ mrfS mu v b = 0) : zk_M (d + 2) RX8 cX8_sure 8 (some .int) none 0 (zk_loc [.ref 46, .int v, .int b] 8) [] mu lm (zk_R (some (.int (mrfS mu v b))) mu lm) := by
  refine zk_aload_n (pc := 0) 0 dX8_sure_0 rfl rfl ?_
  refine zk_iload_n (pc := 1) 1 dX8_sure_1 rfl rfl ?_
  refine zk_iload_n (pc := 2) 2 dX8_sure_2 rfl rfl ?_
  refine zk_callVI (pc := 3) dX8_sure_3 mtX8_wrongSets lkX8_200 stX8_wrongSets (by rfl) (by rfl) [_, _] _ rfl rfl (Nat.le_of_ble_eq_true rfl) (Nat.le_of_ble_eq_true rfl) (sp_X8_wrongSets _ _) ?_
  refine zk_if_eq (pc := 6) 16 dX8_sure_6 (by decide) (fun h6 => ?_) (fun h6 => ?_)
  · exact absurd h6 hrf --
  · skip
    refine zk_aload_n (pc := 9) 0 dX8_sure_9 rfl rfl ?_
    refine zk_iload_n (pc := 10) 1 dX8_sure_10 rfl rfl ?_
    refine zk_iload_n (pc := 11) 2 dX8_sure_11 rfl rfl ?_
    refine zk_callVI (pc := 12) dX8_sure_12 mtX8_wrongSets lkX8_200 stX8_wrongSets (by rfl) (by rfl) [_, _] _ rfl rfl (Nat.le_of_ble_eq_true rfl) (Nat.le_of_ble_eq_true rfl) (sp_X8_wrongSets _ _) ?_
    exact zk_ireturn (pc := 15) dX8_sure_15 (Or.inl rfl) (zk_ri rfl)
theorem sp_X8_ask_n {v b : Int32} (hrf : ¬ mrfS mu v b = 0) : zk_M (d + 2) RX8 cX8_ask 10 (some .int) none 0 (zk_loc [.ref 46, .int v, .int b] 10) [] mu lm (zk_R (some (.int (mrfS mu v b))) mu lm) := by
  refine zk_aload_n (pc := 0) 0 dX8_ask_0 rfl rfl ?_
  refine zk_iload_n (pc := 1) 1 dX8_ask_1 rfl rfl ?_
  refine zk_iload_n (pc := 2) 2 dX8_ask_2 rfl rfl ?_
  refine zk_callVI (pc := 3) dX8_ask_3 mtX8_wrongSets lkX8_200 stX8_wrongSets (by rfl) (by rfl) [_, _] _ rfl rfl (Nat.le_of_ble_eq_true rfl) (Nat.le_of_ble_eq_true rfl) (sp_X8_wrongSets _ _) ?_
  refine zk_if_eq (pc := 6) 16 dX8_ask_6 (by decide) (fun h6 => ?_) (fun h6 => ?_)
  · exact absurd h6 hrf --
  · skip
    refine zk_aload_n (pc := 9) 0 dX8_ask_9 rfl rfl ?_
    refine zk_iload_n (pc := 10) 1 dX8_ask_10 rfl rfl ?_
    refine zk_iload_n (pc := 11) 2 dX8_ask_11 rfl rfl ?_
    refine zk_callVI (pc := 12) dX8_ask_12 mtX8_wrongSets lkX8_200 stX8_wrongSets (by rfl) (by rfl) [_, _] _ rfl rfl (Nat.le_of_ble_eq_true rfl) (Nat.le_of_ble_eq_true rfl) (sp_X8_wrongSets _ _) ?_
    exact zk_ireturn (pc := 15) dX8_ask_15 (Or.inl rfl) (zk_ri rfl)
theorem sp_X8_sets {C M : Nat} (hC : mu 46 17 = nI C) (hC8 : C ≤ 8) (hM : mu 46 18 = nI M) (hM6 : M ≤ 6) {v b : Int32} (hrf : mrfS mu v b = 0) : zk_M (d + 4) RX8 cX8_sets 5 (some .int) none 0 (zk_loc [.ref 46, .int v, .int b] 5) [] mu lm (zk_R (some (.int 1)) (zk_up mu 46 6 (zfst (fun x => decide (mSum mu M v (nI x) = b)) (-9) (2 ^ M) 0)) (zk_up (zk_up lm 46 7 (mWth mu M v b 0).toInt64) 46 8 1)) := by
  have hp : 2 ^ M ≤ 256 := zpow (by omega)
  have loop : ∀ k, k ≤ 2 ^ M → zk_M (d + 4) RX8 cX8_sets 5 (some .int) none 29 [.ref 46, .int v, .int b, .int (zfst (fun x => decide (mSum mu M v (nI x) = b)) (-9) (2 ^ M - k) k), .int (nI k - 1)] [] mu lm (zk_R (some (.int 1)) (zk_up mu 46 6 (zfst (fun x => decide (mSum mu M v (nI x) = b)) (-9) (2 ^ M) 0)) (zk_up (zk_up lm 46 7 (mWth mu M v b 0).toInt64) 46 8 1)) := by
    refine zk_dn (fun k ih => ?_)
    intro hk
    refine zk_iload (pc := 29) dX8_sets_29 rfl ?_
    refine zk_if_lt (pc := 31) 58 dX8_sets_31 (by decide) (fun h31 => ?_) (fun h31 => ?_)
    · rw [zm_lt (by omega)] at h31
      subst h31
      refine zk_aload_n (pc := 58) 0 dX8_sets_58 rfl rfl ?_
      refine zk_aload_n (pc := 59) 0 dX8_sets_59 rfl rfl ?_
      refine zk_iload_n (pc := 60) 1 dX8_sets_60 rfl rfl ?_
      refine zk_iload_n (pc := 61) 2 dX8_sets_61 rfl rfl ?_
      refine zk_iconst (pc := 62) (v := 0) dX8_sets_62 (by decide) ?_
      refine zk_iconst (pc := 63) (v := 0) dX8_sets_63 (by decide) ?_
      refine zk_callVI (pc := 64) dX8_sets_64 mtX8_manyBy lkX8_203 stX8_manyBy (by rfl) (by rfl) [_, _, _, _] _ rfl rfl (Nat.le_of_ble_eq_true rfl) (Nat.le_of_ble_eq_true rfl) (sp_X8_manyBy hC hC8 hM hM6 _ _ _) ?_
      refine zk_i2l (pc := 67) dX8_sets_67 ?_
      refine zk_putL (pc := 68) dX8_sets_68 flX8_207 rfl rfl ?_
      refine zk_aload_n (pc := 71) 0 dX8_sets_71 rfl rfl ?_
      refine zk_lconst (pc := 72) (v := 1) dX8_sets_72 (by decide) ?_
      refine zk_putL (pc := 73) dX8_sets_73 flX8_25 rfl rfl ?_
      refine zk_aload_n (pc := 76) 0 dX8_sets_76 rfl rfl ?_
      refine zk_iload_n (pc := 77) 3 dX8_sets_77 rfl rfl ?_
      refine zk_callVI (pc := 78) dX8_sets_78 mtX8_tells lkX8_81 stX8_tells (by rfl) (by rfl) [_] _ rfl rfl (Nat.le_of_ble_eq_true rfl) (Nat.le_of_ble_eq_true rfl) (sp_X8_tells _) ?_
      exact zk_ireturn (pc := 81) dX8_sets_81 (Or.inl rfl) (zk_rm rfl rfl rfl)
    · rw [zm_lt (by omega)] at h31
      obtain ⟨z, rfl⟩ : ∃ z, k = z + 1 := ⟨k - 1, by omega⟩
      rw [nI_pred]
      refine zk_aload_n (pc := 34) 0 dX8_sets_34 rfl rfl ?_
      refine zk_iload (pc := 35) dX8_sets_35 rfl ?_
      refine zk_iload_n (pc := 37) 1 dX8_sets_37 rfl rfl ?_
      refine zk_iload_n (pc := 38) 2 dX8_sets_38 rfl rfl ?_
      refine zk_callVI (pc := 39) dX8_sets_39 mtX8_isSo lkX8_197 stX8_isSo (by rfl) (by rfl) [_, _, _] _ rfl rfl (Nat.le_of_ble_eq_true rfl) (Nat.le_of_ble_eq_true rfl) (sp_X8_isSo hC hC8 hM hM6 _ _ _) ?_
      refine zk_if_eq (pc := 42) 50 dX8_sets_42 (by decide) (fun h42 => ?_) (fun h42 => ?_)
      · rw [zb_e] at h42
        refine zk_iload_n (pc := 50) 3 dX8_sets_50 rfl rfl ?_
        refine zs_istore_n (pc := 51) (ls' := [_, _, _, _, _]) 3 dX8_sets_51 rfl (by decide) rfl ?_
        refine zs_iinc (pc := 52) (ls' := [_, _, _, _, _]) dX8_sets_52 rfl (show nI z + Int32.ofInt (-1) = nI z - 1 from by rw [Int32.sub_eq_add_neg]; rfl) (by decide) rfl ?_
        refine zk_goto (pc := 55) 29 dX8_sets_55 (by decide) ?_
        have e := ih z rfl (by omega)
        rw [show 2 ^ M - z = (2 ^ M - (z + 1)) + 1 by omega] at e
        first
          | (rw [zfst_f (decide_eq_false h42)] at e; exact e)
          | (rw [zfst_t (decide_eq_true h42)] at e; exact e)
      · rw [zb_n] at h42
        refine zk_iload (pc := 45) dX8_sets_45 rfl ?_
        refine zk_goto (pc := 47) 51 dX8_sets_47 (by decide) ?_
        refine zs_istore_n (pc := 51) (ls' := [_, _, _, _, _]) 3 dX8_sets_51 rfl (by decide) rfl ?_
        refine zs_iinc (pc := 52) (ls' := [_, _, _, _, _]) dX8_sets_52 rfl (show nI z + Int32.ofInt (-1) = nI z - 1 from by rw [Int32.sub_eq_add_neg]; rfl) (by decide) rfl ?_
        refine zk_goto (pc := 55) 29 dX8_sets_55 (by decide) ?_
        have e := ih z rfl (by omega)
        rw [show 2 ^ M - z = (2 ^ M - (z + 1)) + 1 by omega] at e
        first
          | (rw [zfst_f (decide_eq_false h42)] at e; exact e)
          | (rw [zfst_t (decide_eq_true h42)] at e; exact e)
  refine zk_aload_n (pc := 0) 0 dX8_sets_0 rfl rfl ?_
  refine zk_iload_n (pc := 1) 1 dX8_sets_1 rfl rfl ?_
  refine zk_iload_n (pc := 2) 2 dX8_sets_2 rfl rfl ?_
  refine zk_callVI (pc := 3) dX8_sets_3 mtX8_wrongSets lkX8_200 stX8_wrongSets (by rfl) (by rfl) [_, _] _ rfl rfl (Nat.le_of_ble_eq_true rfl) (Nat.le_of_ble_eq_true rfl) (sp_X8_wrongSets _ _) ?_
  refine zk_if_eq (pc := 6) 16 dX8_sets_6 (by decide) (fun h6 => ?_) (fun h6 => ?_)
  · skip
    refine zk_bipush (pc := 16) (v := -9) dX8_sets_16 (by decide) ?_
    refine zs_istore_n (pc := 18) (ls' := [_, _, _, _, _]) 3 dX8_sets_18 rfl (by decide) rfl ?_
    refine zk_iconst (pc := 19) (v := 1) dX8_sets_19 (by decide) ?_
    refine zk_aload_n (pc := 20) 0 dX8_sets_20 rfl rfl ?_
    refine zk_getI (pc := 21) dX8_sets_21 flX8_63 rfl rfl ?_
    refine zk_ishl (pc := 24) dX8_sets_24 ?_
    rw [hM, zshl (by omega)]
    refine zk_iconst (pc := 25) (v := 1) dX8_sets_25 (by decide) ?_
    refine zk_isub (pc := 26) dX8_sets_26 ?_
    refine zs_istore (pc := 27) (ls' := [_, _, _, _, _]) 4 dX8_sets_27 (by decide) rfl ?_
    have e := loop (2 ^ M) (Nat.le_refl _)
    rw [show 2 ^ M - 2 ^ M = 0 by omega] at e
    exact e
  · exact absurd hrf h6 --
def mSure (mu : Mem) (M : Nat) (v b : Int32) : Int32 × Mem := if mWth mu M v b 0 = 0 then (-3, fndD mu 4) else (zbt (fun i => decide (mWth mu M v b (1 <<< (nI i &&& 31)) = mWth mu M v b 0)) M, zk_up mu 46 6 (zbt (fun i => decide (mWth mu M v b (1 <<< (nI i &&& 31)) = 0)) M))
theorem sp_X8_sure {C M : Nat} (hC : mu 46 17 = nI C) (hC8 : C ≤ 8) (hM : mu 46 18 = nI M) (hM6 : M ≤ 6) {v b : Int32} (hrf : mrfS mu v b = 0) : zk_M (d + 4) RX8 cX8_sure 8 (some .int) none 0 (zk_loc [.ref 46, .int v, .int b] 8) [] mu lm (zk_R (some (.int (mSure mu M v b).1)) (mSure mu M v b).2 lm) := by
  have loop : ¬ mWth mu M v b 0 = 0 → ∀ k, k ≤ M → ∀ b7, zk_M (d + 4) RX8 cX8_sure 8 (some .int) none 44 [.ref 46, .int v, .int b, .int (mWth mu M v b 0), .int (zbt (fun i => decide (mWth mu M v b (1 <<< (nI i &&& 31)) = mWth mu M v b 0)) k), .int (zbt (fun i => decide (mWth mu M v b (1 <<< (nI i &&& 31)) = 0)) k), .int (nI k), b7] [] mu lm (zk_R (some (.int (mSure mu M v b).1)) (mSure mu M v b).2 lm) := by
    intro hn0
    refine zk_ind M (fun k hk ih => ?_)
    intro b7
    refine zk_iload (pc := 44) dX8_sure_44 rfl ?_
    refine zk_aload_n (pc := 46) 0 dX8_sure_46 rfl rfl ?_
    refine zk_getI (pc := 47) dX8_sure_47 flX8_63 rfl rfl ?_
    refine zk_icmp_ge (pc := 50) 109 dX8_sure_50 (by decide) (fun h50 => ?_) (fun h50 => ?_)
    · rw [hM, nIle (by omega) (by omega)] at h50
      refine zk_aload_n (pc := 109) 0 dX8_sure_109 rfl rfl ?_
      refine zk_iload (pc := 110) dX8_sure_110 rfl ?_
      refine zk_callVI (pc := 112) dX8_sure_112 mtX8_tells lkX8_81 stX8_tells (by rfl) (by rfl) [_] _ rfl rfl (Nat.le_of_ble_eq_true rfl) (Nat.le_of_ble_eq_true rfl) (sp_X8_tells _) ?_
      refine zk_pop (pc := 115) dX8_sure_115 rfl ?_
      refine zk_iload (pc := 116) dX8_sure_116 rfl ?_
      refine zk_ireturn (pc := 118) dX8_sure_118 (Or.inl rfl) (zk_pr ?_)
      obtain rfl : k = M := by omega
      unfold mSure
      rw [if_neg hn0]
    · rw [hM, nIle (by omega) (by omega)] at h50
      refine zk_aload_n (pc := 53) 0 dX8_sure_53 rfl rfl ?_
      refine zk_iload_n (pc := 54) 1 dX8_sure_54 rfl rfl ?_
      refine zk_iload_n (pc := 55) 2 dX8_sure_55 rfl rfl ?_
      refine zk_iconst (pc := 56) (v := 1) dX8_sure_56 (by decide) ?_
      refine zk_iload (pc := 57) dX8_sure_57 rfl ?_
      refine zk_ishl (pc := 59) dX8_sure_59 ?_
      refine zk_iconst (pc := 60) (v := 0) dX8_sure_60 (by decide) ?_
      refine zk_callVI (pc := 61) dX8_sure_61 mtX8_manyBy lkX8_203 stX8_manyBy (by rfl) (by rfl) [_, _, _, _] _ rfl rfl (Nat.le_of_ble_eq_true rfl) (Nat.le_of_ble_eq_true rfl) (sp_X8_manyBy hC hC8 hM hM6 _ _ _) ?_
      refine zs_istore (pc := 64) (ls' := [_, _, _, _, _, _, _, _]) 7 dX8_sure_64 (by decide) rfl ?_
      refine zk_iload (pc := 66) dX8_sure_66 rfl ?_
      refine zk_iload (pc := 68) dX8_sure_68 rfl ?_
      refine zk_iload_n (pc := 70) 3 dX8_sure_70 rfl rfl ?_
      refine zk_icmp_ne (pc := 71) 81 dX8_sure_71 (by decide) (fun h71 => ?_) (fun h71 => ?_)
      · skip
        refine zk_iconst (pc := 81) (v := 0) dX8_sure_81 (by decide) ?_
        refine zk_ior (pc := 82) dX8_sure_82 ?_
        refine zs_istore (pc := 83) (ls' := [_, _, _, _, _, _, _, _]) 4 dX8_sure_83 (by decide) rfl ?_
        refine zk_iload (pc := 85) dX8_sure_85 rfl ?_
        refine zk_iload (pc := 87) dX8_sure_87 rfl ?_
        refine zk_if_ne (pc := 89) 99 dX8_sure_89 (by decide) (fun h89 => ?_) (fun h89 => ?_)
        · skip
          refine zk_iconst (pc := 99) (v := 0) dX8_sure_99 (by decide) ?_
          refine zk_ior (pc := 100) dX8_sure_100 ?_
          refine zs_istore (pc := 101) (ls' := [_, _, _, _, _, _, _, _]) 5 dX8_sure_101 (by decide) rfl ?_
          refine zs_iinc (pc := 103) (ls' := [_, _, _, _, _, _, _, _]) dX8_sure_103 rfl (nI_1 k) (by decide) rfl ?_
          refine zk_goto (pc := 106) 44 dX8_sure_106 (by decide) ?_
          have e := ih (by omega) (.int (mWth mu M v b (1 <<< (nI k &&& 31))))
          rw [zbt_s, zbt_s] at e
          first
            | (rw [if_pos (decide_eq_true h71), if_pos (decide_eq_true h89)] at e; exact e)
            | (rw [if_pos (decide_eq_true h71), if_neg (fun z => h89 (of_decide_eq_true z))] at e; exact e)
            | (rw [if_neg (fun z => h71 (of_decide_eq_true z)), if_pos (decide_eq_true h89)] at e; exact e)
            | (rw [if_neg (fun z => h71 (of_decide_eq_true z)), if_neg (fun z => h89 (of_decide_eq_true z))] at e; exact e)
        · skip
          refine zk_iconst (pc := 92) (v := 1) dX8_sure_92 (by decide) ?_
          refine zk_iload (pc := 93) dX8_sure_93 rfl ?_
          refine zk_ishl (pc := 95) dX8_sure_95 ?_
          refine zk_goto (pc := 96) 100 dX8_sure_96 (by decide) ?_
          refine zk_ior (pc := 100) dX8_sure_100 ?_
          refine zs_istore (pc := 101) (ls' := [_, _, _, _, _, _, _, _]) 5 dX8_sure_101 (by decide) rfl ?_
          refine zs_iinc (pc := 103) (ls' := [_, _, _, _, _, _, _, _]) dX8_sure_103 rfl (nI_1 k) (by decide) rfl ?_
          refine zk_goto (pc := 106) 44 dX8_sure_106 (by decide) ?_
          have e := ih (by omega) (.int (mWth mu M v b (1 <<< (nI k &&& 31))))
          rw [zbt_s, zbt_s] at e
          first
            | (rw [if_pos (decide_eq_true h71), if_pos (decide_eq_true h89)] at e; exact e)
            | (rw [if_pos (decide_eq_true h71), if_neg (fun z => h89 (of_decide_eq_true z))] at e; exact e)
            | (rw [if_neg (fun z => h71 (of_decide_eq_true z)), if_pos (decide_eq_true h89)] at e; exact e)
            | (rw [if_neg (fun z => h71 (of_decide_eq_true z)), if_neg (fun z => h89 (of_decide_eq_true z))] at e; exact e)
      · skip
        refine zk_iconst (pc := 74) (v := 1) dX8_sure_74 (by decide) ?_
        refine zk_iload (pc := 75) dX8_sure_75 rfl ?_
        refine zk_ishl (pc := 77) dX8_sure_77 ?_
        refine zk_goto (pc := 78) 82 dX8_sure_78 (by decide) ?_
        refine zk_ior (pc := 82) dX8_sure_82 ?_
        refine zs_istore (pc := 83) (ls' := [_, _, _, _, _, _, _, _]) 4 dX8_sure_83 (by decide) rfl ?_
        refine zk_iload (pc := 85) dX8_sure_85 rfl ?_
        refine zk_iload (pc := 87) dX8_sure_87 rfl ?_
        refine zk_if_ne (pc := 89) 99 dX8_sure_89 (by decide) (fun h89 => ?_) (fun h89 => ?_)
        · skip
          refine zk_iconst (pc := 99) (v := 0) dX8_sure_99 (by decide) ?_
          refine zk_ior (pc := 100) dX8_sure_100 ?_
          refine zs_istore (pc := 101) (ls' := [_, _, _, _, _, _, _, _]) 5 dX8_sure_101 (by decide) rfl ?_
          refine zs_iinc (pc := 103) (ls' := [_, _, _, _, _, _, _, _]) dX8_sure_103 rfl (nI_1 k) (by decide) rfl ?_
          refine zk_goto (pc := 106) 44 dX8_sure_106 (by decide) ?_
          have e := ih (by omega) (.int (mWth mu M v b (1 <<< (nI k &&& 31))))
          rw [zbt_s, zbt_s] at e
          first
            | (rw [if_pos (decide_eq_true h71), if_pos (decide_eq_true h89)] at e; exact e)
            | (rw [if_pos (decide_eq_true h71), if_neg (fun z => h89 (of_decide_eq_true z))] at e; exact e)
            | (rw [if_neg (fun z => h71 (of_decide_eq_true z)), if_pos (decide_eq_true h89)] at e; exact e)
            | (rw [if_neg (fun z => h71 (of_decide_eq_true z)), if_neg (fun z => h89 (of_decide_eq_true z))] at e; exact e)
        · skip
          refine zk_iconst (pc := 92) (v := 1) dX8_sure_92 (by decide) ?_
          refine zk_iload (pc := 93) dX8_sure_93 rfl ?_
          refine zk_ishl (pc := 95) dX8_sure_95 ?_
          refine zk_goto (pc := 96) 100 dX8_sure_96 (by decide) ?_
          refine zk_ior (pc := 100) dX8_sure_100 ?_
          refine zs_istore (pc := 101) (ls' := [_, _, _, _, _, _, _, _]) 5 dX8_sure_101 (by decide) rfl ?_
          refine zs_iinc (pc := 103) (ls' := [_, _, _, _, _, _, _, _]) dX8_sure_103 rfl (nI_1 k) (by decide) rfl ?_
          refine zk_goto (pc := 106) 44 dX8_sure_106 (by decide) ?_
          have e := ih (by omega) (.int (mWth mu M v b (1 <<< (nI k &&& 31))))
          rw [zbt_s, zbt_s] at e
          first
            | (rw [if_pos (decide_eq_true h71), if_pos (decide_eq_true h89)] at e; exact e)
            | (rw [if_pos (decide_eq_true h71), if_neg (fun z => h89 (of_decide_eq_true z))] at e; exact e)
            | (rw [if_neg (fun z => h71 (of_decide_eq_true z)), if_pos (decide_eq_true h89)] at e; exact e)
            | (rw [if_neg (fun z => h71 (of_decide_eq_true z)), if_neg (fun z => h89 (of_decide_eq_true z))] at e; exact e)
  refine zk_aload_n (pc := 0) 0 dX8_sure_0 rfl rfl ?_
  refine zk_iload_n (pc := 1) 1 dX8_sure_1 rfl rfl ?_
  refine zk_iload_n (pc := 2) 2 dX8_sure_2 rfl rfl ?_
  refine zk_callVI (pc := 3) dX8_sure_3 mtX8_wrongSets lkX8_200 stX8_wrongSets (by rfl) (by rfl) [_, _] _ rfl rfl (Nat.le_of_ble_eq_true rfl) (Nat.le_of_ble_eq_true rfl) (sp_X8_wrongSets _ _) ?_
  refine zk_if_eq (pc := 6) 16 dX8_sure_6 (by decide) (fun h6 => ?_) (fun h6 => ?_)
  · skip
    refine zk_aload_n (pc := 16) 0 dX8_sure_16 rfl rfl ?_
    refine zk_iload_n (pc := 17) 1 dX8_sure_17 rfl rfl ?_
    refine zk_iload_n (pc := 18) 2 dX8_sure_18 rfl rfl ?_
    refine zk_iconst (pc := 19) (v := 0) dX8_sure_19 (by decide) ?_
    refine zk_iconst (pc := 20) (v := 0) dX8_sure_20 (by decide) ?_
    refine zk_callVI (pc := 21) dX8_sure_21 mtX8_manyBy lkX8_203 stX8_manyBy (by rfl) (by rfl) [_, _, _, _] _ rfl rfl (Nat.le_of_ble_eq_true rfl) (Nat.le_of_ble_eq_true rfl) (sp_X8_manyBy hC hC8 hM hM6 _ _ _) ?_
    refine zs_istore_n (pc := 24) (ls' := [_, _, _, _, _, _, _, _]) 3 dX8_sure_24 rfl (by decide) rfl ?_
    refine zk_iload_n (pc := 25) 3 dX8_sure_25 rfl rfl ?_
    refine zk_if_ne (pc := 26) 35 dX8_sure_26 (by decide) (fun h26 => ?_) (fun h26 => ?_)
    · skip
      refine zk_iconst (pc := 35) (v := 0) dX8_sure_35 (by decide) ?_
      refine zs_istore (pc := 36) (ls' := [_, _, _, _, _, _, _, _]) 4 dX8_sure_36 (by decide) rfl ?_
      refine zk_iconst (pc := 38) (v := 0) dX8_sure_38 (by decide) ?_
      refine zs_istore (pc := 39) (ls' := [_, _, _, _, _, _, _, _]) 5 dX8_sure_39 (by decide) rfl ?_
      refine zk_iconst (pc := 41) (v := 0) dX8_sure_41 (by decide) ?_
      refine zs_istore (pc := 42) (ls' := [_, _, _, _, _, _, _, _]) 6 dX8_sure_42 (by decide) rfl ?_
      exact loop h26 0 (Nat.zero_le _) _
    · skip
      refine zk_aload_n (pc := 29) 0 dX8_sure_29 rfl rfl ?_
      refine zk_iconst (pc := 30) (v := 4) dX8_sure_30 (by decide) ?_
      refine zk_callVI (pc := 31) dX8_sure_31 mtX8_finds lkX8_73 stX8_finds (by rfl) (by rfl) [_] _ rfl rfl (Nat.le_of_ble_eq_true rfl) (Nat.le_of_ble_eq_true rfl) (sp_X8_finds (f := 4) (by decide)) ?_
      refine zk_ireturn (pc := 34) dX8_sure_34 (Or.inl rfl) (zk_pr ?_)
      unfold mSure
      rw [if_pos h26]
  · exact absurd hrf h6 --
def askM (g : Nat → Int32) (all : Int32) : Nat → Int32 × Int32
  | 0 => (-9, 0)
  | k + 1 => if (askM g all k).1 = -9 ∨ zmax (g k) (all - g k) < (askM g all k).2 then (nI k, zmax (g k) (all - g k)) else askM g all k
theorem askM_s (g : Nat → Int32) (all : Int32) (k : Nat) : askM g all (k + 1) = if (askM g all k).1 = -9 ∨ zmax (g k) (all - g k) < (askM g all k).2 then (nI k, zmax (g k) (all - g k)) else askM g all k := rfl
theorem zmax_a {x y : Int32} : (x ≤ y → y = zmax x y) ∧ (¬ x ≤ y → x = zmax x y) := by
  unfold zmax
  constructor
  · intro h
    by_cases g : x < y
    · rw [if_pos g]
    · rw [if_neg g]; simp only [zeq, zlt, zle] at *; omega
  · intro h
    rw [if_neg (by simp only [zlt, zle] at *; omega)]
def mAsk (mu : Mem) (M : Nat) (v b : Int32) : Int32 × Mem := if mWth mu M v b 0 = 0 then (-3, fndD mu 4) else ((askM (fun i => mWth mu M v b (1 <<< (nI i &&& 31))) (mWth mu M v b 0) M).1, zk_up mu 46 6 (askM (fun i => mWth mu M v b (1 <<< (nI i &&& 31))) (mWth mu M v b 0) M).2)
theorem sp_X8_ask {C M : Nat} (hC : mu 46 17 = nI C) (hC8 : C ≤ 8) (hM : mu 46 18 = nI M) (hM6 : M ≤ 6) {v b : Int32} (hrf : mrfS mu v b = 0) : zk_M (d + 4) RX8 cX8_ask 10 (some .int) none 0 (zk_loc [.ref 46, .int v, .int b] 10) [] mu lm (zk_R (some (.int (mAsk mu M v b).1)) (mAsk mu M v b).2 lm) := by
  have loop : ¬ mWth mu M v b 0 = 0 → ∀ k, k ≤ M → ∀ b7 b8 b9, zk_M (d + 4) RX8 cX8_ask 10 (some .int) none 45 [.ref 46, .int v, .int b, .int (mWth mu M v b 0), .int (askM (fun i => mWth mu M v b (1 <<< (nI i &&& 31))) (mWth mu M v b 0) k).1, .int (askM (fun i => mWth mu M v b (1 <<< (nI i &&& 31))) (mWth mu M v b 0) k).2, .int (nI k), b7, b8, b9] [] mu lm (zk_R (some (.int (mAsk mu M v b).1)) (mAsk mu M v b).2 lm) := by
    intro hn0
    refine zk_ind M (fun k hk ih => ?_)
    intro b7 b8 b9
    refine zk_iload (pc := 45) dX8_ask_45 rfl ?_
    refine zk_aload_n (pc := 47) 0 dX8_ask_47 rfl rfl ?_
    refine zk_getI (pc := 48) dX8_ask_48 flX8_63 rfl rfl ?_
    refine zk_icmp_ge (pc := 51) 142 dX8_ask_51 (by decide) (fun h51 => ?_) (fun h51 => ?_)
    · rw [hM, nIle (by omega) (by omega)] at h51
      refine zk_aload_n (pc := 142) 0 dX8_ask_142 rfl rfl ?_
      refine zk_iload (pc := 143) dX8_ask_143 rfl ?_
      refine zk_callVI (pc := 145) dX8_ask_145 mtX8_tells lkX8_81 stX8_tells (by rfl) (by rfl) [_] _ rfl rfl (Nat.le_of_ble_eq_true rfl) (Nat.le_of_ble_eq_true rfl) (sp_X8_tells _) ?_
      refine zk_pop (pc := 148) dX8_ask_148 rfl ?_
      refine zk_iload (pc := 149) dX8_ask_149 rfl ?_
      refine zk_ireturn (pc := 151) dX8_ask_151 (Or.inl rfl) (zk_pr ?_)
      obtain rfl : k = M := by omega
      unfold mAsk
      rw [if_neg hn0]
    · rw [hM, nIle (by omega) (by omega)] at h51
      refine zk_aload_n (pc := 54) 0 dX8_ask_54 rfl rfl ?_
      refine zk_iload_n (pc := 55) 1 dX8_ask_55 rfl rfl ?_
      refine zk_iload_n (pc := 56) 2 dX8_ask_56 rfl rfl ?_
      refine zk_iconst (pc := 57) (v := 1) dX8_ask_57 (by decide) ?_
      refine zk_iload (pc := 58) dX8_ask_58 rfl ?_
      refine zk_ishl (pc := 60) dX8_ask_60 ?_
      refine zk_iconst (pc := 61) (v := 0) dX8_ask_61 (by decide) ?_
      refine zk_callVI (pc := 62) dX8_ask_62 mtX8_manyBy lkX8_203 stX8_manyBy (by rfl) (by rfl) [_, _, _, _] _ rfl rfl (Nat.le_of_ble_eq_true rfl) (Nat.le_of_ble_eq_true rfl) (sp_X8_manyBy hC hC8 hM hM6 _ _ _) ?_
      refine zs_istore (pc := 65) (ls' := [_, _, _, _, _, _, _, _, _, _]) 7 dX8_ask_65 (by decide) rfl ?_
      refine zk_iload (pc := 67) dX8_ask_67 rfl ?_
      refine zk_iload_n (pc := 69) 3 dX8_ask_69 rfl rfl ?_
      refine zk_iload (pc := 70) dX8_ask_70 rfl ?_
      refine zk_isub (pc := 72) dX8_ask_72 ?_
      refine zk_icmp_le (pc := 73) 81 dX8_ask_73 (by decide) (fun h73 => ?_) (fun h73 => ?_)
      · skip
        refine zk_iload_n (pc := 81) 3 dX8_ask_81 rfl rfl ?_
        refine zk_iload (pc := 82) dX8_ask_82 rfl ?_
        refine zk_isub (pc := 84) dX8_ask_84 ?_
        first | rw [zmax_a.1 h73] | rw [zmax_a.2 h73]
        refine zs_istore (pc := 85) (ls' := [_, _, _, _, _, _, _, _, _, _]) 8 dX8_ask_85 (by decide) rfl ?_
        refine zk_iload (pc := 87) dX8_ask_87 rfl ?_
        refine zk_bipush (pc := 89) (v := -9) dX8_ask_89 (by decide) ?_
        refine zk_icmp_eq (pc := 91) 101 dX8_ask_91 (by decide) (fun h91 => ?_) (fun h91 => ?_)
        · skip
          refine zk_iconst (pc := 101) (v := 1) dX8_ask_101 (by decide) ?_
          refine zk_goto (pc := 102) 106 dX8_ask_102 (by decide) ?_
          refine zs_istore (pc := 106) (ls' := [_, _, _, _, _, _, _, _, _, _]) 9 dX8_ask_106 (by decide) rfl ?_
          refine zk_iload (pc := 108) dX8_ask_108 rfl ?_
          refine zk_if_eq (pc := 110) 118 dX8_ask_110 (by decide) (fun h110 => ?_) (fun h110 => ?_)
          · exact absurd h110 (by decide) --
          · skip
            refine zk_iload (pc := 113) dX8_ask_113 rfl ?_
            refine zk_goto (pc := 115) 120 dX8_ask_115 (by decide) ?_
            refine zs_istore (pc := 120) (ls' := [_, _, _, _, _, _, _, _, _, _]) 4 dX8_ask_120 (by decide) rfl ?_
            refine zk_iload (pc := 122) dX8_ask_122 rfl ?_
            refine zk_if_eq (pc := 124) 132 dX8_ask_124 (by decide) (fun h124 => ?_) (fun h124 => ?_)
            · exact absurd h124 (by decide) --
            · skip
              refine zk_iload (pc := 127) dX8_ask_127 rfl ?_
              refine zk_goto (pc := 129) 134 dX8_ask_129 (by decide) ?_
              refine zs_istore (pc := 134) (ls' := [_, _, _, _, _, _, _, _, _, _]) 5 dX8_ask_134 (by decide) rfl ?_
              refine zs_iinc (pc := 136) (ls' := [_, _, _, _, _, _, _, _, _, _]) dX8_ask_136 rfl (nI_1 k) (by decide) rfl ?_
              refine zk_goto (pc := 139) 45 dX8_ask_139 (by decide) ?_
              first
                | (have hz : (askM (fun i => mWth mu M v b (1 <<< (nI i &&& 31))) (mWth mu M v b 0) k).1 = -9 ∨ zmax (mWth mu M v b (1 <<< (nI k &&& 31))) (mWth mu M v b 0 - mWth mu M v b (1 <<< (nI k &&& 31))) < (askM (fun i => mWth mu M v b (1 <<< (nI i &&& 31))) (mWth mu M v b 0) k).2 := Or.inl h91
                   have e := ih (by omega) (.int (mWth mu M v b (1 <<< (nI k &&& 31)))) (.int (zmax (mWth mu M v b (1 <<< (nI k &&& 31))) (mWth mu M v b 0 - mWth mu M v b (1 <<< (nI k &&& 31))))) (.int 1)
                   rw [askM_s, if_pos hz] at e; exact e)
                | (have hz : (askM (fun i => mWth mu M v b (1 <<< (nI i &&& 31))) (mWth mu M v b 0) k).1 = -9 ∨ zmax (mWth mu M v b (1 <<< (nI k &&& 31))) (mWth mu M v b 0 - mWth mu M v b (1 <<< (nI k &&& 31))) < (askM (fun i => mWth mu M v b (1 <<< (nI i &&& 31))) (mWth mu M v b 0) k).2 := Or.inr h98
                   have e := ih (by omega) (.int (mWth mu M v b (1 <<< (nI k &&& 31)))) (.int (zmax (mWth mu M v b (1 <<< (nI k &&& 31))) (mWth mu M v b 0 - mWth mu M v b (1 <<< (nI k &&& 31))))) (.int 1)
                   rw [askM_s, if_pos hz] at e; exact e)
                | (have hz : ¬ ((askM (fun i => mWth mu M v b (1 <<< (nI i &&& 31))) (mWth mu M v b 0) k).1 = -9 ∨ zmax (mWth mu M v b (1 <<< (nI k &&& 31))) (mWth mu M v b 0 - mWth mu M v b (1 <<< (nI k &&& 31))) < (askM (fun i => mWth mu M v b (1 <<< (nI i &&& 31))) (mWth mu M v b 0) k).2) := fun z => z.elim h91 h98
                   have e := ih (by omega) (.int (mWth mu M v b (1 <<< (nI k &&& 31)))) (.int (zmax (mWth mu M v b (1 <<< (nI k &&& 31))) (mWth mu M v b 0 - mWth mu M v b (1 <<< (nI k &&& 31))))) (.int 0)
                   rw [askM_s, if_neg hz] at e; exact e)
                | (have hz : (askM (fun i => mWth mu M v b (1 <<< (nI i &&& 31))) (mWth mu M v b 0) k).1 = -9 ∨ zmax (mWth mu M v b (1 <<< (nI k &&& 31))) (mWth mu M v b 0 - mWth mu M v b (1 <<< (nI k &&& 31))) < (askM (fun i => mWth mu M v b (1 <<< (nI i &&& 31))) (mWth mu M v b 0) k).2 := Or.inl h91
                   have e := ih (by omega) (.int (zmax (mWth mu M v b (1 <<< (nI k &&& 31))) (mWth mu M v b 0 - mWth mu M v b (1 <<< (nI k &&& 31))))) (.int (zmax (mWth mu M v b (1 <<< (nI k &&& 31))) (mWth mu M v b 0 - mWth mu M v b (1 <<< (nI k &&& 31))))) (.int 1)
                   rw [askM_s, if_pos hz] at e; exact e)
                | (have hz : (askM (fun i => mWth mu M v b (1 <<< (nI i &&& 31))) (mWth mu M v b 0) k).1 = -9 ∨ zmax (mWth mu M v b (1 <<< (nI k &&& 31))) (mWth mu M v b 0 - mWth mu M v b (1 <<< (nI k &&& 31))) < (askM (fun i => mWth mu M v b (1 <<< (nI i &&& 31))) (mWth mu M v b 0) k).2 := Or.inr h98
                   have e := ih (by omega) (.int (zmax (mWth mu M v b (1 <<< (nI k &&& 31))) (mWth mu M v b 0 - mWth mu M v b (1 <<< (nI k &&& 31))))) (.int (zmax (mWth mu M v b (1 <<< (nI k &&& 31))) (mWth mu M v b 0 - mWth mu M v b (1 <<< (nI k &&& 31))))) (.int 1)
                   rw [askM_s, if_pos hz] at e; exact e)
                | (have hz : ¬ ((askM (fun i => mWth mu M v b (1 <<< (nI i &&& 31))) (mWth mu M v b 0) k).1 = -9 ∨ zmax (mWth mu M v b (1 <<< (nI k &&& 31))) (mWth mu M v b 0 - mWth mu M v b (1 <<< (nI k &&& 31))) < (askM (fun i => mWth mu M v b (1 <<< (nI i &&& 31))) (mWth mu M v b 0) k).2) := fun z => z.elim h91 h98
                   have e := ih (by omega) (.int (zmax (mWth mu M v b (1 <<< (nI k &&& 31))) (mWth mu M v b 0 - mWth mu M v b (1 <<< (nI k &&& 31))))) (.int (zmax (mWth mu M v b (1 <<< (nI k &&& 31))) (mWth mu M v b 0 - mWth mu M v b (1 <<< (nI k &&& 31))))) (.int 0)
                   rw [askM_s, if_neg hz] at e; exact e)
        · skip
          refine zk_iload (pc := 94) dX8_ask_94 rfl ?_
          refine zk_iload (pc := 96) dX8_ask_96 rfl ?_
          refine zk_icmp_ge (pc := 98) 105 dX8_ask_98 (by decide) (fun h98 => ?_) (fun h98 => ?_)
          · rw [← znl] at h98
            refine zk_iconst (pc := 105) (v := 0) dX8_ask_105 (by decide) ?_
            refine zs_istore (pc := 106) (ls' := [_, _, _, _, _, _, _, _, _, _]) 9 dX8_ask_106 (by decide) rfl ?_
            refine zk_iload (pc := 108) dX8_ask_108 rfl ?_
            refine zk_if_eq (pc := 110) 118 dX8_ask_110 (by decide) (fun h110 => ?_) (fun h110 => ?_)
            · skip
              refine zk_iload (pc := 118) dX8_ask_118 rfl ?_
              refine zs_istore (pc := 120) (ls' := [_, _, _, _, _, _, _, _, _, _]) 4 dX8_ask_120 (by decide) rfl ?_
              refine zk_iload (pc := 122) dX8_ask_122 rfl ?_
              refine zk_if_eq (pc := 124) 132 dX8_ask_124 (by decide) (fun h124 => ?_) (fun h124 => ?_)
              · skip
                refine zk_iload (pc := 132) dX8_ask_132 rfl ?_
                refine zs_istore (pc := 134) (ls' := [_, _, _, _, _, _, _, _, _, _]) 5 dX8_ask_134 (by decide) rfl ?_
                refine zs_iinc (pc := 136) (ls' := [_, _, _, _, _, _, _, _, _, _]) dX8_ask_136 rfl (nI_1 k) (by decide) rfl ?_
                refine zk_goto (pc := 139) 45 dX8_ask_139 (by decide) ?_
                first
                  | (have hz : (askM (fun i => mWth mu M v b (1 <<< (nI i &&& 31))) (mWth mu M v b 0) k).1 = -9 ∨ zmax (mWth mu M v b (1 <<< (nI k &&& 31))) (mWth mu M v b 0 - mWth mu M v b (1 <<< (nI k &&& 31))) < (askM (fun i => mWth mu M v b (1 <<< (nI i &&& 31))) (mWth mu M v b 0) k).2 := Or.inl h91
                     have e := ih (by omega) (.int (mWth mu M v b (1 <<< (nI k &&& 31)))) (.int (zmax (mWth mu M v b (1 <<< (nI k &&& 31))) (mWth mu M v b 0 - mWth mu M v b (1 <<< (nI k &&& 31))))) (.int 1)
                     rw [askM_s, if_pos hz] at e; exact e)
                  | (have hz : (askM (fun i => mWth mu M v b (1 <<< (nI i &&& 31))) (mWth mu M v b 0) k).1 = -9 ∨ zmax (mWth mu M v b (1 <<< (nI k &&& 31))) (mWth mu M v b 0 - mWth mu M v b (1 <<< (nI k &&& 31))) < (askM (fun i => mWth mu M v b (1 <<< (nI i &&& 31))) (mWth mu M v b 0) k).2 := Or.inr h98
                     have e := ih (by omega) (.int (mWth mu M v b (1 <<< (nI k &&& 31)))) (.int (zmax (mWth mu M v b (1 <<< (nI k &&& 31))) (mWth mu M v b 0 - mWth mu M v b (1 <<< (nI k &&& 31))))) (.int 1)
                     rw [askM_s, if_pos hz] at e; exact e)
                  | (have hz : ¬ ((askM (fun i => mWth mu M v b (1 <<< (nI i &&& 31))) (mWth mu M v b 0) k).1 = -9 ∨ zmax (mWth mu M v b (1 <<< (nI k &&& 31))) (mWth mu M v b 0 - mWth mu M v b (1 <<< (nI k &&& 31))) < (askM (fun i => mWth mu M v b (1 <<< (nI i &&& 31))) (mWth mu M v b 0) k).2) := fun z => z.elim h91 h98
                     have e := ih (by omega) (.int (mWth mu M v b (1 <<< (nI k &&& 31)))) (.int (zmax (mWth mu M v b (1 <<< (nI k &&& 31))) (mWth mu M v b 0 - mWth mu M v b (1 <<< (nI k &&& 31))))) (.int 0)
                     rw [askM_s, if_neg hz] at e; exact e)
                  | (have hz : (askM (fun i => mWth mu M v b (1 <<< (nI i &&& 31))) (mWth mu M v b 0) k).1 = -9 ∨ zmax (mWth mu M v b (1 <<< (nI k &&& 31))) (mWth mu M v b 0 - mWth mu M v b (1 <<< (nI k &&& 31))) < (askM (fun i => mWth mu M v b (1 <<< (nI i &&& 31))) (mWth mu M v b 0) k).2 := Or.inl h91
                     have e := ih (by omega) (.int (zmax (mWth mu M v b (1 <<< (nI k &&& 31))) (mWth mu M v b 0 - mWth mu M v b (1 <<< (nI k &&& 31))))) (.int (zmax (mWth mu M v b (1 <<< (nI k &&& 31))) (mWth mu M v b 0 - mWth mu M v b (1 <<< (nI k &&& 31))))) (.int 1)
                     rw [askM_s, if_pos hz] at e; exact e)
                  | (have hz : (askM (fun i => mWth mu M v b (1 <<< (nI i &&& 31))) (mWth mu M v b 0) k).1 = -9 ∨ zmax (mWth mu M v b (1 <<< (nI k &&& 31))) (mWth mu M v b 0 - mWth mu M v b (1 <<< (nI k &&& 31))) < (askM (fun i => mWth mu M v b (1 <<< (nI i &&& 31))) (mWth mu M v b 0) k).2 := Or.inr h98
                     have e := ih (by omega) (.int (zmax (mWth mu M v b (1 <<< (nI k &&& 31))) (mWth mu M v b 0 - mWth mu M v b (1 <<< (nI k &&& 31))))) (.int (zmax (mWth mu M v b (1 <<< (nI k &&& 31))) (mWth mu M v b 0 - mWth mu M v b (1 <<< (nI k &&& 31))))) (.int 1)
                     rw [askM_s, if_pos hz] at e; exact e)
                  | (have hz : ¬ ((askM (fun i => mWth mu M v b (1 <<< (nI i &&& 31))) (mWth mu M v b 0) k).1 = -9 ∨ zmax (mWth mu M v b (1 <<< (nI k &&& 31))) (mWth mu M v b 0 - mWth mu M v b (1 <<< (nI k &&& 31))) < (askM (fun i => mWth mu M v b (1 <<< (nI i &&& 31))) (mWth mu M v b 0) k).2) := fun z => z.elim h91 h98
                     have e := ih (by omega) (.int (zmax (mWth mu M v b (1 <<< (nI k &&& 31))) (mWth mu M v b 0 - mWth mu M v b (1 <<< (nI k &&& 31))))) (.int (zmax (mWth mu M v b (1 <<< (nI k &&& 31))) (mWth mu M v b 0 - mWth mu M v b (1 <<< (nI k &&& 31))))) (.int 0)
                     rw [askM_s, if_neg hz] at e; exact e)
              · exact absurd rfl h124 --
            · exact absurd rfl h110 --
          · rw [← zltn] at h98
            refine zk_iconst (pc := 101) (v := 1) dX8_ask_101 (by decide) ?_
            refine zk_goto (pc := 102) 106 dX8_ask_102 (by decide) ?_
            refine zs_istore (pc := 106) (ls' := [_, _, _, _, _, _, _, _, _, _]) 9 dX8_ask_106 (by decide) rfl ?_
            refine zk_iload (pc := 108) dX8_ask_108 rfl ?_
            refine zk_if_eq (pc := 110) 118 dX8_ask_110 (by decide) (fun h110 => ?_) (fun h110 => ?_)
            · exact absurd h110 (by decide) --
            · skip
              refine zk_iload (pc := 113) dX8_ask_113 rfl ?_
              refine zk_goto (pc := 115) 120 dX8_ask_115 (by decide) ?_
              refine zs_istore (pc := 120) (ls' := [_, _, _, _, _, _, _, _, _, _]) 4 dX8_ask_120 (by decide) rfl ?_
              refine zk_iload (pc := 122) dX8_ask_122 rfl ?_
              refine zk_if_eq (pc := 124) 132 dX8_ask_124 (by decide) (fun h124 => ?_) (fun h124 => ?_)
              · exact absurd h124 (by decide) --
              · skip
                refine zk_iload (pc := 127) dX8_ask_127 rfl ?_
                refine zk_goto (pc := 129) 134 dX8_ask_129 (by decide) ?_
                refine zs_istore (pc := 134) (ls' := [_, _, _, _, _, _, _, _, _, _]) 5 dX8_ask_134 (by decide) rfl ?_
                refine zs_iinc (pc := 136) (ls' := [_, _, _, _, _, _, _, _, _, _]) dX8_ask_136 rfl (nI_1 k) (by decide) rfl ?_
                refine zk_goto (pc := 139) 45 dX8_ask_139 (by decide) ?_
                first
                  | (have hz : (askM (fun i => mWth mu M v b (1 <<< (nI i &&& 31))) (mWth mu M v b 0) k).1 = -9 ∨ zmax (mWth mu M v b (1 <<< (nI k &&& 31))) (mWth mu M v b 0 - mWth mu M v b (1 <<< (nI k &&& 31))) < (askM (fun i => mWth mu M v b (1 <<< (nI i &&& 31))) (mWth mu M v b 0) k).2 := Or.inl h91
                     have e := ih (by omega) (.int (mWth mu M v b (1 <<< (nI k &&& 31)))) (.int (zmax (mWth mu M v b (1 <<< (nI k &&& 31))) (mWth mu M v b 0 - mWth mu M v b (1 <<< (nI k &&& 31))))) (.int 1)
                     rw [askM_s, if_pos hz] at e; exact e)
                  | (have hz : (askM (fun i => mWth mu M v b (1 <<< (nI i &&& 31))) (mWth mu M v b 0) k).1 = -9 ∨ zmax (mWth mu M v b (1 <<< (nI k &&& 31))) (mWth mu M v b 0 - mWth mu M v b (1 <<< (nI k &&& 31))) < (askM (fun i => mWth mu M v b (1 <<< (nI i &&& 31))) (mWth mu M v b 0) k).2 := Or.inr h98
                     have e := ih (by omega) (.int (mWth mu M v b (1 <<< (nI k &&& 31)))) (.int (zmax (mWth mu M v b (1 <<< (nI k &&& 31))) (mWth mu M v b 0 - mWth mu M v b (1 <<< (nI k &&& 31))))) (.int 1)
                     rw [askM_s, if_pos hz] at e; exact e)
                  | (have hz : ¬ ((askM (fun i => mWth mu M v b (1 <<< (nI i &&& 31))) (mWth mu M v b 0) k).1 = -9 ∨ zmax (mWth mu M v b (1 <<< (nI k &&& 31))) (mWth mu M v b 0 - mWth mu M v b (1 <<< (nI k &&& 31))) < (askM (fun i => mWth mu M v b (1 <<< (nI i &&& 31))) (mWth mu M v b 0) k).2) := fun z => z.elim h91 h98
                     have e := ih (by omega) (.int (mWth mu M v b (1 <<< (nI k &&& 31)))) (.int (zmax (mWth mu M v b (1 <<< (nI k &&& 31))) (mWth mu M v b 0 - mWth mu M v b (1 <<< (nI k &&& 31))))) (.int 0)
                     rw [askM_s, if_neg hz] at e; exact e)
                  | (have hz : (askM (fun i => mWth mu M v b (1 <<< (nI i &&& 31))) (mWth mu M v b 0) k).1 = -9 ∨ zmax (mWth mu M v b (1 <<< (nI k &&& 31))) (mWth mu M v b 0 - mWth mu M v b (1 <<< (nI k &&& 31))) < (askM (fun i => mWth mu M v b (1 <<< (nI i &&& 31))) (mWth mu M v b 0) k).2 := Or.inl h91
                     have e := ih (by omega) (.int (zmax (mWth mu M v b (1 <<< (nI k &&& 31))) (mWth mu M v b 0 - mWth mu M v b (1 <<< (nI k &&& 31))))) (.int (zmax (mWth mu M v b (1 <<< (nI k &&& 31))) (mWth mu M v b 0 - mWth mu M v b (1 <<< (nI k &&& 31))))) (.int 1)
                     rw [askM_s, if_pos hz] at e; exact e)
                  | (have hz : (askM (fun i => mWth mu M v b (1 <<< (nI i &&& 31))) (mWth mu M v b 0) k).1 = -9 ∨ zmax (mWth mu M v b (1 <<< (nI k &&& 31))) (mWth mu M v b 0 - mWth mu M v b (1 <<< (nI k &&& 31))) < (askM (fun i => mWth mu M v b (1 <<< (nI i &&& 31))) (mWth mu M v b 0) k).2 := Or.inr h98
                     have e := ih (by omega) (.int (zmax (mWth mu M v b (1 <<< (nI k &&& 31))) (mWth mu M v b 0 - mWth mu M v b (1 <<< (nI k &&& 31))))) (.int (zmax (mWth mu M v b (1 <<< (nI k &&& 31))) (mWth mu M v b 0 - mWth mu M v b (1 <<< (nI k &&& 31))))) (.int 1)
                     rw [askM_s, if_pos hz] at e; exact e)
                  | (have hz : ¬ ((askM (fun i => mWth mu M v b (1 <<< (nI i &&& 31))) (mWth mu M v b 0) k).1 = -9 ∨ zmax (mWth mu M v b (1 <<< (nI k &&& 31))) (mWth mu M v b 0 - mWth mu M v b (1 <<< (nI k &&& 31))) < (askM (fun i => mWth mu M v b (1 <<< (nI i &&& 31))) (mWth mu M v b 0) k).2) := fun z => z.elim h91 h98
                     have e := ih (by omega) (.int (zmax (mWth mu M v b (1 <<< (nI k &&& 31))) (mWth mu M v b 0 - mWth mu M v b (1 <<< (nI k &&& 31))))) (.int (zmax (mWth mu M v b (1 <<< (nI k &&& 31))) (mWth mu M v b 0 - mWth mu M v b (1 <<< (nI k &&& 31))))) (.int 0)
                     rw [askM_s, if_neg hz] at e; exact e)
      · skip
        refine zk_iload (pc := 76) dX8_ask_76 rfl ?_
        refine zk_goto (pc := 78) 85 dX8_ask_78 (by decide) ?_
        first | rw [zmax_a.1 h73] | rw [zmax_a.2 h73]
        refine zs_istore (pc := 85) (ls' := [_, _, _, _, _, _, _, _, _, _]) 8 dX8_ask_85 (by decide) rfl ?_
        refine zk_iload (pc := 87) dX8_ask_87 rfl ?_
        refine zk_bipush (pc := 89) (v := -9) dX8_ask_89 (by decide) ?_
        refine zk_icmp_eq (pc := 91) 101 dX8_ask_91 (by decide) (fun h91 => ?_) (fun h91 => ?_)
        · skip
          refine zk_iconst (pc := 101) (v := 1) dX8_ask_101 (by decide) ?_
          refine zk_goto (pc := 102) 106 dX8_ask_102 (by decide) ?_
          refine zs_istore (pc := 106) (ls' := [_, _, _, _, _, _, _, _, _, _]) 9 dX8_ask_106 (by decide) rfl ?_
          refine zk_iload (pc := 108) dX8_ask_108 rfl ?_
          refine zk_if_eq (pc := 110) 118 dX8_ask_110 (by decide) (fun h110 => ?_) (fun h110 => ?_)
          · exact absurd h110 (by decide) --
          · skip
            refine zk_iload (pc := 113) dX8_ask_113 rfl ?_
            refine zk_goto (pc := 115) 120 dX8_ask_115 (by decide) ?_
            refine zs_istore (pc := 120) (ls' := [_, _, _, _, _, _, _, _, _, _]) 4 dX8_ask_120 (by decide) rfl ?_
            refine zk_iload (pc := 122) dX8_ask_122 rfl ?_
            refine zk_if_eq (pc := 124) 132 dX8_ask_124 (by decide) (fun h124 => ?_) (fun h124 => ?_)
            · exact absurd h124 (by decide) --
            · skip
              refine zk_iload (pc := 127) dX8_ask_127 rfl ?_
              refine zk_goto (pc := 129) 134 dX8_ask_129 (by decide) ?_
              refine zs_istore (pc := 134) (ls' := [_, _, _, _, _, _, _, _, _, _]) 5 dX8_ask_134 (by decide) rfl ?_
              refine zs_iinc (pc := 136) (ls' := [_, _, _, _, _, _, _, _, _, _]) dX8_ask_136 rfl (nI_1 k) (by decide) rfl ?_
              refine zk_goto (pc := 139) 45 dX8_ask_139 (by decide) ?_
              first
                | (have hz : (askM (fun i => mWth mu M v b (1 <<< (nI i &&& 31))) (mWth mu M v b 0) k).1 = -9 ∨ zmax (mWth mu M v b (1 <<< (nI k &&& 31))) (mWth mu M v b 0 - mWth mu M v b (1 <<< (nI k &&& 31))) < (askM (fun i => mWth mu M v b (1 <<< (nI i &&& 31))) (mWth mu M v b 0) k).2 := Or.inl h91
                   have e := ih (by omega) (.int (mWth mu M v b (1 <<< (nI k &&& 31)))) (.int (zmax (mWth mu M v b (1 <<< (nI k &&& 31))) (mWth mu M v b 0 - mWth mu M v b (1 <<< (nI k &&& 31))))) (.int 1)
                   rw [askM_s, if_pos hz] at e; exact e)
                | (have hz : (askM (fun i => mWth mu M v b (1 <<< (nI i &&& 31))) (mWth mu M v b 0) k).1 = -9 ∨ zmax (mWth mu M v b (1 <<< (nI k &&& 31))) (mWth mu M v b 0 - mWth mu M v b (1 <<< (nI k &&& 31))) < (askM (fun i => mWth mu M v b (1 <<< (nI i &&& 31))) (mWth mu M v b 0) k).2 := Or.inr h98
                   have e := ih (by omega) (.int (mWth mu M v b (1 <<< (nI k &&& 31)))) (.int (zmax (mWth mu M v b (1 <<< (nI k &&& 31))) (mWth mu M v b 0 - mWth mu M v b (1 <<< (nI k &&& 31))))) (.int 1)
                   rw [askM_s, if_pos hz] at e; exact e)
                | (have hz : ¬ ((askM (fun i => mWth mu M v b (1 <<< (nI i &&& 31))) (mWth mu M v b 0) k).1 = -9 ∨ zmax (mWth mu M v b (1 <<< (nI k &&& 31))) (mWth mu M v b 0 - mWth mu M v b (1 <<< (nI k &&& 31))) < (askM (fun i => mWth mu M v b (1 <<< (nI i &&& 31))) (mWth mu M v b 0) k).2) := fun z => z.elim h91 h98
                   have e := ih (by omega) (.int (mWth mu M v b (1 <<< (nI k &&& 31)))) (.int (zmax (mWth mu M v b (1 <<< (nI k &&& 31))) (mWth mu M v b 0 - mWth mu M v b (1 <<< (nI k &&& 31))))) (.int 0)
                   rw [askM_s, if_neg hz] at e; exact e)
                | (have hz : (askM (fun i => mWth mu M v b (1 <<< (nI i &&& 31))) (mWth mu M v b 0) k).1 = -9 ∨ zmax (mWth mu M v b (1 <<< (nI k &&& 31))) (mWth mu M v b 0 - mWth mu M v b (1 <<< (nI k &&& 31))) < (askM (fun i => mWth mu M v b (1 <<< (nI i &&& 31))) (mWth mu M v b 0) k).2 := Or.inl h91
                   have e := ih (by omega) (.int (zmax (mWth mu M v b (1 <<< (nI k &&& 31))) (mWth mu M v b 0 - mWth mu M v b (1 <<< (nI k &&& 31))))) (.int (zmax (mWth mu M v b (1 <<< (nI k &&& 31))) (mWth mu M v b 0 - mWth mu M v b (1 <<< (nI k &&& 31))))) (.int 1)
                   rw [askM_s, if_pos hz] at e; exact e)
                | (have hz : (askM (fun i => mWth mu M v b (1 <<< (nI i &&& 31))) (mWth mu M v b 0) k).1 = -9 ∨ zmax (mWth mu M v b (1 <<< (nI k &&& 31))) (mWth mu M v b 0 - mWth mu M v b (1 <<< (nI k &&& 31))) < (askM (fun i => mWth mu M v b (1 <<< (nI i &&& 31))) (mWth mu M v b 0) k).2 := Or.inr h98
                   have e := ih (by omega) (.int (zmax (mWth mu M v b (1 <<< (nI k &&& 31))) (mWth mu M v b 0 - mWth mu M v b (1 <<< (nI k &&& 31))))) (.int (zmax (mWth mu M v b (1 <<< (nI k &&& 31))) (mWth mu M v b 0 - mWth mu M v b (1 <<< (nI k &&& 31))))) (.int 1)
                   rw [askM_s, if_pos hz] at e; exact e)
                | (have hz : ¬ ((askM (fun i => mWth mu M v b (1 <<< (nI i &&& 31))) (mWth mu M v b 0) k).1 = -9 ∨ zmax (mWth mu M v b (1 <<< (nI k &&& 31))) (mWth mu M v b 0 - mWth mu M v b (1 <<< (nI k &&& 31))) < (askM (fun i => mWth mu M v b (1 <<< (nI i &&& 31))) (mWth mu M v b 0) k).2) := fun z => z.elim h91 h98
                   have e := ih (by omega) (.int (zmax (mWth mu M v b (1 <<< (nI k &&& 31))) (mWth mu M v b 0 - mWth mu M v b (1 <<< (nI k &&& 31))))) (.int (zmax (mWth mu M v b (1 <<< (nI k &&& 31))) (mWth mu M v b 0 - mWth mu M v b (1 <<< (nI k &&& 31))))) (.int 0)
                   rw [askM_s, if_neg hz] at e; exact e)
        · skip
          refine zk_iload (pc := 94) dX8_ask_94 rfl ?_
          refine zk_iload (pc := 96) dX8_ask_96 rfl ?_
          refine zk_icmp_ge (pc := 98) 105 dX8_ask_98 (by decide) (fun h98 => ?_) (fun h98 => ?_)
          · rw [← znl] at h98
            refine zk_iconst (pc := 105) (v := 0) dX8_ask_105 (by decide) ?_
            refine zs_istore (pc := 106) (ls' := [_, _, _, _, _, _, _, _, _, _]) 9 dX8_ask_106 (by decide) rfl ?_
            refine zk_iload (pc := 108) dX8_ask_108 rfl ?_
            refine zk_if_eq (pc := 110) 118 dX8_ask_110 (by decide) (fun h110 => ?_) (fun h110 => ?_)
            · skip
              refine zk_iload (pc := 118) dX8_ask_118 rfl ?_
              refine zs_istore (pc := 120) (ls' := [_, _, _, _, _, _, _, _, _, _]) 4 dX8_ask_120 (by decide) rfl ?_
              refine zk_iload (pc := 122) dX8_ask_122 rfl ?_
              refine zk_if_eq (pc := 124) 132 dX8_ask_124 (by decide) (fun h124 => ?_) (fun h124 => ?_)
              · skip
                refine zk_iload (pc := 132) dX8_ask_132 rfl ?_
                refine zs_istore (pc := 134) (ls' := [_, _, _, _, _, _, _, _, _, _]) 5 dX8_ask_134 (by decide) rfl ?_
                refine zs_iinc (pc := 136) (ls' := [_, _, _, _, _, _, _, _, _, _]) dX8_ask_136 rfl (nI_1 k) (by decide) rfl ?_
                refine zk_goto (pc := 139) 45 dX8_ask_139 (by decide) ?_
                first
                  | (have hz : (askM (fun i => mWth mu M v b (1 <<< (nI i &&& 31))) (mWth mu M v b 0) k).1 = -9 ∨ zmax (mWth mu M v b (1 <<< (nI k &&& 31))) (mWth mu M v b 0 - mWth mu M v b (1 <<< (nI k &&& 31))) < (askM (fun i => mWth mu M v b (1 <<< (nI i &&& 31))) (mWth mu M v b 0) k).2 := Or.inl h91
                     have e := ih (by omega) (.int (mWth mu M v b (1 <<< (nI k &&& 31)))) (.int (zmax (mWth mu M v b (1 <<< (nI k &&& 31))) (mWth mu M v b 0 - mWth mu M v b (1 <<< (nI k &&& 31))))) (.int 1)
                     rw [askM_s, if_pos hz] at e; exact e)
                  | (have hz : (askM (fun i => mWth mu M v b (1 <<< (nI i &&& 31))) (mWth mu M v b 0) k).1 = -9 ∨ zmax (mWth mu M v b (1 <<< (nI k &&& 31))) (mWth mu M v b 0 - mWth mu M v b (1 <<< (nI k &&& 31))) < (askM (fun i => mWth mu M v b (1 <<< (nI i &&& 31))) (mWth mu M v b 0) k).2 := Or.inr h98
                     have e := ih (by omega) (.int (mWth mu M v b (1 <<< (nI k &&& 31)))) (.int (zmax (mWth mu M v b (1 <<< (nI k &&& 31))) (mWth mu M v b 0 - mWth mu M v b (1 <<< (nI k &&& 31))))) (.int 1)
                     rw [askM_s, if_pos hz] at e; exact e)
                  | (have hz : ¬ ((askM (fun i => mWth mu M v b (1 <<< (nI i &&& 31))) (mWth mu M v b 0) k).1 = -9 ∨ zmax (mWth mu M v b (1 <<< (nI k &&& 31))) (mWth mu M v b 0 - mWth mu M v b (1 <<< (nI k &&& 31))) < (askM (fun i => mWth mu M v b (1 <<< (nI i &&& 31))) (mWth mu M v b 0) k).2) := fun z => z.elim h91 h98
                     have e := ih (by omega) (.int (mWth mu M v b (1 <<< (nI k &&& 31)))) (.int (zmax (mWth mu M v b (1 <<< (nI k &&& 31))) (mWth mu M v b 0 - mWth mu M v b (1 <<< (nI k &&& 31))))) (.int 0)
                     rw [askM_s, if_neg hz] at e; exact e)
                  | (have hz : (askM (fun i => mWth mu M v b (1 <<< (nI i &&& 31))) (mWth mu M v b 0) k).1 = -9 ∨ zmax (mWth mu M v b (1 <<< (nI k &&& 31))) (mWth mu M v b 0 - mWth mu M v b (1 <<< (nI k &&& 31))) < (askM (fun i => mWth mu M v b (1 <<< (nI i &&& 31))) (mWth mu M v b 0) k).2 := Or.inl h91
                     have e := ih (by omega) (.int (zmax (mWth mu M v b (1 <<< (nI k &&& 31))) (mWth mu M v b 0 - mWth mu M v b (1 <<< (nI k &&& 31))))) (.int (zmax (mWth mu M v b (1 <<< (nI k &&& 31))) (mWth mu M v b 0 - mWth mu M v b (1 <<< (nI k &&& 31))))) (.int 1)
                     rw [askM_s, if_pos hz] at e; exact e)
                  | (have hz : (askM (fun i => mWth mu M v b (1 <<< (nI i &&& 31))) (mWth mu M v b 0) k).1 = -9 ∨ zmax (mWth mu M v b (1 <<< (nI k &&& 31))) (mWth mu M v b 0 - mWth mu M v b (1 <<< (nI k &&& 31))) < (askM (fun i => mWth mu M v b (1 <<< (nI i &&& 31))) (mWth mu M v b 0) k).2 := Or.inr h98
                     have e := ih (by omega) (.int (zmax (mWth mu M v b (1 <<< (nI k &&& 31))) (mWth mu M v b 0 - mWth mu M v b (1 <<< (nI k &&& 31))))) (.int (zmax (mWth mu M v b (1 <<< (nI k &&& 31))) (mWth mu M v b 0 - mWth mu M v b (1 <<< (nI k &&& 31))))) (.int 1)
                     rw [askM_s, if_pos hz] at e; exact e)
                  | (have hz : ¬ ((askM (fun i => mWth mu M v b (1 <<< (nI i &&& 31))) (mWth mu M v b 0) k).1 = -9 ∨ zmax (mWth mu M v b (1 <<< (nI k &&& 31))) (mWth mu M v b 0 - mWth mu M v b (1 <<< (nI k &&& 31))) < (askM (fun i => mWth mu M v b (1 <<< (nI i &&& 31))) (mWth mu M v b 0) k).2) := fun z => z.elim h91 h98
                     have e := ih (by omega) (.int (zmax (mWth mu M v b (1 <<< (nI k &&& 31))) (mWth mu M v b 0 - mWth mu M v b (1 <<< (nI k &&& 31))))) (.int (zmax (mWth mu M v b (1 <<< (nI k &&& 31))) (mWth mu M v b 0 - mWth mu M v b (1 <<< (nI k &&& 31))))) (.int 0)
                     rw [askM_s, if_neg hz] at e; exact e)
              · exact absurd rfl h124 --
            · exact absurd rfl h110 --
          · rw [← zltn] at h98
            refine zk_iconst (pc := 101) (v := 1) dX8_ask_101 (by decide) ?_
            refine zk_goto (pc := 102) 106 dX8_ask_102 (by decide) ?_
            refine zs_istore (pc := 106) (ls' := [_, _, _, _, _, _, _, _, _, _]) 9 dX8_ask_106 (by decide) rfl ?_
            refine zk_iload (pc := 108) dX8_ask_108 rfl ?_
            refine zk_if_eq (pc := 110) 118 dX8_ask_110 (by decide) (fun h110 => ?_) (fun h110 => ?_)
            · exact absurd h110 (by decide) --
            · skip
              refine zk_iload (pc := 113) dX8_ask_113 rfl ?_
              refine zk_goto (pc := 115) 120 dX8_ask_115 (by decide) ?_
              refine zs_istore (pc := 120) (ls' := [_, _, _, _, _, _, _, _, _, _]) 4 dX8_ask_120 (by decide) rfl ?_
              refine zk_iload (pc := 122) dX8_ask_122 rfl ?_
              refine zk_if_eq (pc := 124) 132 dX8_ask_124 (by decide) (fun h124 => ?_) (fun h124 => ?_)
              · exact absurd h124 (by decide) --
              · skip
                refine zk_iload (pc := 127) dX8_ask_127 rfl ?_
                refine zk_goto (pc := 129) 134 dX8_ask_129 (by decide) ?_
                refine zs_istore (pc := 134) (ls' := [_, _, _, _, _, _, _, _, _, _]) 5 dX8_ask_134 (by decide) rfl ?_
                refine zs_iinc (pc := 136) (ls' := [_, _, _, _, _, _, _, _, _, _]) dX8_ask_136 rfl (nI_1 k) (by decide) rfl ?_
                refine zk_goto (pc := 139) 45 dX8_ask_139 (by decide) ?_
                first
                  | (have hz : (askM (fun i => mWth mu M v b (1 <<< (nI i &&& 31))) (mWth mu M v b 0) k).1 = -9 ∨ zmax (mWth mu M v b (1 <<< (nI k &&& 31))) (mWth mu M v b 0 - mWth mu M v b (1 <<< (nI k &&& 31))) < (askM (fun i => mWth mu M v b (1 <<< (nI i &&& 31))) (mWth mu M v b 0) k).2 := Or.inl h91
                     have e := ih (by omega) (.int (mWth mu M v b (1 <<< (nI k &&& 31)))) (.int (zmax (mWth mu M v b (1 <<< (nI k &&& 31))) (mWth mu M v b 0 - mWth mu M v b (1 <<< (nI k &&& 31))))) (.int 1)
                     rw [askM_s, if_pos hz] at e; exact e)
                  | (have hz : (askM (fun i => mWth mu M v b (1 <<< (nI i &&& 31))) (mWth mu M v b 0) k).1 = -9 ∨ zmax (mWth mu M v b (1 <<< (nI k &&& 31))) (mWth mu M v b 0 - mWth mu M v b (1 <<< (nI k &&& 31))) < (askM (fun i => mWth mu M v b (1 <<< (nI i &&& 31))) (mWth mu M v b 0) k).2 := Or.inr h98
                     have e := ih (by omega) (.int (mWth mu M v b (1 <<< (nI k &&& 31)))) (.int (zmax (mWth mu M v b (1 <<< (nI k &&& 31))) (mWth mu M v b 0 - mWth mu M v b (1 <<< (nI k &&& 31))))) (.int 1)
                     rw [askM_s, if_pos hz] at e; exact e)
                  | (have hz : ¬ ((askM (fun i => mWth mu M v b (1 <<< (nI i &&& 31))) (mWth mu M v b 0) k).1 = -9 ∨ zmax (mWth mu M v b (1 <<< (nI k &&& 31))) (mWth mu M v b 0 - mWth mu M v b (1 <<< (nI k &&& 31))) < (askM (fun i => mWth mu M v b (1 <<< (nI i &&& 31))) (mWth mu M v b 0) k).2) := fun z => z.elim h91 h98
                     have e := ih (by omega) (.int (mWth mu M v b (1 <<< (nI k &&& 31)))) (.int (zmax (mWth mu M v b (1 <<< (nI k &&& 31))) (mWth mu M v b 0 - mWth mu M v b (1 <<< (nI k &&& 31))))) (.int 0)
                     rw [askM_s, if_neg hz] at e; exact e)
                  | (have hz : (askM (fun i => mWth mu M v b (1 <<< (nI i &&& 31))) (mWth mu M v b 0) k).1 = -9 ∨ zmax (mWth mu M v b (1 <<< (nI k &&& 31))) (mWth mu M v b 0 - mWth mu M v b (1 <<< (nI k &&& 31))) < (askM (fun i => mWth mu M v b (1 <<< (nI i &&& 31))) (mWth mu M v b 0) k).2 := Or.inl h91
                     have e := ih (by omega) (.int (zmax (mWth mu M v b (1 <<< (nI k &&& 31))) (mWth mu M v b 0 - mWth mu M v b (1 <<< (nI k &&& 31))))) (.int (zmax (mWth mu M v b (1 <<< (nI k &&& 31))) (mWth mu M v b 0 - mWth mu M v b (1 <<< (nI k &&& 31))))) (.int 1)
                     rw [askM_s, if_pos hz] at e; exact e)
                  | (have hz : (askM (fun i => mWth mu M v b (1 <<< (nI i &&& 31))) (mWth mu M v b 0) k).1 = -9 ∨ zmax (mWth mu M v b (1 <<< (nI k &&& 31))) (mWth mu M v b 0 - mWth mu M v b (1 <<< (nI k &&& 31))) < (askM (fun i => mWth mu M v b (1 <<< (nI i &&& 31))) (mWth mu M v b 0) k).2 := Or.inr h98
                     have e := ih (by omega) (.int (zmax (mWth mu M v b (1 <<< (nI k &&& 31))) (mWth mu M v b 0 - mWth mu M v b (1 <<< (nI k &&& 31))))) (.int (zmax (mWth mu M v b (1 <<< (nI k &&& 31))) (mWth mu M v b 0 - mWth mu M v b (1 <<< (nI k &&& 31))))) (.int 1)
                     rw [askM_s, if_pos hz] at e; exact e)
                  | (have hz : ¬ ((askM (fun i => mWth mu M v b (1 <<< (nI i &&& 31))) (mWth mu M v b 0) k).1 = -9 ∨ zmax (mWth mu M v b (1 <<< (nI k &&& 31))) (mWth mu M v b 0 - mWth mu M v b (1 <<< (nI k &&& 31))) < (askM (fun i => mWth mu M v b (1 <<< (nI i &&& 31))) (mWth mu M v b 0) k).2) := fun z => z.elim h91 h98
                     have e := ih (by omega) (.int (zmax (mWth mu M v b (1 <<< (nI k &&& 31))) (mWth mu M v b 0 - mWth mu M v b (1 <<< (nI k &&& 31))))) (.int (zmax (mWth mu M v b (1 <<< (nI k &&& 31))) (mWth mu M v b 0 - mWth mu M v b (1 <<< (nI k &&& 31))))) (.int 0)
                     rw [askM_s, if_neg hz] at e; exact e)
  refine zk_aload_n (pc := 0) 0 dX8_ask_0 rfl rfl ?_
  refine zk_iload_n (pc := 1) 1 dX8_ask_1 rfl rfl ?_
  refine zk_iload_n (pc := 2) 2 dX8_ask_2 rfl rfl ?_
  refine zk_callVI (pc := 3) dX8_ask_3 mtX8_wrongSets lkX8_200 stX8_wrongSets (by rfl) (by rfl) [_, _] _ rfl rfl (Nat.le_of_ble_eq_true rfl) (Nat.le_of_ble_eq_true rfl) (sp_X8_wrongSets _ _) ?_
  refine zk_if_eq (pc := 6) 16 dX8_ask_6 (by decide) (fun h6 => ?_) (fun h6 => ?_)
  · skip
    refine zk_aload_n (pc := 16) 0 dX8_ask_16 rfl rfl ?_
    refine zk_iload_n (pc := 17) 1 dX8_ask_17 rfl rfl ?_
    refine zk_iload_n (pc := 18) 2 dX8_ask_18 rfl rfl ?_
    refine zk_iconst (pc := 19) (v := 0) dX8_ask_19 (by decide) ?_
    refine zk_iconst (pc := 20) (v := 0) dX8_ask_20 (by decide) ?_
    refine zk_callVI (pc := 21) dX8_ask_21 mtX8_manyBy lkX8_203 stX8_manyBy (by rfl) (by rfl) [_, _, _, _] _ rfl rfl (Nat.le_of_ble_eq_true rfl) (Nat.le_of_ble_eq_true rfl) (sp_X8_manyBy hC hC8 hM hM6 _ _ _) ?_
    refine zs_istore_n (pc := 24) (ls' := [_, _, _, _, _, _, _, _, _, _]) 3 dX8_ask_24 rfl (by decide) rfl ?_
    refine zk_iload_n (pc := 25) 3 dX8_ask_25 rfl rfl ?_
    refine zk_if_ne (pc := 26) 35 dX8_ask_26 (by decide) (fun h26 => ?_) (fun h26 => ?_)
    · skip
      refine zk_bipush (pc := 35) (v := -9) dX8_ask_35 (by decide) ?_
      refine zs_istore (pc := 37) (ls' := [_, _, _, _, _, _, _, _, _, _]) 4 dX8_ask_37 (by decide) rfl ?_
      refine zk_iconst (pc := 39) (v := 0) dX8_ask_39 (by decide) ?_
      refine zs_istore (pc := 40) (ls' := [_, _, _, _, _, _, _, _, _, _]) 5 dX8_ask_40 (by decide) rfl ?_
      refine zk_iconst (pc := 42) (v := 0) dX8_ask_42 (by decide) ?_
      refine zs_istore (pc := 43) (ls' := [_, _, _, _, _, _, _, _, _, _]) 6 dX8_ask_43 (by decide) rfl ?_
      exact loop h26 0 (Nat.zero_le _) _ _ _
    · skip
      refine zk_aload_n (pc := 29) 0 dX8_ask_29 rfl rfl ?_
      refine zk_iconst (pc := 30) (v := 4) dX8_ask_30 (by decide) ?_
      refine zk_callVI (pc := 31) dX8_ask_31 mtX8_finds lkX8_73 stX8_finds (by rfl) (by rfl) [_] _ rfl rfl (Nat.le_of_ble_eq_true rfl) (Nat.le_of_ble_eq_true rfl) (sp_X8_finds (f := 4) (by decide)) ?_
      refine zk_ireturn (pc := 34) dX8_ask_34 (Or.inl rfl) (zk_pr ?_)
      unfold mAsk
      rw [if_pos h26]
  · exact absurd hrf h6 --
end M50
