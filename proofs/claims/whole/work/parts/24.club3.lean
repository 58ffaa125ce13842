section M24
variable {d : Nat} {mu : Mem} {lm : MemL}
theorem sp_X0_join {M : Nat} (hM : mu 23 6 = nI M) (hM6 : M ≤ 6) (k : Int32) : zk_M d RX0 cX0_join 2 (none) none 0 (zk_loc [.ref 23, .int k] 2) [] mu lm (zk_R none (if M < 6 then zk_up (zk_up mu 24 M k) 23 6 (nI (M + 1)) else mu) lm) := by
  refine zk_aload_n (pc := 0) 0 dX0_join_0 rfl rfl ?_
  refine zk_getI (pc := 1) dX0_join_1 flX0_24 rfl rfl ?_
  refine zk_bipush (pc := 4) (v := 6) dX0_join_4 (by decide) ?_
  refine zk_icmp_ge (pc := 6) 29 dX0_join_6 (by decide) (fun h6 => ?_) (fun h6 => ?_)
  · rw [hM, show (6 : Int32) = nI 6 from rfl, nIle (by omega) (by omega)] at h6
    refine zk_return (pc := 29) dX0_join_29 rfl (zk_rv0 ?_ rfl)
    first | (rw [if_neg (by omega)]; done) | (rw [if_pos (by omega), zup_c _ _ _ (by decide), hM, nI_1])
  · rw [hM, show (6 : Int32) = nI 6 from rfl, nIle (by omega) (by omega)] at h6
    refine zk_aload_n (pc := 9) 0 dX0_join_9 rfl rfl ?_
    refine zk_getR (pc := 10) dX0_join_10 flX0_9 rfl rfl ?_
    refine zk_aload_n (pc := 13) 0 dX0_join_13 rfl rfl ?_
    refine zk_getI (pc := 14) dX0_join_14 flX0_24 rfl rfl ?_
    refine zk_iload_n (pc := 17) 1 dX0_join_17 rfl rfl ?_
    refine zk_iastore (pc := 18) M dX0_join_18 rfl hM (by omega) ?_
    refine zk_aload_n (pc := 19) 0 dX0_join_19 rfl rfl ?_
    refine zk_dup (pc := 20) dX0_join_20 rfl ?_
    refine zk_getI (pc := 21) dX0_join_21 flX0_24 rfl rfl ?_
    refine zk_iconst (pc := 24) (v := 1) dX0_join_24 (by decide) ?_
    refine zk_iadd (pc := 25) dX0_join_25 ?_
    refine zk_putI (pc := 26) dX0_join_26 flX0_24 rfl rfl ?_
    refine zk_return (pc := 29) dX0_join_29 rfl (zk_rv0 ?_ rfl)
    first | (rw [if_neg (by omega)]; done) | (rw [if_pos (by omega), zup_c _ _ _ (by decide), hM, nI_1])
theorem sp_X0_seat {M : Nat} (hM : mu 23 6 = nI M) (hM6 : M ≤ 6) (c : Int32) : zk_M (d + 1) RX0 cX0_seat 2 (none) none 0 (zk_loc [.ref 23, .int c] 2) [] mu lm (zk_R none (if 0 < M ∧ 0 ≤ c ∧ c < mu 23 5 then zk_up mu 25 (M - 1) c else mu) lm) := by
  refine zk_aload_n (pc := 0) 0 dX0_seat_0 rfl rfl ?_
  refine zk_getI (pc := 1) dX0_seat_1 flX0_24 rfl rfl ?_
  refine zk_if_le (pc := 4) 27 dX0_seat_4 (by decide) (fun h4 => ?_) (fun h4 => ?_)
  · rw [hM, show (0 : Int32) = nI 0 from rfl, nIle (by omega) (by omega)] at h4
    refine zk_return (pc := 27) dX0_seat_27 rfl (zk_rv0 ?_ rfl)
    first | (rw [if_neg (fun q => by omega)]; done) | (rw [if_neg (fun q => h12 q.2)]; done) | (rw [if_pos ⟨by omega, h12⟩])
  · rw [hM, show (0 : Int32) = nI 0 from rfl, nIle (by omega) (by omega)] at h4
    refine zk_aload_n (pc := 7) 0 dX0_seat_7 rfl rfl ?_
    refine zk_iload_n (pc := 8) 1 dX0_seat_8 rfl rfl ?_
    refine zk_callVI (pc := 9) dX0_seat_9 mtX0_hasCell lkX0_31 stX0_hasCell (by rfl) (by rfl) [_] _ rfl rfl (Nat.le_of_ble_eq_true rfl) (Nat.le_of_ble_eq_true rfl) (sp_X0_hasCell _) ?_
    refine zk_if_eq (pc := 12) 27 dX0_seat_12 (by decide) (fun h12 => ?_) (fun h12 => ?_)
    · rw [zb_e] at h12
      refine zk_return (pc := 27) dX0_seat_27 rfl (zk_rv0 ?_ rfl)
      first | (rw [if_neg (fun q => by omega)]; done) | (rw [if_neg (fun q => h12 q.2)]; done) | (rw [if_pos ⟨by omega, h12⟩])
    · rw [zb_n] at h12
      refine zk_aload_n (pc := 15) 0 dX0_seat_15 rfl rfl ?_
      refine zk_getR (pc := 16) dX0_seat_16 flX0_15 rfl rfl ?_
      refine zk_aload_n (pc := 19) 0 dX0_seat_19 rfl rfl ?_
      refine zk_getI (pc := 20) dX0_seat_20 flX0_24 rfl rfl ?_
      refine zk_iconst (pc := 23) (v := 1) dX0_seat_23 (by decide) ?_
      refine zk_isub (pc := 24) dX0_seat_24 ?_
      refine zk_iload_n (pc := 25) 1 dX0_seat_25 rfl rfl ?_
      refine zk_iastore (pc := 26) (M - 1) dX0_seat_26 rfl (by rw [hM, show M = (M - 1) + 1 by omega]; exact nI_pred (M - 1)) (by omega) ?_
      refine zk_return (pc := 27) dX0_seat_27 rfl (zk_rv0 ?_ rfl)
      first | (rw [if_neg (fun q => by omega)]; done) | (rw [if_neg (fun q => h12 q.2)]; done) | (rw [if_pos ⟨by omega, h12⟩])
/-- the air and all counts are new -/
def frshM (mu : Mem) : Mem := zfill (zfill (zk_up (zk_up (zk_up mu 23 7 0) 23 8 0) 23 9 0) 26 6 0) 27 8 0
theorem sp_X0_freshen  : zk_M d RX0 cX0_freshen 2 (none) none 0 (zk_loc [.ref 23] 2) [] mu lm (zk_R none (frshM mu) lm) := by
  have loop2 : ∀ nu : Mem, ∀ k, k ≤ 8 → zk_M d RX0 cX0_freshen 2 (none) none 38 [.ref 23, .int (nI k)] [] (zfill nu 27 k 0) lm (zk_R none (zfill nu 27 8 0) lm) := by
    intro nu
    refine zk_ind 8 (fun k hk ih => ?_)
    refine zk_iload_n (pc := 38) 1 dX0_freshen_38 rfl rfl ?_
    refine zk_bipush (pc := 39) (v := 8) dX0_freshen_39 (by decide) ?_
    refine zk_icmp_ge (pc := 41) 57 dX0_freshen_41 (by decide) (fun h41 => ?_) (fun h41 => ?_)
    · rw [show (8 : Int32) = nI 8 from rfl, nIle (by omega) (by omega)] at h41
      refine zk_return (pc := 57) dX0_freshen_57 rfl (zk_rv0 ?_ rfl)
      rw [show k = 8 by omega]
    · rw [show (8 : Int32) = nI 8 from rfl, nIle (by omega) (by omega)] at h41
      refine zk_aload_n (pc := 44) 0 dX0_freshen_44 rfl rfl ?_
      refine zk_getR (pc := 45) dX0_freshen_45 flX0_21 rfl rfl ?_
      refine zk_iload_n (pc := 48) 1 dX0_freshen_48 rfl rfl ?_
      refine zk_iconst (pc := 49) (v := 0) dX0_freshen_49 (by decide) ?_
      refine zk_iastore (pc := 50) k dX0_freshen_50 rfl rfl (by omega) ?_
      refine zs_iinc (pc := 51) (ls' := [_, _]) dX0_freshen_51 rfl (nI_1 k) (by decide) rfl ?_
      refine zk_goto (pc := 54) 38 dX0_freshen_54 (by decide) ?_
      have e := ih (by omega)
      rw [← zfill_s] at e
      exact e
  have loop1 : ∀ nu : Mem, ∀ k, k ≤ 6 → zk_M d RX0 cX0_freshen 2 (none) none 17 [.ref 23, .int (nI k)] [] (zfill nu 26 k 0) lm (zk_R none (zfill (zfill nu 26 6 0) 27 8 0) lm) := by
    intro nu
    refine zk_ind 6 (fun k hk ih => ?_)
    refine zk_iload_n (pc := 17) 1 dX0_freshen_17 rfl rfl ?_
    refine zk_bipush (pc := 18) (v := 6) dX0_freshen_18 (by decide) ?_
    refine zk_icmp_ge (pc := 20) 36 dX0_freshen_20 (by decide) (fun h20 => ?_) (fun h20 => ?_)
    · rw [show (6 : Int32) = nI 6 from rfl, nIle (by omega) (by omega)] at h20
      refine zk_iconst (pc := 36) (v := 0) dX0_freshen_36 (by decide) ?_
      refine zs_istore_n (pc := 37) (ls' := [_, _]) 1 dX0_freshen_37 rfl (by decide) rfl ?_
      rw [show k = 6 by omega]
      have e := loop2 (zfill nu 26 6 0) 0 (by omega)
      rw [zfill_0] at e
      exact e
    · rw [show (6 : Int32) = nI 6 from rfl, nIle (by omega) (by omega)] at h20
      refine zk_aload_n (pc := 23) 0 dX0_freshen_23 rfl rfl ?_
      refine zk_getR (pc := 24) dX0_freshen_24 flX0_18 rfl rfl ?_
      refine zk_iload_n (pc := 27) 1 dX0_freshen_27 rfl rfl ?_
      refine zk_iconst (pc := 28) (v := 0) dX0_freshen_28 (by decide) ?_
      refine zk_iastore (pc := 29) k dX0_freshen_29 rfl rfl (by omega) ?_
      refine zs_iinc (pc := 30) (ls' := [_, _]) dX0_freshen_30 rfl (nI_1 k) (by decide) rfl ?_
      refine zk_goto (pc := 33) 17 dX0_freshen_33 (by decide) ?_
      have e := ih (by omega)
      rw [← zfill_s] at e
      exact e
  have e0 := loop1 (zk_up (zk_up (zk_up mu 23 7 0) 23 8 0) 23 9 0) 0 (by omega)
  rw [zfill_0] at e0
  refine zk_aload_n (pc := 0) 0 dX0_freshen_0 rfl rfl ?_
  refine zk_iconst (pc := 1) (v := 0) dX0_freshen_1 (by decide) ?_
  refine zk_putI (pc := 2) dX0_freshen_2 flX0_35 rfl rfl ?_
  refine zk_aload_n (pc := 5) 0 dX0_freshen_5 rfl rfl ?_
  refine zk_iconst (pc := 6) (v := 0) dX0_freshen_6 (by decide) ?_
  refine zk_putI (pc := 7) dX0_freshen_7 flX0_38 rfl rfl ?_
  refine zk_aload_n (pc := 10) 0 dX0_freshen_10 rfl rfl ?_
  refine zk_iconst (pc := 11) (v := 0) dX0_freshen_11 (by decide) ?_
  refine zk_putI (pc := 12) dX0_freshen_12 flX0_41 rfl rfl ?_
  refine zk_iconst (pc := 15) (v := 0) dX0_freshen_15 (by decide) ?_
  refine zs_istore_n (pc := 16) (ls' := [_, _]) 1 dX0_freshen_16 rfl (by decide) rfl ?_
  exact e0
theorem sp_X0_smokeOutside {C : Nat} (hC : mu 23 5 = nI C) (hn : C ≤ 8) (o : Int32) : zk_M d RX0 cX0_smokeOutside 4 (some .int) none 0 (zk_loc [.ref 23, .int o] 4) [] mu lm (zk_R (some (.int (zsum C (fun k => if (o >>> (nI k &&& 31)) &&& 1 = 0 then mu 27 k else 0)))) mu lm) := by
  have loop : ∀ k, k ≤ C → zk_M d RX0 cX0_smokeOutside 4 (some .int) none 4 [.ref 23, .int o, .int (zsum k (fun k => if (o >>> (nI k &&& 31)) &&& 1 = 0 then mu 27 k else 0)), .int (nI k)] [] mu lm (zk_R (some (.int (zsum C (fun k => if (o >>> (nI k &&& 31)) &&& 1 = 0 then mu 27 k else 0)))) mu lm) := by
    refine zk_ind C (fun k hk ih => ?_)
    refine zk_iload_n (pc := 4) 3 dX0_smokeOutside_4 rfl rfl ?_
    refine zk_aload_n (pc := 5) 0 dX0_smokeOutside_5 rfl rfl ?_
    refine zk_getI (pc := 6) dX0_smokeOutside_6 flX0_28 rfl rfl ?_
    refine zk_icmp_ge (pc := 9) 39 dX0_smokeOutside_9 (by decide) (fun h9 => ?_) (fun h9 => ?_)
    · rw [hC, nIle (by omega) (by omega)] at h9
      refine zk_iload_n (pc := 39) 2 dX0_smokeOutside_39 rfl rfl ?_
      refine zk_ireturn (pc := 40) dX0_smokeOutside_40 (Or.inl rfl) (zk_ri ?_)
      rw [show k = C by omega]
    · rw [hC, nIle (by omega) (by omega)] at h9
      refine zk_iload_n (pc := 12) 2 dX0_smokeOutside_12 rfl rfl ?_
      refine zk_iload_n (pc := 13) 1 dX0_smokeOutside_13 rfl rfl ?_
      refine zk_iload_n (pc := 14) 3 dX0_smokeOutside_14 rfl rfl ?_
      refine zk_ishr (pc := 15) dX0_smokeOutside_15 ?_
      refine zk_iconst (pc := 16) (v := 1) dX0_smokeOutside_16 (by decide) ?_
      refine zk_iand (pc := 17) dX0_smokeOutside_17 ?_
      refine zk_if_ne (pc := 18) 30 dX0_smokeOutside_18 (by decide) (fun h18 => ?_) (fun h18 => ?_)
      · skip
        refine zk_iconst (pc := 30) (v := 0) dX0_smokeOutside_30 (by decide) ?_
        refine zk_iadd (pc := 31) dX0_smokeOutside_31 ?_
        refine zs_istore_n (pc := 32) (ls' := [_, _, _, _]) 2 dX0_smokeOutside_32 rfl (by decide) rfl ?_
        refine zs_iinc (pc := 33) (ls' := [_, _, _, _]) dX0_smokeOutside_33 rfl (nI_1 k) (by decide) rfl ?_
        refine zk_goto (pc := 36) 4 dX0_smokeOutside_36 (by decide) ?_
        have e := ih (by omega)
        rw [zsum_s] at e
        first | (rw [if_pos h18] at e; exact e) | (rw [if_neg h18] at e; exact e)
      · skip
        refine zk_aload_n (pc := 21) 0 dX0_smokeOutside_21 rfl rfl ?_
        refine zk_getR (pc := 22) dX0_smokeOutside_22 flX0_21 rfl rfl ?_
        refine zk_iload_n (pc := 25) 3 dX0_smokeOutside_25 rfl rfl ?_
        refine zk_iaload (pc := 26) k dX0_smokeOutside_26 rfl rfl (by omega) ?_
        refine zk_goto (pc := 27) 31 dX0_smokeOutside_27 (by decide) ?_
        refine zk_iadd (pc := 31) dX0_smokeOutside_31 ?_
        refine zs_istore_n (pc := 32) (ls' := [_, _, _, _]) 2 dX0_smokeOutside_32 rfl (by decide) rfl ?_
        refine zs_iinc (pc := 33) (ls' := [_, _, _, _]) dX0_smokeOutside_33 rfl (nI_1 k) (by decide) rfl ?_
        refine zk_goto (pc := 36) 4 dX0_smokeOutside_36 (by decide) ?_
        have e := ih (by omega)
        rw [zsum_s] at e
        first | (rw [if_pos h18] at e; exact e) | (rw [if_neg h18] at e; exact e)
  refine zk_iconst (pc := 0) (v := 0) dX0_smokeOutside_0 (by decide) ?_
  refine zs_istore_n (pc := 1) (ls' := [_, _, _, _]) 2 dX0_smokeOutside_1 rfl (by decide) rfl ?_
  refine zk_iconst (pc := 2) (v := 0) dX0_smokeOutside_2 (by decide) ?_
  refine zs_istore_n (pc := 3) (ls' := [_, _, _, _]) 3 dX0_smokeOutside_3 rfl (by decide) rfl ?_
  exact loop 0 (by omega)
theorem sp_X0_othersWithoutBreath {M : Nat} (hM : mu 23 6 = nI M) (hn : M ≤ 6) (i v : Int32) : zk_M (d + 3) RX0 cX0_othersWithoutBreath 5 (some .int) none 0 (zk_loc [.ref 23, .int i, .int v] 5) [] mu lm (zk_R (some (.int (zsum M (fun k => zb (¬ nI k = i ∧ v - kSay (mu 24 k) v = 0))))) mu lm) := by
  have loop : ∀ k, k ≤ M → zk_M (d + 3) RX0 cX0_othersWithoutBreath 5 (some .int) none 5 [.ref 23, .int i, .int v, .int (zsum k (fun k => zb (¬ nI k = i ∧ v - kSay (mu 24 k) v = 0))), .int (nI k)] [] mu lm (zk_R (some (.int (zsum M (fun k => zb (¬ nI k = i ∧ v - kSay (mu 24 k) v = 0))))) mu lm) := by
    refine zk_ind M (fun k hk ih => ?_)
    refine zk_iload (pc := 5) dX0_othersWithoutBreath_5 rfl ?_
    refine zk_aload_n (pc := 7) 0 dX0_othersWithoutBreath_7 rfl rfl ?_
    refine zk_getI (pc := 8) dX0_othersWithoutBreath_8 flX0_24 rfl rfl ?_
    refine zk_icmp_ge (pc := 11) 48 dX0_othersWithoutBreath_11 (by decide) (fun h11 => ?_) (fun h11 => ?_)
    · rw [hM, nIle (by omega) (by omega)] at h11
      refine zk_iload_n (pc := 48) 3 dX0_othersWithoutBreath_48 rfl rfl ?_
      refine zk_ireturn (pc := 49) dX0_othersWithoutBreath_49 (Or.inl rfl) (zk_ri ?_)
      rw [show k = M by omega]
    · rw [hM, nIle (by omega) (by omega)] at h11
      refine zk_iload_n (pc := 14) 3 dX0_othersWithoutBreath_14 rfl rfl ?_
      refine zk_iload (pc := 15) dX0_othersWithoutBreath_15 rfl ?_
      refine zk_iload_n (pc := 17) 1 dX0_othersWithoutBreath_17 rfl rfl ?_
      refine zk_icmp_eq (pc := 18) 39 dX0_othersWithoutBreath_18 (by decide) (fun h18 => ?_) (fun h18 => ?_)
      · skip
        refine zk_iconst (pc := 39) (v := 0) dX0_othersWithoutBreath_39 (by decide) ?_
        refine zk_iadd (pc := 40) dX0_othersWithoutBreath_40 ?_
        refine zs_istore_n (pc := 41) (ls' := [_, _, _, _, _]) 3 dX0_othersWithoutBreath_41 rfl (by decide) rfl ?_
        refine zs_iinc (pc := 42) (ls' := [_, _, _, _, _]) dX0_othersWithoutBreath_42 rfl (nI_1 k) (by decide) rfl ?_
        refine zk_goto (pc := 45) 5 dX0_othersWithoutBreath_45 (by decide) ?_
        have e := ih (by omega)
        rw [zsum_s] at e
        first
          | (have hv : zb (¬ nI k = i ∧ v - kSay (mu 24 k) v = 0) = 0 := by first | exact zb_f (fun q => q.1 h18) | exact zb_f (fun q => h32 q.2)
             rw [hv] at e
             exact e)
          | (have hv : zb (¬ nI k = i ∧ v - kSay (mu 24 k) v = 0) = 1 := by first | exact zb_t (⟨h18, h32⟩)
             rw [hv] at e
             exact e)
      · skip
        refine zk_aload_n (pc := 21) 0 dX0_othersWithoutBreath_21 rfl rfl ?_
        refine zk_getR (pc := 22) dX0_othersWithoutBreath_22 flX0_9 rfl rfl ?_
        refine zk_iload (pc := 25) dX0_othersWithoutBreath_25 rfl ?_
        refine zk_iaload (pc := 27) k dX0_othersWithoutBreath_27 rfl rfl (by omega) ?_
        refine zk_iload_n (pc := 28) 2 dX0_othersWithoutBreath_28 rfl rfl ?_
        refine zk_callSI (pc := 29) dX0_othersWithoutBreath_29 mtX2_breathed lkX0_44 stX2_breathed [_, _] _ rfl rfl (Nat.le_of_ble_eq_true rfl) (Nat.le_of_ble_eq_true rfl) (sp_X2_breathed _ _) ?_
        refine zk_if_ne (pc := 32) 39 dX0_othersWithoutBreath_32 (by decide) (fun h32 => ?_) (fun h32 => ?_)
        · skip
          refine zk_iconst (pc := 39) (v := 0) dX0_othersWithoutBreath_39 (by decide) ?_
          refine zk_iadd (pc := 40) dX0_othersWithoutBreath_40 ?_
          refine zs_istore_n (pc := 41) (ls' := [_, _, _, _, _]) 3 dX0_othersWithoutBreath_41 rfl (by decide) rfl ?_
          refine zs_iinc (pc := 42) (ls' := [_, _, _, _, _]) dX0_othersWithoutBreath_42 rfl (nI_1 k) (by decide) rfl ?_
          refine zk_goto (pc := 45) 5 dX0_othersWithoutBreath_45 (by decide) ?_
          have e := ih (by omega)
          rw [zsum_s] at e
          first
            | (have hv : zb (¬ nI k = i ∧ v - kSay (mu 24 k) v = 0) = 0 := by first | exact zb_f (fun q => q.1 h18) | exact zb_f (fun q => h32 q.2)
               rw [hv] at e
               exact e)
            | (have hv : zb (¬ nI k = i ∧ v - kSay (mu 24 k) v = 0) = 1 := by first | exact zb_t (⟨h18, h32⟩)
               rw [hv] at e
               exact e)
        · skip
          refine zk_iconst (pc := 35) (v := 1) dX0_othersWithoutBreath_35 (by decide) ?_
          refine zk_goto (pc := 36) 40 dX0_othersWithoutBreath_36 (by decide) ?_
          refine zk_iadd (pc := 40) dX0_othersWithoutBreath_40 ?_
          refine zs_istore_n (pc := 41) (ls' := [_, _, _, _, _]) 3 dX0_othersWithoutBreath_41 rfl (by decide) rfl ?_
          refine zs_iinc (pc := 42) (ls' := [_, _, _, _, _]) dX0_othersWithoutBreath_42 rfl (nI_1 k) (by decide) rfl ?_
          refine zk_goto (pc := 45) 5 dX0_othersWithoutBreath_45 (by decide) ?_
          have e := ih (by omega)
          rw [zsum_s] at e
          first
            | (have hv : zb (¬ nI k = i ∧ v - kSay (mu 24 k) v = 0) = 0 := by first | exact zb_f (fun q => q.1 h18) | exact zb_f (fun q => h32 q.2)
               rw [hv] at e
               exact e)
            | (have hv : zb (¬ nI k = i ∧ v - kSay (mu 24 k) v = 0) = 1 := by first | exact zb_t (⟨h18, h32⟩)
               rw [hv] at e
               exact e)
  refine zk_iconst (pc := 0) (v := 0) dX0_othersWithoutBreath_0 (by decide) ?_
  refine zs_istore_n (pc := 1) (ls' := [_, _, _, _, _]) 3 dX0_othersWithoutBreath_1 rfl (by decide) rfl ?_
  refine zk_iconst (pc := 2) (v := 0) dX0_othersWithoutBreath_2 (by decide) ?_
  refine zs_istore (pc := 3) (ls' := [_, _, _, _, _]) 4 dX0_othersWithoutBreath_3 (by decide) rfl ?_
  exact loop 0 (by omega)
theorem sp_X0_otherYoungBeside {M j : Nat} (hM : mu 23 6 = nI M) (hn : M ≤ 6) (hj : j < 6) : zk_M (d + 1) RX0 cX0_otherYoungBeside 5 (some .int) none 0 (zk_loc [.ref 23, .int (nI j)] 5) [] mu lm (zk_R (some (.int (zsum M (fun k => zb ((¬ nI k = nI j ∧ mu 25 k = mu 25 j) ∧ (mu 24 k = 2 ∨ mu 24 k = 5)))))) mu lm) := by
  have loop : ∀ k, k ≤ M → ∀ b : Value, zk_M (d + 1) RX0 cX0_otherYoungBeside 5 (some .int) none 4 [.ref 23, .int (nI j), .int (zsum k (fun k => zb ((¬ nI k = nI j ∧ mu 25 k = mu 25 j) ∧ (mu 24 k = 2 ∨ mu 24 k = 5)))), .int (nI k), b] [] mu lm (zk_R (some (.int (zsum M (fun k => zb ((¬ nI k = nI j ∧ mu 25 k = mu 25 j) ∧ (mu 24 k = 2 ∨ mu 24 k = 5)))))) mu lm) := by
    refine zk_ind M (fun k hk ih => ?_)
    intro b
    refine zk_iload_n (pc := 4) 3 dX0_otherYoungBeside_4 rfl rfl ?_
    refine zk_aload_n (pc := 5) 0 dX0_otherYoungBeside_5 rfl rfl ?_
    refine zk_getI (pc := 6) dX0_otherYoungBeside_6 flX0_24 rfl rfl ?_
    refine zk_icmp_ge (pc := 9) 71 dX0_otherYoungBeside_9 (by decide) (fun h9 => ?_) (fun h9 => ?_)
    · rw [hM, nIle (by omega) (by omega)] at h9
      refine zk_iload_n (pc := 71) 2 dX0_otherYoungBeside_71 rfl rfl ?_
      refine zk_ireturn (pc := 72) dX0_otherYoungBeside_72 (Or.inl rfl) (zk_ri ?_)
      rw [show k = M by omega]
    · rw [hM, nIle (by omega) (by omega)] at h9
      refine zk_iload_n (pc := 12) 3 dX0_otherYoungBeside_12 rfl rfl ?_
      refine zk_iload_n (pc := 13) 1 dX0_otherYoungBeside_13 rfl rfl ?_
      refine zk_icmp_eq (pc := 14) 36 dX0_otherYoungBeside_14 (by decide) (fun h14 => ?_) (fun h14 => ?_)
      · skip
        refine zk_iconst (pc := 36) (v := 0) dX0_otherYoungBeside_36 (by decide) ?_
        refine zs_istore (pc := 37) (ls' := [_, _, _, _, _]) 4 dX0_otherYoungBeside_37 (by decide) rfl ?_
        refine zk_iload_n (pc := 39) 2 dX0_otherYoungBeside_39 rfl rfl ?_
        refine zk_iload (pc := 40) dX0_otherYoungBeside_40 rfl ?_
        refine zk_if_eq (pc := 42) 62 dX0_otherYoungBeside_42 (by decide) (fun h42 => ?_) (fun h42 => ?_)
        · skip
          refine zk_iconst (pc := 62) (v := 0) dX0_otherYoungBeside_62 (by decide) ?_
          refine zk_iadd (pc := 63) dX0_otherYoungBeside_63 ?_
          refine zs_istore_n (pc := 64) (ls' := [_, _, _, _, _]) 2 dX0_otherYoungBeside_64 rfl (by decide) rfl ?_
          refine zs_iinc (pc := 65) (ls' := [_, _, _, _, _]) dX0_otherYoungBeside_65 rfl (nI_1 k) (by decide) rfl ?_
          refine zk_goto (pc := 68) 4 dX0_otherYoungBeside_68 (by decide) ?_
          have e := ih (by omega)
          rw [zsum_s] at e
          first
            | exact absurd h42 (by decide)
            | exact absurd rfl h42
            | (have hv : zb ((¬ nI k = nI j ∧ mu 25 k = mu 25 j) ∧ (mu 24 k = 2 ∨ mu 24 k = 5)) = 0 := by first | exact zb_f (fun q => q.1.1 h14) | exact zb_f (fun q => h29 q.1.2) | exact zb_f (fun q => h55 q.2)
               rw [hv] at e
               exact e _)
            | (have hv : zb ((¬ nI k = nI j ∧ mu 25 k = mu 25 j) ∧ (mu 24 k = 2 ∨ mu 24 k = 5)) = 1 := by first | exact zb_t (⟨⟨h14, h29⟩, h55⟩)
               rw [hv] at e
               exact e _)
        · skip
          refine zk_aload_n (pc := 45) 0 dX0_otherYoungBeside_45 rfl rfl ?_
          refine zk_getR (pc := 46) dX0_otherYoungBeside_46 flX0_9 rfl rfl ?_
          refine zk_iload_n (pc := 49) 3 dX0_otherYoungBeside_49 rfl rfl ?_
          refine zk_iaload (pc := 50) k dX0_otherYoungBeside_50 rfl rfl (by omega) ?_
          refine zk_iconst (pc := 51) (v := 2) dX0_otherYoungBeside_51 (by decide) ?_
          refine zk_callSI (pc := 52) dX0_otherYoungBeside_52 mtX2_isOf lkX0_50 stX2_isOf [_, _] _ rfl rfl (Nat.le_of_ble_eq_true rfl) (Nat.le_of_ble_eq_true rfl) (sp_isOf2 _) ?_
          refine zk_if_eq (pc := 55) 62 dX0_otherYoungBeside_55 (by decide) (fun h55 => ?_) (fun h55 => ?_)
          · rw [zb_e] at h55
            refine zk_iconst (pc := 62) (v := 0) dX0_otherYoungBeside_62 (by decide) ?_
            refine zk_iadd (pc := 63) dX0_otherYoungBeside_63 ?_
            refine zs_istore_n (pc := 64) (ls' := [_, _, _, _, _]) 2 dX0_otherYoungBeside_64 rfl (by decide) rfl ?_
            refine zs_iinc (pc := 65) (ls' := [_, _, _, _, _]) dX0_otherYoungBeside_65 rfl (nI_1 k) (by decide) rfl ?_
            refine zk_goto (pc := 68) 4 dX0_otherYoungBeside_68 (by decide) ?_
            have e := ih (by omega)
            rw [zsum_s] at e
            first
              | exact absurd h42 (by decide)
              | exact absurd rfl h42
              | (have hv : zb ((¬ nI k = nI j ∧ mu 25 k = mu 25 j) ∧ (mu 24 k = 2 ∨ mu 24 k = 5)) = 0 := by first | exact zb_f (fun q => q.1.1 h14) | exact zb_f (fun q => h29 q.1.2) | exact zb_f (fun q => h55 q.2)
                 rw [hv] at e
                 exact e _)
              | (have hv : zb ((¬ nI k = nI j ∧ mu 25 k = mu 25 j) ∧ (mu 24 k = 2 ∨ mu 24 k = 5)) = 1 := by first | exact zb_t (⟨⟨h14, h29⟩, h55⟩)
                 rw [hv] at e
                 exact e _)
          · rw [zb_n] at h55
            refine zk_iconst (pc := 58) (v := 1) dX0_otherYoungBeside_58 (by decide) ?_
            refine zk_goto (pc := 59) 63 dX0_otherYoungBeside_59 (by decide) ?_
            refine zk_iadd (pc := 63) dX0_otherYoungBeside_63 ?_
            refine zs_istore_n (pc := 64) (ls' := [_, _, _, _, _]) 2 dX0_otherYoungBeside_64 rfl (by decide) rfl ?_
            refine zs_iinc (pc := 65) (ls' := [_, _, _, _, _]) dX0_otherYoungBeside_65 rfl (nI_1 k) (by decide) rfl ?_
            refine zk_goto (pc := 68) 4 dX0_otherYoungBeside_68 (by decide) ?_
            have e := ih (by omega)
            rw [zsum_s] at e
            first
              | exact absurd h42 (by decide)
              | exact absurd rfl h42
              | (have hv : zb ((¬ nI k = nI j ∧ mu 25 k = mu 25 j) ∧ (mu 24 k = 2 ∨ mu 24 k = 5)) = 0 := by first | exact zb_f (fun q => q.1.1 h14) | exact zb_f (fun q => h29 q.1.2) | exact zb_f (fun q => h55 q.2)
                 rw [hv] at e
                 exact e _)
              | (have hv : zb ((¬ nI k = nI j ∧ mu 25 k = mu 25 j) ∧ (mu 24 k = 2 ∨ mu 24 k = 5)) = 1 := by first | exact zb_t (⟨⟨h14, h29⟩, h55⟩)
                 rw [hv] at e
                 exact e _)
      · skip
        refine zk_aload_n (pc := 17) 0 dX0_otherYoungBeside_17 rfl rfl ?_
        refine zk_getR (pc := 18) dX0_otherYoungBeside_18 flX0_15 rfl rfl ?_
        refine zk_iload_n (pc := 21) 3 dX0_otherYoungBeside_21 rfl rfl ?_
        refine zk_iaload (pc := 22) k dX0_otherYoungBeside_22 rfl rfl (by omega) ?_
        refine zk_aload_n (pc := 23) 0 dX0_otherYoungBeside_23 rfl rfl ?_
        refine zk_getR (pc := 24) dX0_otherYoungBeside_24 flX0_15 rfl rfl ?_
        refine zk_iload_n (pc := 27) 1 dX0_otherYoungBeside_27 rfl rfl ?_
        refine zk_iaload (pc := 28) j dX0_otherYoungBeside_28 rfl rfl hj ?_
        refine zk_icmp_ne (pc := 29) 36 dX0_otherYoungBeside_29 (by decide) (fun h29 => ?_) (fun h29 => ?_)
        · skip
          refine zk_iconst (pc := 36) (v := 0) dX0_otherYoungBeside_36 (by decide) ?_
          refine zs_istore (pc := 37) (ls' := [_, _, _, _, _]) 4 dX0_otherYoungBeside_37 (by decide) rfl ?_
          refine zk_iload_n (pc := 39) 2 dX0_otherYoungBeside_39 rfl rfl ?_
          refine zk_iload (pc := 40) dX0_otherYoungBeside_40 rfl ?_
          refine zk_if_eq (pc := 42) 62 dX0_otherYoungBeside_42 (by decide) (fun h42 => ?_) (fun h42 => ?_)
          · skip
            refine zk_iconst (pc := 62) (v := 0) dX0_otherYoungBeside_62 (by decide) ?_
            refine zk_iadd (pc := 63) dX0_otherYoungBeside_63 ?_
            refine zs_istore_n (pc := 64) (ls' := [_, _, _, _, _]) 2 dX0_otherYoungBeside_64 rfl (by decide) rfl ?_
            refine zs_iinc (pc := 65) (ls' := [_, _, _, _, _]) dX0_otherYoungBeside_65 rfl (nI_1 k) (by decide) rfl ?_
            refine zk_goto (pc := 68) 4 dX0_otherYoungBeside_68 (by decide) ?_
            have e := ih (by omega)
            rw [zsum_s] at e
            first
              | exact absurd h42 (by decide)
              | exact absurd rfl h42
              | (have hv : zb ((¬ nI k = nI j ∧ mu 25 k = mu 25 j) ∧ (mu 24 k = 2 ∨ mu 24 k = 5)) = 0 := by first | exact zb_f (fun q => q.1.1 h14) | exact zb_f (fun q => h29 q.1.2) | exact zb_f (fun q => h55 q.2)
                 rw [hv] at e
                 exact e _)
              | (have hv : zb ((¬ nI k = nI j ∧ mu 25 k = mu 25 j) ∧ (mu 24 k = 2 ∨ mu 24 k = 5)) = 1 := by first | exact zb_t (⟨⟨h14, h29⟩, h55⟩)
                 rw [hv] at e
                 exact e _)
          · skip
            refine zk_aload_n (pc := 45) 0 dX0_otherYoungBeside_45 rfl rfl ?_
            refine zk_getR (pc := 46) dX0_otherYoungBeside_46 flX0_9 rfl rfl ?_
            refine zk_iload_n (pc := 49) 3 dX0_otherYoungBeside_49 rfl rfl ?_
            refine zk_iaload (pc := 50) k dX0_otherYoungBeside_50 rfl rfl (by omega) ?_
            refine zk_iconst (pc := 51) (v := 2) dX0_otherYoungBeside_51 (by decide) ?_
            refine zk_callSI (pc := 52) dX0_otherYoungBeside_52 mtX2_isOf lkX0_50 stX2_isOf [_, _] _ rfl rfl (Nat.le_of_ble_eq_true rfl) (Nat.le_of_ble_eq_true rfl) (sp_isOf2 _) ?_
            refine zk_if_eq (pc := 55) 62 dX0_otherYoungBeside_55 (by decide) (fun h55 => ?_) (fun h55 => ?_)
            · rw [zb_e] at h55
              refine zk_iconst (pc := 62) (v := 0) dX0_otherYoungBeside_62 (by decide) ?_
              refine zk_iadd (pc := 63) dX0_otherYoungBeside_63 ?_
              refine zs_istore_n (pc := 64) (ls' := [_, _, _, _, _]) 2 dX0_otherYoungBeside_64 rfl (by decide) rfl ?_
              refine zs_iinc (pc := 65) (ls' := [_, _, _, _, _]) dX0_otherYoungBeside_65 rfl (nI_1 k) (by decide) rfl ?_
              refine zk_goto (pc := 68) 4 dX0_otherYoungBeside_68 (by decide) ?_
              have e := ih (by omega)
              rw [zsum_s] at e
              first
                | exact absurd h42 (by decide)
                | exact absurd rfl h42
                | (have hv : zb ((¬ nI k = nI j ∧ mu 25 k = mu 25 j) ∧ (mu 24 k = 2 ∨ mu 24 k = 5)) = 0 := by first | exact zb_f (fun q => q.1.1 h14) | exact zb_f (fun q => h29 q.1.2) | exact zb_f (fun q => h55 q.2)
                   rw [hv] at e
                   exact e _)
                | (have hv : zb ((¬ nI k = nI j ∧ mu 25 k = mu 25 j) ∧ (mu 24 k = 2 ∨ mu 24 k = 5)) = 1 := by first | exact zb_t (⟨⟨h14, h29⟩, h55⟩)
                   rw [hv] at e
                   exact e _)
            · rw [zb_n] at h55
              refine zk_iconst (pc := 58) (v := 1) dX0_otherYoungBeside_58 (by decide) ?_
              refine zk_goto (pc := 59) 63 dX0_otherYoungBeside_59 (by decide) ?_
              refine zk_iadd (pc := 63) dX0_otherYoungBeside_63 ?_
              refine zs_istore_n (pc := 64) (ls' := [_, _, _, _, _]) 2 dX0_otherYoungBeside_64 rfl (by decide) rfl ?_
              refine zs_iinc (pc := 65) (ls' := [_, _, _, _, _]) dX0_otherYoungBeside_65 rfl (nI_1 k) (by decide) rfl ?_
              refine zk_goto (pc := 68) 4 dX0_otherYoungBeside_68 (by decide) ?_
              have e := ih (by omega)
              rw [zsum_s] at e
              first
                | exact absurd h42 (by decide)
                | exact absurd rfl h42
                | (have hv : zb ((¬ nI k = nI j ∧ mu 25 k = mu 25 j) ∧ (mu 24 k = 2 ∨ mu 24 k = 5)) = 0 := by first | exact zb_f (fun q => q.1.1 h14) | exact zb_f (fun q => h29 q.1.2) | exact zb_f (fun q => h55 q.2)
                   rw [hv] at e
                   exact e _)
                | (have hv : zb ((¬ nI k = nI j ∧ mu 25 k = mu 25 j) ∧ (mu 24 k = 2 ∨ mu 24 k = 5)) = 1 := by first | exact zb_t (⟨⟨h14, h29⟩, h55⟩)
                   rw [hv] at e
                   exact e _)
        · skip
          refine zk_iconst (pc := 32) (v := 1) dX0_otherYoungBeside_32 (by decide) ?_
          refine zk_goto (pc := 33) 37 dX0_otherYoungBeside_33 (by decide) ?_
          refine zs_istore (pc := 37) (ls' := [_, _, _, _, _]) 4 dX0_otherYoungBeside_37 (by decide) rfl ?_
          refine zk_iload_n (pc := 39) 2 dX0_otherYoungBeside_39 rfl rfl ?_
          refine zk_iload (pc := 40) dX0_otherYoungBeside_40 rfl ?_
          refine zk_if_eq (pc := 42) 62 dX0_otherYoungBeside_42 (by decide) (fun h42 => ?_) (fun h42 => ?_)
          · skip
            refine zk_iconst (pc := 62) (v := 0) dX0_otherYoungBeside_62 (by decide) ?_
            refine zk_iadd (pc := 63) dX0_otherYoungBeside_63 ?_
            refine zs_istore_n (pc := 64) (ls' := [_, _, _, _, _]) 2 dX0_otherYoungBeside_64 rfl (by decide) rfl ?_
            refine zs_iinc (pc := 65) (ls' := [_, _, _, _, _]) dX0_otherYoungBeside_65 rfl (nI_1 k) (by decide) rfl ?_
            refine zk_goto (pc := 68) 4 dX0_otherYoungBeside_68 (by decide) ?_
            have e := ih (by omega)
            rw [zsum_s] at e
            first
              | exact absurd h42 (by decide)
              | exact absurd rfl h42
              | (have hv : zb ((¬ nI k = nI j ∧ mu 25 k = mu 25 j) ∧ (mu 24 k = 2 ∨ mu 24 k = 5)) = 0 := by first | exact zb_f (fun q => q.1.1 h14) | exact zb_f (fun q => h29 q.1.2) | exact zb_f (fun q => h55 q.2)
                 rw [hv] at e
                 exact e _)
              | (have hv : zb ((¬ nI k = nI j ∧ mu 25 k = mu 25 j) ∧ (mu 24 k = 2 ∨ mu 24 k = 5)) = 1 := by first | exact zb_t (⟨⟨h14, h29⟩, h55⟩)
                 rw [hv] at e
                 exact e _)
          · skip
            refine zk_aload_n (pc := 45) 0 dX0_otherYoungBeside_45 rfl rfl ?_
            refine zk_getR (pc := 46) dX0_otherYoungBeside_46 flX0_9 rfl rfl ?_
            refine zk_iload_n (pc := 49) 3 dX0_otherYoungBeside_49 rfl rfl ?_
            refine zk_iaload (pc := 50) k dX0_otherYoungBeside_50 rfl rfl (by omega) ?_
            refine zk_iconst (pc := 51) (v := 2) dX0_otherYoungBeside_51 (by decide) ?_
            refine zk_callSI (pc := 52) dX0_otherYoungBeside_52 mtX2_isOf lkX0_50 stX2_isOf [_, _] _ rfl rfl (Nat.le_of_ble_eq_true rfl) (Nat.le_of_ble_eq_true rfl) (sp_isOf2 _) ?_
            refine zk_if_eq (pc := 55) 62 dX0_otherYoungBeside_55 (by decide) (fun h55 => ?_) (fun h55 => ?_)
            · rw [zb_e] at h55
              refine zk_iconst (pc := 62) (v := 0) dX0_otherYoungBeside_62 (by decide) ?_
              refine zk_iadd (pc := 63) dX0_otherYoungBeside_63 ?_
              refine zs_istore_n (pc := 64) (ls' := [_, _, _, _, _]) 2 dX0_otherYoungBeside_64 rfl (by decide) rfl ?_
              refine zs_iinc (pc := 65) (ls' := [_, _, _, _, _]) dX0_otherYoungBeside_65 rfl (nI_1 k) (by decide) rfl ?_
              refine zk_goto (pc := 68) 4 dX0_otherYoungBeside_68 (by decide) ?_
              have e := ih (by omega)
              rw [zsum_s] at e
              first
                | exact absurd h42 (by decide)
                | exact absurd rfl h42
                | (have hv : zb ((¬ nI k = nI j ∧ mu 25 k = mu 25 j) ∧ (mu 24 k = 2 ∨ mu 24 k = 5)) = 0 := by first | exact zb_f (fun q => q.1.1 h14) | exact zb_f (fun q => h29 q.1.2) | exact zb_f (fun q => h55 q.2)
                   rw [hv] at e
                   exact e _)
                | (have hv : zb ((¬ nI k = nI j ∧ mu 25 k = mu 25 j) ∧ (mu 24 k = 2 ∨ mu 24 k = 5)) = 1 := by first | exact zb_t (⟨⟨h14, h29⟩, h55⟩)
                   rw [hv] at e
                   exact e _)
            · rw [zb_n] at h55
              refine zk_iconst (pc := 58) (v := 1) dX0_otherYoungBeside_58 (by decide) ?_
              refine zk_goto (pc := 59) 63 dX0_otherYoungBeside_59 (by decide) ?_
              refine zk_iadd (pc := 63) dX0_otherYoungBeside_63 ?_
              refine zs_istore_n (pc := 64) (ls' := [_, _, _, _, _]) 2 dX0_otherYoungBeside_64 rfl (by decide) rfl ?_
              refine zs_iinc (pc := 65) (ls' := [_, _, _, _, _]) dX0_otherYoungBeside_65 rfl (nI_1 k) (by decide) rfl ?_
              refine zk_goto (pc := 68) 4 dX0_otherYoungBeside_68 (by decide) ?_
              have e := ih (by omega)
              rw [zsum_s] at e
              first
                | exact absurd h42 (by decide)
                | exact absurd rfl h42
                | (have hv : zb ((¬ nI k = nI j ∧ mu 25 k = mu 25 j) ∧ (mu 24 k = 2 ∨ mu 24 k = 5)) = 0 := by first | exact zb_f (fun q => q.1.1 h14) | exact zb_f (fun q => h29 q.1.2) | exact zb_f (fun q => h55 q.2)
                   rw [hv] at e
                   exact e _)
                | (have hv : zb ((¬ nI k = nI j ∧ mu 25 k = mu 25 j) ∧ (mu 24 k = 2 ∨ mu 24 k = 5)) = 1 := by first | exact zb_t (⟨⟨h14, h29⟩, h55⟩)
                   rw [hv] at e
                   exact e _)
  refine zk_iconst (pc := 0) (v := 0) dX0_otherYoungBeside_0 (by decide) ?_
  refine zs_istore_n (pc := 1) (ls' := [_, _, _, _, _]) 2 dX0_otherYoungBeside_1 rfl (by decide) rfl ?_
  refine zk_iconst (pc := 2) (v := 0) dX0_otherYoungBeside_2 (by decide) ?_
  refine zs_istore_n (pc := 3) (ls' := [_, _, _, _, _]) 3 dX0_otherYoungBeside_3 rfl (by decide) rfl ?_
  exact loop 0 (by omega) _
theorem sp_X0_membersOf1 {M : Nat} (hM : mu 23 6 = nI M) (hn : M ≤ 6) : zk_M (d + 1) RX0 cX0_membersOf 4 (some .int) none 0 (zk_loc [.ref 23, .int 1] 4) [] mu lm (zk_R (some (.int (zsum M (fun k => zb (mu 24 k = 1 ∨ mu 24 k = 4))))) mu lm) := by
  have loop : ∀ k, k ≤ M → zk_M (d + 1) RX0 cX0_membersOf 4 (some .int) none 4 [.ref 23, .int 1, .int (zsum k (fun k => zb (mu 24 k = 1 ∨ mu 24 k = 4))), .int (nI k)] [] mu lm (zk_R (some (.int (zsum M (fun k => zb (mu 24 k = 1 ∨ mu 24 k = 4))))) mu lm) := by
    refine zk_ind M (fun k hk ih => ?_)
    refine zk_iload_n (pc := 4) 3 dX0_membersOf_4 rfl rfl ?_
    refine zk_aload_n (pc := 5) 0 dX0_membersOf_5 rfl rfl ?_
    refine zk_getI (pc := 6) dX0_membersOf_6 flX0_24 rfl rfl ?_
    refine zk_icmp_ge (pc := 9) 39 dX0_membersOf_9 (by decide) (fun h9 => ?_) (fun h9 => ?_)
    · rw [hM, nIle (by omega) (by omega)] at h9
      refine zk_iload_n (pc := 39) 2 dX0_membersOf_39 rfl rfl ?_
      refine zk_ireturn (pc := 40) dX0_membersOf_40 (Or.inl rfl) (zk_ri ?_)
      rw [show k = M by omega]
    · rw [hM, nIle (by omega) (by omega)] at h9
      refine zk_iload_n (pc := 12) 2 dX0_membersOf_12 rfl rfl ?_
      refine zk_aload_n (pc := 13) 0 dX0_membersOf_13 rfl rfl ?_
      refine zk_getR (pc := 14) dX0_membersOf_14 flX0_9 rfl rfl ?_
      refine zk_iload_n (pc := 17) 3 dX0_membersOf_17 rfl rfl ?_
      refine zk_iaload (pc := 18) k dX0_membersOf_18 rfl rfl (by omega) ?_
      refine zk_iload_n (pc := 19) 1 dX0_membersOf_19 rfl rfl ?_
      refine zk_callSI (pc := 20) dX0_membersOf_20 mtX2_isOf lkX0_50 stX2_isOf [_, _] _ rfl rfl (Nat.le_of_ble_eq_true rfl) (Nat.le_of_ble_eq_true rfl) (sp_isOf1 _) ?_
      refine zk_if_eq (pc := 23) 30 dX0_membersOf_23 (by decide) (fun h23 => ?_) (fun h23 => ?_)
      · rw [zb_e] at h23
        refine zk_iconst (pc := 30) (v := 0) dX0_membersOf_30 (by decide) ?_
        refine zk_iadd (pc := 31) dX0_membersOf_31 ?_
        refine zs_istore_n (pc := 32) (ls' := [_, _, _, _]) 2 dX0_membersOf_32 rfl (by decide) rfl ?_
        refine zs_iinc (pc := 33) (ls' := [_, _, _, _]) dX0_membersOf_33 rfl (nI_1 k) (by decide) rfl ?_
        refine zk_goto (pc := 36) 4 dX0_membersOf_36 (by decide) ?_
        have e := ih (by omega)
        rw [zsum_s] at e
        first | (rw [zb_t h23] at e; exact e) | (rw [zb_f h23] at e; exact e)
      · rw [zb_n] at h23
        refine zk_iconst (pc := 26) (v := 1) dX0_membersOf_26 (by decide) ?_
        refine zk_goto (pc := 27) 31 dX0_membersOf_27 (by decide) ?_
        refine zk_iadd (pc := 31) dX0_membersOf_31 ?_
        refine zs_istore_n (pc := 32) (ls' := [_, _, _, _]) 2 dX0_membersOf_32 rfl (by decide) rfl ?_
        refine zs_iinc (pc := 33) (ls' := [_, _, _, _]) dX0_membersOf_33 rfl (nI_1 k) (by decide) rfl ?_
        refine zk_goto (pc := 36) 4 dX0_membersOf_36 (by decide) ?_
        have e := ih (by omega)
        rw [zsum_s] at e
        first | (rw [zb_t h23] at e; exact e) | (rw [zb_f h23] at e; exact e)
  refine zk_iconst (pc := 0) (v := 0) dX0_membersOf_0 (by decide) ?_
  refine zs_istore_n (pc := 1) (ls' := [_, _, _, _]) 2 dX0_membersOf_1 rfl (by decide) rfl ?_
  refine zk_iconst (pc := 2) (v := 0) dX0_membersOf_2 (by decide) ?_
  refine zs_istore_n (pc := 3) (ls' := [_, _, _, _]) 3 dX0_membersOf_3 rfl (by decide) rfl ?_
  exact loop 0 (by omega)
theorem sp_X0_membersOf2 {M : Nat} (hM : mu 23 6 = nI M) (hn : M ≤ 6) : zk_M (d + 1) RX0 cX0_membersOf 4 (some .int) none 0 (zk_loc [.ref 23, .int 2] 4) [] mu lm (zk_R (some (.int (zsum M (fun k => zb (mu 24 k = 2 ∨ mu 24 k = 5))))) mu lm) := by
  have loop : ∀ k, k ≤ M → zk_M (d + 1) RX0 cX0_membersOf 4 (some .int) none 4 [.ref 23, .int 2, .int (zsum k (fun k => zb (mu 24 k = 2 ∨ mu 24 k = 5))), .int (nI k)] [] mu lm (zk_R (some (.int (zsum M (fun k => zb (mu 24 k = 2 ∨ mu 24 k = 5))))) mu lm) := by
    refine zk_ind M (fun k hk ih => ?_)
    refine zk_iload_n (pc := 4) 3 dX0_membersOf_4 rfl rfl ?_
    refine zk_aload_n (pc := 5) 0 dX0_membersOf_5 rfl rfl ?_
    refine zk_getI (pc := 6) dX0_membersOf_6 flX0_24 rfl rfl ?_
    refine zk_icmp_ge (pc := 9) 39 dX0_membersOf_9 (by decide) (fun h9 => ?_) (fun h9 => ?_)
    · rw [hM, nIle (by omega) (by omega)] at h9
      refine zk_iload_n (pc := 39) 2 dX0_membersOf_39 rfl rfl ?_
      refine zk_ireturn (pc := 40) dX0_membersOf_40 (Or.inl rfl) (zk_ri ?_)
      rw [show k = M by omega]
    · rw [hM, nIle (by omega) (by omega)] at h9
      refine zk_iload_n (pc := 12) 2 dX0_membersOf_12 rfl rfl ?_
      refine zk_aload_n (pc := 13) 0 dX0_membersOf_13 rfl rfl ?_
      refine zk_getR (pc := 14) dX0_membersOf_14 flX0_9 rfl rfl ?_
      refine zk_iload_n (pc := 17) 3 dX0_membersOf_17 rfl rfl ?_
      refine zk_iaload (pc := 18) k dX0_membersOf_18 rfl rfl (by omega) ?_
      refine zk_iload_n (pc := 19) 1 dX0_membersOf_19 rfl rfl ?_
      refine zk_callSI (pc := 20) dX0_membersOf_20 mtX2_isOf lkX0_50 stX2_isOf [_, _] _ rfl rfl (Nat.le_of_ble_eq_true rfl) (Nat.le_of_ble_eq_true rfl) (sp_isOf2 _) ?_
      refine zk_if_eq (pc := 23) 30 dX0_membersOf_23 (by decide) (fun h23 => ?_) (fun h23 => ?_)
      · rw [zb_e] at h23
        refine zk_iconst (pc := 30) (v := 0) dX0_membersOf_30 (by decide) ?_
        refine zk_iadd (pc := 31) dX0_membersOf_31 ?_
        refine zs_istore_n (pc := 32) (ls' := [_, _, _, _]) 2 dX0_membersOf_32 rfl (by decide) rfl ?_
        refine zs_iinc (pc := 33) (ls' := [_, _, _, _]) dX0_membersOf_33 rfl (nI_1 k) (by decide) rfl ?_
        refine zk_goto (pc := 36) 4 dX0_membersOf_36 (by decide) ?_
        have e := ih (by omega)
        rw [zsum_s] at e
        first | (rw [zb_t h23] at e; exact e) | (rw [zb_f h23] at e; exact e)
      · rw [zb_n] at h23
        refine zk_iconst (pc := 26) (v := 1) dX0_membersOf_26 (by decide) ?_
        refine zk_goto (pc := 27) 31 dX0_membersOf_27 (by decide) ?_
        refine zk_iadd (pc := 31) dX0_membersOf_31 ?_
        refine zs_istore_n (pc := 32) (ls' := [_, _, _, _]) 2 dX0_membersOf_32 rfl (by decide) rfl ?_
        refine zs_iinc (pc := 33) (ls' := [_, _, _, _]) dX0_membersOf_33 rfl (nI_1 k) (by decide) rfl ?_
        refine zk_goto (pc := 36) 4 dX0_membersOf_36 (by decide) ?_
        have e := ih (by omega)
        rw [zsum_s] at e
        first | (rw [zb_t h23] at e; exact e) | (rw [zb_f h23] at e; exact e)
  refine zk_iconst (pc := 0) (v := 0) dX0_membersOf_0 (by decide) ?_
  refine zs_istore_n (pc := 1) (ls' := [_, _, _, _]) 2 dX0_membersOf_1 rfl (by decide) rfl ?_
  refine zk_iconst (pc := 2) (v := 0) dX0_membersOf_2 (by decide) ?_
  refine zs_istore_n (pc := 3) (ls' := [_, _, _, _]) 3 dX0_membersOf_3 rfl (by decide) rfl ?_
  exact loop 0 (by omega)
theorem sp_X0_ringSmoke {j q b a : Nat} (hj : j < 6) (hq : mu 25 j = nI q) (hq8 : q < 8) (hb : cBeh (mu 23 5) (mu 25 j) = nI b) (hb8 : b < 8) (ha : cAhd (mu 23 5) (mu 25 j) = nI a) (ha8 : a < 8) : zk_M (d + 1) RX0 cX0_ringSmoke 3 (some .int) none 0 (zk_loc [.ref 23, .int (nI j)] 3) [] mu lm (zk_R (some (.int (mu 27 q + mu 27 b + mu 27 a))) mu lm) := by
  refine zk_aload_n (pc := 0) 0 dX0_ringSmoke_0 rfl rfl ?_
  refine zk_getR (pc := 1) dX0_ringSmoke_1 flX0_15 rfl rfl ?_
  refine zk_iload_n (pc := 4) 1 dX0_ringSmoke_4 rfl rfl ?_
  refine zk_iaload (pc := 5) j dX0_ringSmoke_5 rfl rfl hj ?_
  refine zs_istore_n (pc := 6) (ls' := [_, _, _]) 2 dX0_ringSmoke_6 rfl (by decide) rfl ?_
  refine zk_aload_n (pc := 7) 0 dX0_ringSmoke_7 rfl rfl ?_
  refine zk_getR (pc := 8) dX0_ringSmoke_8 flX0_21 rfl rfl ?_
  refine zk_iload_n (pc := 11) 2 dX0_ringSmoke_11 rfl rfl ?_
  refine zk_iaload (pc := 12) q dX0_ringSmoke_12 rfl hq hq8 ?_
  refine zk_aload_n (pc := 13) 0 dX0_ringSmoke_13 rfl rfl ?_
  refine zk_getR (pc := 14) dX0_ringSmoke_14 flX0_21 rfl rfl ?_
  refine zk_aload_n (pc := 17) 0 dX0_ringSmoke_17 rfl rfl ?_
  refine zk_iload_n (pc := 18) 2 dX0_ringSmoke_18 rfl rfl ?_
  refine zk_callVI (pc := 19) dX0_ringSmoke_19 mtX0_behind lkX0_54 stX0_behind (by rfl) (by rfl) [_] _ rfl rfl (Nat.le_of_ble_eq_true rfl) (Nat.le_of_ble_eq_true rfl) (sp_X0_behind _) ?_
  refine zk_iaload (pc := 22) b dX0_ringSmoke_22 rfl hb hb8 ?_
  refine zk_iadd (pc := 23) dX0_ringSmoke_23 ?_
  refine zk_aload_n (pc := 24) 0 dX0_ringSmoke_24 rfl rfl ?_
  refine zk_getR (pc := 25) dX0_ringSmoke_25 flX0_21 rfl rfl ?_
  refine zk_aload_n (pc := 28) 0 dX0_ringSmoke_28 rfl rfl ?_
  refine zk_iload_n (pc := 29) 2 dX0_ringSmoke_29 rfl rfl ?_
  refine zk_callVI (pc := 30) dX0_ringSmoke_30 mtX0_ahead lkX0_58 stX0_ahead (by rfl) (by rfl) [_] _ rfl rfl (Nat.le_of_ble_eq_true rfl) (Nat.le_of_ble_eq_true rfl) (sp_X0_ahead _) ?_
  refine zk_iaload (pc := 33) a dX0_ringSmoke_33 rfl ha ha8 ?_
  refine zk_iadd (pc := 34) dX0_ringSmoke_34 ?_
  refine zk_ireturn (pc := 35) dX0_ringSmoke_35 (Or.inl rfl) ?_
  exact zk_ri rfl
/-- a Deeds object: its cell, the cell of its codes -/
def zDds (c p : Nat) : Prop := zk_shp[c]? = some (0, 1, [p + 2, 0]) ∧ zk_shp[p]? = some (1, 40, [])
theorem sp_X1_isFull {c p : Nat} (hr : zDds c p) : zk_M d RX1 cX1_isFull 1 (some .boolean) none 0 (zk_loc [.ref c] 1) [] mu lm (zk_R (some (.int (zb (40 ≤ mu c 1)))) mu lm) := by
  refine zk_aload_n (pc := 0) 0 dX1_isFull_0 rfl rfl ?_
  refine zk_getI (pc := 1) dX1_isFull_1 flX1_13 hr.1 rfl ?_
  refine zk_bipush (pc := 4) (v := 40) dX1_isFull_4 (by decide) ?_
  refine zk_icmp_lt (pc := 6) 13 dX1_isFull_6 (by decide) (fun h6 => ?_) (fun h6 => ?_)
  · skip
    refine zk_iconst (pc := 13) (v := 0) dX1_isFull_13 (by decide) ?_
    refine zk_ireturn (pc := 14) dX1_isFull_14 (Or.inr ⟨rfl, by first | exact Or.inl rfl | exact Or.inr rfl⟩) ?_
    apply zk_ri; unfold zb; simp only [zlt, zle] at *; split <;> first | rfl | (exfalso; omega)
  · skip
    refine zk_iconst (pc := 9) (v := 1) dX1_isFull_9 (by decide) ?_
    refine zk_goto (pc := 10) 14 dX1_isFull_10 (by decide) ?_
    refine zk_ireturn (pc := 14) dX1_isFull_14 (Or.inr ⟨rfl, by first | exact Or.inl rfl | exact Or.inr rfl⟩) ?_
    apply zk_ri; unfold zb; simp only [zlt, zle] at *; split <;> first | rfl | (exfalso; omega)
theorem sp_X1_write {c p n : Nat} (hr : zDds c p) (hn : mu c 1 = nI n) (hn4 : n < 40) (a b v : Int32) : zk_M d RX1 cX1_write 4 (none) none 0 (zk_loc [.ref c, .int a, .int b, .int v] 4) [] mu lm (zk_R none (zk_up (zk_up mu p n ((v * 8 + b) * 4 + a)) c 1 (nI (n + 1))) lm) := by
  have hcp := zrow_ne hr.1 hr.2
  refine zk_aload_n (pc := 0) 0 dX1_write_0 rfl rfl ?_
  refine zk_getI (pc := 1) dX1_write_1 flX1_13 hr.1 rfl ?_
  refine zk_if_lt (pc := 4) 45 dX1_write_4 (by decide) (fun h4 => ?_) (fun h4 => ?_)
  · rw [hn, show (0 : Int32) = nI 0 from rfl, nIlt (by omega) (by omega)] at h4
    omega --
  · skip
    refine zk_aload_n (pc := 7) 0 dX1_write_7 rfl rfl ?_
    refine zk_getI (pc := 8) dX1_write_8 flX1_13 hr.1 rfl ?_
    refine zk_bipush (pc := 11) (v := 40) dX1_write_11 (by decide) ?_
    refine zk_icmp_ge (pc := 13) 45 dX1_write_13 (by decide) (fun h13 => ?_) (fun h13 => ?_)
    · rw [hn, show (40 : Int32) = nI 40 from rfl, nIle (by omega) (by omega)] at h13
      omega --
    · skip
      refine zk_aload_n (pc := 16) 0 dX1_write_16 rfl rfl ?_
      refine zk_getR (pc := 17) dX1_write_17 flX1_9 hr.1 rfl ?_
      refine zk_aload_n (pc := 20) 0 dX1_write_20 rfl rfl ?_
      refine zk_getI (pc := 21) dX1_write_21 flX1_13 hr.1 rfl ?_
      refine zk_iload_n (pc := 24) 3 dX1_write_24 rfl rfl ?_
      refine zk_bipush (pc := 25) (v := 8) dX1_write_25 (by decide) ?_
      refine zk_imul (pc := 27) dX1_write_27 ?_
      refine zk_iload_n (pc := 28) 2 dX1_write_28 rfl rfl ?_
      refine zk_iadd (pc := 29) dX1_write_29 ?_
      refine zk_iconst (pc := 30) (v := 4) dX1_write_30 (by decide) ?_
      refine zk_imul (pc := 31) dX1_write_31 ?_
      refine zk_iload_n (pc := 32) 1 dX1_write_32 rfl rfl ?_
      refine zk_iadd (pc := 33) dX1_write_33 ?_
      refine zk_iastore (pc := 34) n dX1_write_34 hr.2 hn hn4 ?_
      refine zk_aload_n (pc := 35) 0 dX1_write_35 rfl rfl ?_
      refine zk_dup (pc := 36) dX1_write_36 rfl ?_
      refine zk_getI (pc := 37) dX1_write_37 flX1_13 hr.1 rfl ?_
      refine zk_iconst (pc := 40) (v := 1) dX1_write_40 (by decide) ?_
      refine zk_iadd (pc := 41) dX1_write_41 ?_
      refine zk_putI (pc := 42) dX1_write_42 flX1_13 hr.1 rfl ?_
      refine zk_return (pc := 45) dX1_write_45 rfl (zk_rv0 ?_ rfl)
      rw [zup_c _ _ _ hcp, hn, nI_1]
theorem sp_X1_what {c p n : Nat} (hr : zDds c p) (hn4 : n < 40) : zk_M d RX1 cX1_what 2 (some .int) none 0 (zk_loc [.ref c, .int (nI n)] 2) [] mu lm (zk_R (some (.int (mu p n - mu p n / 4 * 4))) mu lm) := by
  refine zk_aload_n (pc := 0) 0 dX1_what_0 rfl rfl ?_
  refine zk_getR (pc := 1) dX1_what_1 flX1_9 hr.1 rfl ?_
  refine zk_iload_n (pc := 4) 1 dX1_what_4 rfl rfl ?_
  refine zk_iaload (pc := 5) n dX1_what_5 hr.2 rfl hn4 ?_
  refine zk_iconst (pc := 6) (v := 4) dX1_what_6 (by decide) ?_
  refine zk_irem (pc := 7) dX1_what_7 (by decide) ?_
  refine zk_ireturn (pc := 8) dX1_what_8 (Or.inl rfl) ?_
  exact zk_ri rfl
theorem sp_X1_whom {c p n : Nat} (hr : zDds c p) (hn4 : n < 40) : zk_M d RX1 cX1_whom 2 (some .int) none 0 (zk_loc [.ref c, .int (nI n)] 2) [] mu lm (zk_R (some (.int (mu p n / 4 - mu p n / 4 / 8 * 8))) mu lm) := by
  refine zk_aload_n (pc := 0) 0 dX1_whom_0 rfl rfl ?_
  refine zk_getR (pc := 1) dX1_whom_1 flX1_9 hr.1 rfl ?_
  refine zk_iload_n (pc := 4) 1 dX1_whom_4 rfl rfl ?_
  refine zk_iaload (pc := 5) n dX1_whom_5 hr.2 rfl hn4 ?_
  refine zk_iconst (pc := 6) (v := 4) dX1_whom_6 (by decide) ?_
  refine zk_idiv (pc := 7) dX1_whom_7 (by decide) ?_
  refine zk_bipush (pc := 8) (v := 8) dX1_whom_8 (by decide) ?_
  refine zk_irem (pc := 10) dX1_whom_10 (by decide) ?_
  refine zk_ireturn (pc := 11) dX1_whom_11 (Or.inl rfl) ?_
  exact zk_ri rfl
theorem sp_X1_meant {c p n : Nat} (hr : zDds c p) (hn4 : n < 40) : zk_M d RX1 cX1_meant 2 (some .int) none 0 (zk_loc [.ref c, .int (nI n)] 2) [] mu lm (zk_R (some (.int (mu p n / 4 / 8))) mu lm) := by
  refine zk_aload_n (pc := 0) 0 dX1_meant_0 rfl rfl ?_
  refine zk_getR (pc := 1) dX1_meant_1 flX1_9 hr.1 rfl ?_
  refine zk_iload_n (pc := 4) 1 dX1_meant_4 rfl rfl ?_
  refine zk_iaload (pc := 5) n dX1_meant_5 hr.2 rfl hn4 ?_
  refine zk_iconst (pc := 6) (v := 4) dX1_meant_6 (by decide) ?_
  refine zk_idiv (pc := 7) dX1_meant_7 (by decide) ?_
  refine zk_bipush (pc := 8) (v := 8) dX1_meant_8 (by decide) ?_
  refine zk_idiv (pc := 10) dX1_meant_10 (by decide) ?_
  refine zk_ireturn (pc := 11) dX1_meant_11 (Or.inl rfl) ?_
  exact zk_ri rfl
def zcp (mu : Mem) (p q k : Nat) : Mem := zk_uc mu p (fun i => if i < k then mu q i else mu p i)
theorem zcp_0 (mu : Mem) (p q : Nat) : zcp mu p q 0 = mu := by
  unfold zcp
  have : (fun i => if i < 0 then mu q i else mu p i) = mu p := by funext k; simp
  rw [this, zk_uc_self]
theorem zcp_s (mu : Mem) (p q j : Nat) : zk_up (zcp mu p q j) p j (mu q j) = zcp mu p q (j + 1) := by
  funext c k
  unfold zcp zk_up zk_uc
  by_cases hc : c = p
  · subst hc
    by_cases hk : k = j
    · subst hk; simp
    · have e : (k < j + 1) = (k < j) := propext ⟨fun h => by omega, fun h => by omega⟩
      simp [hk, e]
  · simp [hc]
theorem zcp_c (mu : Mem) {p c : Nat} (q j : Nat) (h : c ≠ p) : zcp mu p q j c = mu c := by unfold zcp; rw [zuc_c _ _ h]
theorem sp_X1_takeFrom {c p e q : Nat} (hr : zDds c p) (hr2 : zDds e q) (hqp : q ≠ p) : zk_M d RX1 cX1_takeFrom 3 (none) none 0 (zk_loc [.ref c, .ref e] 3) [] mu lm (zk_R none (zk_up (zcp mu p q 40) c 1 (mu e 1)) lm) := by
  have hep := zrow_ne hr2.1 hr.2
  have loop : ∀ k, k ≤ 40 → zk_M d RX1 cX1_takeFrom 3 (none) none 2 [.ref c, .ref e, .int (nI k)] [] (zcp mu p q k) lm (zk_R none (zk_up (zcp mu p q 40) c 1 (mu e 1)) lm) := by
    refine zk_ind 40 (fun k hk ih => ?_)
    refine zk_iload_n (pc := 2) 2 dX1_takeFrom_2 rfl rfl ?_
    refine zk_bipush (pc := 3) (v := 40) dX1_takeFrom_3 (by decide) ?_
    refine zk_icmp_ge (pc := 5) 26 dX1_takeFrom_5 (by decide) (fun h5 => ?_) (fun h5 => ?_)
    · rw [show (40 : Int32) = nI 40 from rfl, nIle (by omega) (by omega)] at h5
      refine zk_aload_n (pc := 26) 0 dX1_takeFrom_26 rfl rfl ?_
      refine zk_aload_n (pc := 27) 1 dX1_takeFrom_27 rfl rfl ?_
      refine zk_getI (pc := 28) dX1_takeFrom_28 flX1_13 hr2.1 rfl ?_
      refine zk_putI (pc := 31) dX1_takeFrom_31 flX1_13 hr.1 rfl ?_
      refine zk_return (pc := 34) dX1_takeFrom_34 rfl (zk_rv0 ?_ rfl)
      rw [show k = 40 by omega, zcp_c _ _ _ hep]
    · rw [show (40 : Int32) = nI 40 from rfl, nIle (by omega) (by omega)] at h5
      refine zk_aload_n (pc := 8) 0 dX1_takeFrom_8 rfl rfl ?_
      refine zk_getR (pc := 9) dX1_takeFrom_9 flX1_9 hr.1 rfl ?_
      refine zk_iload_n (pc := 12) 2 dX1_takeFrom_12 rfl rfl ?_
      refine zk_aload_n (pc := 13) 1 dX1_takeFrom_13 rfl rfl ?_
      refine zk_getR (pc := 14) dX1_takeFrom_14 flX1_9 hr2.1 rfl ?_
      refine zk_iload_n (pc := 17) 2 dX1_takeFrom_17 rfl rfl ?_
      refine zk_iaload (pc := 18) k dX1_takeFrom_18 hr2.2 rfl (by omega) ?_
      refine zk_iastore (pc := 19) k dX1_takeFrom_19 hr.2 rfl (by omega) ?_
      refine zs_iinc (pc := 20) (ls' := [_, _, _]) dX1_takeFrom_20 rfl (nI_1 k) (by decide) rfl ?_
      refine zk_goto (pc := 23) 2 dX1_takeFrom_23 (by decide) ?_
      rw [zcp_c _ _ _ hqp]
      have e := ih (by omega)
      rw [← zcp_s] at e
      exact e
  have e0 := loop 0 (by omega)
  rw [zcp_0] at e0
  refine zk_iconst (pc := 0) (v := 0) dX1_takeFrom_0 (by decide) ?_
  refine zs_istore_n (pc := 1) (ls' := [_, _, _]) 2 dX1_takeFrom_1 rfl (by decide) rfl ?_
  exact e0
end M24
