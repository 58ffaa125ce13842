section M23
variable {d : Nat} {mu : Mem} {lm : MemL}
theorem zb_c {P Q : Prop} [Decidable P] [Decidable Q] (h : P ↔ Q) : zb P = zb Q := by
  unfold zb
  by_cases hP : P
  · rw [if_pos hP, if_pos (h.mp hP)]
  · rw [if_neg hP, if_neg (fun q => hP (h.mpr q))]
theorem sp_isOf1 (k : Int32) : zk_M d RX2 cX2_isOf 2 (some .boolean) none 0 (zk_loc [.int k, .int 1] 2) [] mu lm (zk_R (some (.int (zb (k = 1 ∨ k = 4)))) mu lm) := by
  have e := sp_X2_isOf (d := d) (mu := mu) (lm := lm) k 1 (Or.inr (Or.inl rfl))
  rw [zb_c (show _ ↔ (k = 1 ∨ k = 4) from by simp)] at e
  exact e
theorem sp_isOf2 (k : Int32) : zk_M d RX2 cX2_isOf 2 (some .boolean) none 0 (zk_loc [.int k, .int 2] 2) [] mu lm (zk_R (some (.int (zb (k = 2 ∨ k = 5)))) mu lm) := by
  have e := sp_X2_isOf (d := d) (mu := mu) (lm := lm) k 2 (Or.inr (Or.inr (Or.inl rfl)))
  rw [zb_c (show _ ↔ (k = 2 ∨ k = 5) from by simp)] at e
  exact e
/-- how much of what one of a kind, under a cell, breathes of v comes to the cell c -/
def shr (kind seat cells v c : Int32) : Int32 :=
  if kind = 1 ∨ kind = 4 then (if c = seat then (v - kSay kind v) / 2 else if c = cBeh cells seat then ((v - kSay kind v) - (v - kSay kind v) / 2) / 2 else if c = cAhd cells seat then (v - kSay kind v) - (v - kSay kind v) / 2 - ((v - kSay kind v) - (v - kSay kind v) / 2) / 2 else 0)
  else (if c = seat then v - kSay kind v else 0)
theorem sp_X0_share {j : Nat} (hj : j < 6) (v c : Int32) : zk_M (d + 3) RX0 cX0_share 7 (some .int) none 0 (zk_loc [.ref 23, .int (nI j), .int v, .int c] 7) [] mu lm (zk_R (some (.int (shr (mu 24 j) (mu 25 j) (mu 23 5) v c))) mu lm) := by
  refine zk_aload_n (pc := 0) 0 dX0_share_0 rfl rfl ?_
  refine zk_getR (pc := 1) dX0_share_1 flX0_9 rfl rfl ?_
  refine zk_iload_n (pc := 4) 1 dX0_share_4 rfl rfl ?_
  refine zk_iaload (pc := 5) j dX0_share_5 rfl rfl hj ?_
  refine zk_iload_n (pc := 6) 2 dX0_share_6 rfl rfl ?_
  refine zk_callSI (pc := 7) dX0_share_7 mtX2_breathed lkX0_44 stX2_breathed [_, _] _ rfl rfl (Nat.le_of_ble_eq_true rfl) (Nat.le_of_ble_eq_true rfl) (sp_X2_breathed _ _) ?_
  refine zs_istore (pc := 10) (ls' := [_, _, _, _, _, _, _]) 4 dX0_share_10 (by decide) rfl ?_
  refine zk_aload_n (pc := 12) 0 dX0_share_12 rfl rfl ?_
  refine zk_getR (pc := 13) dX0_share_13 flX0_9 rfl rfl ?_
  refine zk_iload_n (pc := 16) 1 dX0_share_16 rfl rfl ?_
  refine zk_iaload (pc := 17) j dX0_share_17 rfl rfl hj ?_
  refine zk_iconst (pc := 18) (v := 1) dX0_share_18 (by decide) ?_
  refine zk_callSI (pc := 19) dX0_share_19 mtX2_isOf lkX0_50 stX2_isOf [_, _] _ rfl rfl (Nat.le_of_ble_eq_true rfl) (Nat.le_of_ble_eq_true rfl) (sp_isOf1 _) ?_
  refine zk_if_ne (pc := 22) 42 dX0_share_22 (by decide) (fun h22 => ?_) (fun h22 => ?_)
  · rw [zb_n] at h22
    refine zk_iload (pc := 42) dX0_share_42 rfl ?_
    refine zk_iconst (pc := 44) (v := 2) dX0_share_44 (by decide) ?_
    refine zk_idiv (pc := 45) dX0_share_45 (by decide) ?_
    refine zs_istore (pc := 46) (ls' := [_, _, _, _, _, _, _]) 5 dX0_share_46 (by decide) rfl ?_
    refine zk_iload (pc := 48) dX0_share_48 rfl ?_
    refine zk_iload (pc := 50) dX0_share_50 rfl ?_
    refine zk_isub (pc := 52) dX0_share_52 ?_
    refine zk_iconst (pc := 53) (v := 2) dX0_share_53 (by decide) ?_
    refine zk_idiv (pc := 54) dX0_share_54 (by decide) ?_
    refine zs_istore (pc := 55) (ls' := [_, _, _, _, _, _, _]) 6 dX0_share_55 (by decide) rfl ?_
    refine zk_iload_n (pc := 57) 3 dX0_share_57 rfl rfl ?_
    refine zk_aload_n (pc := 58) 0 dX0_share_58 rfl rfl ?_
    refine zk_getR (pc := 59) dX0_share_59 flX0_15 rfl rfl ?_
    refine zk_iload_n (pc := 62) 1 dX0_share_62 rfl rfl ?_
    refine zk_iaload (pc := 63) j dX0_share_63 rfl rfl hj ?_
    refine zk_icmp_ne (pc := 64) 70 dX0_share_64 (by decide) (fun h64 => ?_) (fun h64 => ?_)
    · skip
      refine zk_iload_n (pc := 70) 3 dX0_share_70 rfl rfl ?_
      refine zk_aload_n (pc := 71) 0 dX0_share_71 rfl rfl ?_
      refine zk_aload_n (pc := 72) 0 dX0_share_72 rfl rfl ?_
      refine zk_getR (pc := 73) dX0_share_73 flX0_15 rfl rfl ?_
      refine zk_iload_n (pc := 76) 1 dX0_share_76 rfl rfl ?_
      refine zk_iaload (pc := 77) j dX0_share_77 rfl rfl hj ?_
      refine zk_callVI (pc := 78) dX0_share_78 mtX0_behind lkX0_54 stX0_behind (by rfl) (by rfl) [_] _ rfl rfl (Nat.le_of_ble_eq_true rfl) (Nat.le_of_ble_eq_true rfl) (sp_X0_behind _) ?_
      refine zk_icmp_ne (pc := 81) 87 dX0_share_81 (by decide) (fun h81 => ?_) (fun h81 => ?_)
      · skip
        refine zk_iload_n (pc := 87) 3 dX0_share_87 rfl rfl ?_
        refine zk_aload_n (pc := 88) 0 dX0_share_88 rfl rfl ?_
        refine zk_aload_n (pc := 89) 0 dX0_share_89 rfl rfl ?_
        refine zk_getR (pc := 90) dX0_share_90 flX0_15 rfl rfl ?_
        refine zk_iload_n (pc := 93) 1 dX0_share_93 rfl rfl ?_
        refine zk_iaload (pc := 94) j dX0_share_94 rfl rfl hj ?_
        refine zk_callVI (pc := 95) dX0_share_95 mtX0_ahead lkX0_58 stX0_ahead (by rfl) (by rfl) [_] _ rfl rfl (Nat.le_of_ble_eq_true rfl) (Nat.le_of_ble_eq_true rfl) (sp_X0_ahead _) ?_
        refine zk_icmp_ne (pc := 98) 112 dX0_share_98 (by decide) (fun h98 => ?_) (fun h98 => ?_)
        · skip
          refine zk_iconst (pc := 112) (v := 0) dX0_share_112 (by decide) ?_
          refine zk_ireturn (pc := 113) dX0_share_113 (Or.inl rfl) ?_
          apply zk_ri; unfold shr
          first | rw [if_neg h22, if_pos h32] | rw [if_neg h22, if_neg h32] | rw [if_pos h22, if_pos h64] | rw [if_pos h22, if_neg h64, if_pos h81] | rw [if_pos h22, if_neg h64, if_neg h81, if_pos h98] | rw [if_pos h22, if_neg h64, if_neg h81, if_neg h98]
        · skip
          refine zk_iload (pc := 101) dX0_share_101 rfl ?_
          refine zk_iload (pc := 103) dX0_share_103 rfl ?_
          refine zk_isub (pc := 105) dX0_share_105 ?_
          refine zk_iload (pc := 106) dX0_share_106 rfl ?_
          refine zk_isub (pc := 108) dX0_share_108 ?_
          refine zk_goto (pc := 109) 113 dX0_share_109 (by decide) ?_
          refine zk_ireturn (pc := 113) dX0_share_113 (Or.inl rfl) ?_
          apply zk_ri; unfold shr
          first | rw [if_neg h22, if_pos h32] | rw [if_neg h22, if_neg h32] | rw [if_pos h22, if_pos h64] | rw [if_pos h22, if_neg h64, if_pos h81] | rw [if_pos h22, if_neg h64, if_neg h81, if_pos h98] | rw [if_pos h22, if_neg h64, if_neg h81, if_neg h98]
      · skip
        refine zk_iload (pc := 84) dX0_share_84 rfl ?_
        refine zk_ireturn (pc := 86) dX0_share_86 (Or.inl rfl) ?_
        apply zk_ri; unfold shr
        first | rw [if_neg h22, if_pos h32] | rw [if_neg h22, if_neg h32] | rw [if_pos h22, if_pos h64] | rw [if_pos h22, if_neg h64, if_pos h81] | rw [if_pos h22, if_neg h64, if_neg h81, if_pos h98] | rw [if_pos h22, if_neg h64, if_neg h81, if_neg h98]
    · skip
      refine zk_iload (pc := 67) dX0_share_67 rfl ?_
      refine zk_ireturn (pc := 69) dX0_share_69 (Or.inl rfl) ?_
      apply zk_ri; unfold shr
      first | rw [if_neg h22, if_pos h32] | rw [if_neg h22, if_neg h32] | rw [if_pos h22, if_pos h64] | rw [if_pos h22, if_neg h64, if_pos h81] | rw [if_pos h22, if_neg h64, if_neg h81, if_pos h98] | rw [if_pos h22, if_neg h64, if_neg h81, if_neg h98]
  · rw [zb_e] at h22
    refine zk_iload_n (pc := 25) 3 dX0_share_25 rfl rfl ?_
    refine zk_aload_n (pc := 26) 0 dX0_share_26 rfl rfl ?_
    refine zk_getR (pc := 27) dX0_share_27 flX0_15 rfl rfl ?_
    refine zk_iload_n (pc := 30) 1 dX0_share_30 rfl rfl ?_
    refine zk_iaload (pc := 31) j dX0_share_31 rfl rfl hj ?_
    refine zk_icmp_ne (pc := 32) 40 dX0_share_32 (by decide) (fun h32 => ?_) (fun h32 => ?_)
    · skip
      refine zk_iconst (pc := 40) (v := 0) dX0_share_40 (by decide) ?_
      refine zk_ireturn (pc := 41) dX0_share_41 (Or.inl rfl) ?_
      apply zk_ri; unfold shr
      first | rw [if_neg h22, if_pos h32] | rw [if_neg h22, if_neg h32] | rw [if_pos h22, if_pos h64] | rw [if_pos h22, if_neg h64, if_pos h81] | rw [if_pos h22, if_neg h64, if_neg h81, if_pos h98] | rw [if_pos h22, if_neg h64, if_neg h81, if_neg h98]
    · skip
      refine zk_iload (pc := 35) dX0_share_35 rfl ?_
      refine zk_goto (pc := 37) 41 dX0_share_37 (by decide) ?_
      refine zk_ireturn (pc := 41) dX0_share_41 (Or.inl rfl) ?_
      apply zk_ri; unfold shr
      first | rw [if_neg h22, if_pos h32] | rw [if_neg h22, if_neg h32] | rw [if_pos h22, if_pos h64] | rw [if_pos h22, if_neg h64, if_pos h81] | rw [if_pos h22, if_neg h64, if_neg h81, if_pos h98] | rw [if_pos h22, if_neg h64, if_neg h81, if_neg h98]
def brth (mu : Mem) (c j : Nat) (v : Int32) (k : Nat) : Mem := zk_uc mu c (fun q => if q < k then zmin 999 (mu c q + shr (mu 24 j) (mu 25 j) (mu 23 5) v (nI q)) else mu c q)
theorem brth_0 (mu : Mem) (c j : Nat) (v : Int32) : brth mu c j v 0 = mu := by
  unfold brth
  have : (fun q => if q < 0 then zmin 999 (mu c q + shr (mu 24 j) (mu 25 j) (mu 23 5) v (nI q)) else mu c q) = mu c := by funext q; simp
  rw [this, zk_uc_self]
theorem brth_s (mu : Mem) (c j : Nat) (v : Int32) (k : Nat) : zk_up (brth mu c j v k) c k (zmin 999 (mu c k + shr (mu 24 j) (mu 25 j) (mu 23 5) v (nI k))) = brth mu c j v (k + 1) := by
  funext c' k'
  unfold brth zk_up zk_uc
  by_cases hc : c' = c
  · subst hc
    by_cases hk : k' = k
    · subst hk; simp
    · have e : (k' < k + 1) = (k' < k) := propext ⟨fun h => by omega, fun h => by omega⟩
      simp [hk, e]
  · simp [hc]
theorem brth_c (mu : Mem) {c c' : Nat} (j : Nat) (v : Int32) (k : Nat) (h : c' ≠ c) : brth mu c j v k c' = mu c' := by unfold brth; rw [zuc_c _ _ h]
theorem brth_k (mu : Mem) (c j : Nat) (v : Int32) (k : Nat) : brth mu c j v k c k = mu c k := by unfold brth; rw [zuc_s]; simp
theorem sp_X0_breatheInto {c n C j : Nat} (hs : zk_shp[c]? = some (1, n, [])) (hC : mu 23 5 = nI C) (hn : C ≤ n) (hj : j < 6) (h23 : 23 ≠ c) (h24 : 24 ≠ c) (h25 : 25 ≠ c) (v : Int32) : zk_M (d + 4) RX0 cX0_breatheInto 5 (none) none 0 (zk_loc [.ref 23, .ref c, .int (nI j), .int v] 5) [] mu lm (zk_R none (brth mu c j v C) lm) := by
  have hsm := zk_sm hs
  simp only at hsm
  have loop : ∀ k, k ≤ C → zk_M (d + 4) RX0 cX0_breatheInto 5 (none) none 3 [.ref 23, .ref c, .int (nI j), .int v, .int (nI k)] [] (brth mu c j v k) lm (zk_R none (brth mu c j v C) lm) := by
    refine zk_ind C (fun k hk ih => ?_)
    refine zk_iload (pc := 3) dX0_breatheInto_3 rfl ?_
    refine zk_aload_n (pc := 5) 0 dX0_breatheInto_5 rfl rfl ?_
    refine zk_getI (pc := 6) dX0_breatheInto_6 flX0_28 rfl rfl ?_
    refine zk_icmp_ge (pc := 9) 48 dX0_breatheInto_9 (by decide) (fun h9 => ?_) (fun h9 => ?_)
    · rw [brth_c _ _ _ _ h23, hC, nIle (by omega) (by omega)] at h9
      refine zk_return (pc := 48) dX0_breatheInto_48 rfl (zk_rv0 ?_ rfl)
      rw [show k = C by omega]
    · rw [brth_c _ _ _ _ h23, hC, nIle (by omega) (by omega)] at h9
      refine zk_iload (pc := 12) dX0_breatheInto_12 rfl ?_
      refine zk_aload_n (pc := 14) 1 dX0_breatheInto_14 rfl rfl ?_
      refine zk_alen (pc := 15) dX0_breatheInto_15 hs (by decide) ?_
      refine zk_icmp_ge (pc := 16) 48 dX0_breatheInto_16 (by decide) (fun h16 => ?_) (fun h16 => ?_)
      · rw [nIle (by omega) (by omega)] at h16
        omega --
      · skip
        refine zk_aload_n (pc := 19) 1 dX0_breatheInto_19 rfl rfl ?_
        refine zk_iload (pc := 20) dX0_breatheInto_20 rfl ?_
        refine zk_sipush (pc := 22) (v := 999) dX0_breatheInto_22 (by decide) ?_
        refine zk_aload_n (pc := 25) 1 dX0_breatheInto_25 rfl rfl ?_
        refine zk_iload (pc := 26) dX0_breatheInto_26 rfl ?_
        refine zk_iaload (pc := 28) k dX0_breatheInto_28 hs rfl (by omega) ?_
        refine zk_aload_n (pc := 29) 0 dX0_breatheInto_29 rfl rfl ?_
        refine zk_iload_n (pc := 30) 2 dX0_breatheInto_30 rfl rfl ?_
        refine zk_iload_n (pc := 31) 3 dX0_breatheInto_31 rfl rfl ?_
        refine zk_iload (pc := 32) dX0_breatheInto_32 rfl ?_
        refine zk_callVI (pc := 34) dX0_breatheInto_34 mtX0_share lkX0_61 stX0_share (by rfl) (by rfl) [_, _, _] _ rfl rfl (Nat.le_of_ble_eq_true rfl) (Nat.le_of_ble_eq_true rfl) (sp_X0_share hj _ _) ?_
        refine zk_iadd (pc := 37) dX0_breatheInto_37 ?_
        refine zk_mmin (pc := 38) dX0_breatheInto_38 lkX0_65 (Nat.le_of_ble_eq_true rfl) ?_
        refine zk_iastore (pc := 41) k dX0_breatheInto_41 hs rfl (by omega) ?_
        refine zs_iinc (pc := 42) (ls' := [_, _, _, _, _]) dX0_breatheInto_42 rfl (nI_1 k) (by decide) rfl ?_
        refine zk_goto (pc := 45) 3 dX0_breatheInto_45 (by decide) ?_
        rw [brth_c _ _ _ _ h24, brth_c _ _ _ _ h25, brth_c _ _ _ _ h23, brth_k]
        have e := ih (by omega)
        rw [← brth_s] at e
        exact e
  have e0 := loop 0 (by omega)
  rw [brth_0] at e0
  refine zk_iconst (pc := 0) (v := 0) dX0_breatheInto_0 (by decide) ?_
  refine zs_istore (pc := 1) (ls' := [_, _, _, _, _]) 4 dX0_breatheInto_1 (by decide) rfl ?_
  exact e0
/-- a member talks: memory behind it -/
def talkM (mu : Mem) (C j : Nat) (v : Int32) : Mem := zk_up (zk_up (brth mu 27 j v C) 26 j (mu 26 j + 1)) 23 9 (mu 23 9 + kSay (mu 24 j) v)
theorem sp_X0_letTalk {C j M : Nat} (hC : mu 23 5 = nI C) (hn : C ≤ 8) (hM : mu 23 6 = nI M) (hM6 : M ≤ 6) (hj : j < M) (v : Int32) : zk_M (d + 5) RX0 cX0_letTalk 4 (some .int) none 0 (zk_loc [.ref 23, .int (nI j), .int v] 4) [] mu lm (zk_R (some (.int (kSay (mu 24 j) v))) (talkM mu C j v) lm) := by
  refine zk_aload_n (pc := 0) 0 dX0_letTalk_0 rfl rfl ?_
  refine zk_iload_n (pc := 1) 1 dX0_letTalk_1 rfl rfl ?_
  refine zk_callVI (pc := 2) dX0_letTalk_2 mtX0_hasMember lkX0_70 stX0_hasMember (by rfl) (by rfl) [_] _ rfl rfl (Nat.le_of_ble_eq_true rfl) (Nat.le_of_ble_eq_true rfl) (sp_X0_hasMember _) ?_
  refine zk_if_ne (pc := 5) 10 dX0_letTalk_5 (by decide) (fun h5 => ?_) (fun h5 => ?_)
  · rw [zb_n] at h5
    refine zk_aload_n (pc := 10) 0 dX0_letTalk_10 rfl rfl ?_
    refine zk_getR (pc := 11) dX0_letTalk_11 flX0_9 rfl rfl ?_
    refine zk_iload_n (pc := 14) 1 dX0_letTalk_14 rfl rfl ?_
    refine zk_iaload (pc := 15) j dX0_letTalk_15 rfl rfl (by omega) ?_
    refine zk_iload_n (pc := 16) 2 dX0_letTalk_16 rfl rfl ?_
    refine zk_callSI (pc := 17) dX0_letTalk_17 mtX2_spoken lkX0_73 stX2_spoken [_, _] _ rfl rfl (Nat.le_of_ble_eq_true rfl) (Nat.le_of_ble_eq_true rfl) (sp_X2_spoken _ _) ?_
    refine zs_istore_n (pc := 20) (ls' := [_, _, _, _]) 3 dX0_letTalk_20 rfl (by decide) rfl ?_
    refine zk_aload_n (pc := 21) 0 dX0_letTalk_21 rfl rfl ?_
    refine zk_aload_n (pc := 22) 0 dX0_letTalk_22 rfl rfl ?_
    refine zk_getR (pc := 23) dX0_letTalk_23 flX0_21 rfl rfl ?_
    refine zk_iload_n (pc := 26) 1 dX0_letTalk_26 rfl rfl ?_
    refine zk_iload_n (pc := 27) 2 dX0_letTalk_27 rfl rfl ?_
    refine zk_callVV (pc := 28) dX0_letTalk_28 mtX0_breatheInto lkX0_76 stX0_breatheInto (by rfl) (by rfl) [_, _, _] _ rfl rfl (Nat.le_of_ble_eq_true rfl) (Nat.le_of_ble_eq_true rfl) (sp_X0_breatheInto (c := 27) (n := 8) rfl hC hn (by omega) (by decide) (by decide) (by decide) v) ?_
    refine zk_aload_n (pc := 31) 0 dX0_letTalk_31 rfl rfl ?_
    refine zk_getR (pc := 32) dX0_letTalk_32 flX0_18 rfl rfl ?_
    refine zk_iload_n (pc := 35) 1 dX0_letTalk_35 rfl rfl ?_
    refine zk_dup2 (pc := 36) dX0_letTalk_36 rfl rfl ?_
    refine zk_iaload (pc := 37) j dX0_letTalk_37 rfl rfl (by omega) ?_
    refine zk_iconst (pc := 38) (v := 1) dX0_letTalk_38 (by decide) ?_
    refine zk_iadd (pc := 39) dX0_letTalk_39 ?_
    refine zk_iastore (pc := 40) j dX0_letTalk_40 rfl rfl (by omega) ?_
    refine zk_aload_n (pc := 41) 0 dX0_letTalk_41 rfl rfl ?_
    refine zk_dup (pc := 42) dX0_letTalk_42 rfl ?_
    refine zk_getI (pc := 43) dX0_letTalk_43 flX0_41 rfl rfl ?_
    refine zk_iload_n (pc := 46) 3 dX0_letTalk_46 rfl rfl ?_
    refine zk_iadd (pc := 47) dX0_letTalk_47 ?_
    refine zk_putI (pc := 48) dX0_letTalk_48 flX0_41 rfl rfl ?_
    refine zk_iload_n (pc := 51) 3 dX0_letTalk_51 rfl rfl ?_
    refine zk_ireturn (pc := 52) dX0_letTalk_52 (Or.inl rfl) (zk_rm rfl ?_ rfl)
    unfold talkM
    rw [brth_c _ _ _ _ (by decide), zup_c _ _ _ (by decide), brth_c _ _ _ _ (by decide)]
  · exact absurd (show 0 ≤ nI j ∧ nI j < mu 23 6 from ⟨nI_pos' (by omega), by rw [hM, nIlt (by omega) (by omega)]; exact hj⟩) (by rw [zb_e] at h5; exact h5) --
def hourA (mu : Mem) (k : Nat) : Mem := zk_uc mu 27 (fun q => if q < k then zmax 0 (mu 27 q - mu 23 4 * 1) else mu 27 q)
theorem hourA_0 (mu : Mem) : hourA mu 0 = mu := by
  unfold hourA
  have : (fun q => if q < 0 then zmax 0 (mu 27 q - mu 23 4 * 1) else mu 27 q) = mu 27 := by funext q; simp
  rw [this, zk_uc_self]
theorem hourA_s (mu : Mem) (k : Nat) : zk_up (hourA mu k) 27 k (zmax 0 (mu 27 k - mu 23 4 * 1)) = hourA mu (k + 1) := by
  funext c' k'
  unfold hourA zk_up zk_uc
  by_cases hc : c' = 27
  · subst hc
    by_cases hk : k' = k
    · subst hk; simp
    · have e : (k' < k + 1) = (k' < k) := propext ⟨fun h => by omega, fun h => by omega⟩
      simp [hk, e]
  · simp [hc]
theorem hourA_c (mu : Mem) {c' : Nat} (k : Nat) (h : c' ≠ 27) : hourA mu k c' = mu c' := by unfold hourA; rw [zuc_c _ _ h]
theorem hourA_k (mu : Mem) (k : Nat) : hourA mu k 27 k = mu 27 k := by unfold hourA; rw [zuc_s]; simp
/-- an hour: memory behind it -/
def hourM (mu : Mem) (C : Nat) : Mem := zk_up (hourA mu C) 23 7 (mu 23 7 + 1)
theorem sp_X0_passHour {C : Nat} (hC : mu 23 5 = nI C) (hn : C ≤ 8) : zk_M (d + 2) RX0 cX0_passHour 3 (some .int) none 0 (zk_loc [.ref 23] 3) [] mu lm (zk_R (some (.int (zsum C (mu 27) - zsum C (hourM mu C 27)))) (hourM mu C) lm) := by
  have loop : ∀ b : Int32, ∀ k, k ≤ C → zk_M (d + 2) RX0 cX0_passHour 3 (some .int) none 7 [.ref 23, .int b, .int (nI k)] [] (hourA mu k) lm (zk_R (some (.int (b - zsum C (hourM mu C 27)))) (hourM mu C) lm) := by
    intro b
    refine zk_ind C (fun k hk ih => ?_)
    refine zk_iload_n (pc := 7) 2 dX0_passHour_7 rfl rfl ?_
    refine zk_aload_n (pc := 8) 0 dX0_passHour_8 rfl rfl ?_
    refine zk_getI (pc := 9) dX0_passHour_9 flX0_28 rfl rfl ?_
    refine zk_icmp_ge (pc := 12) 33 dX0_passHour_12 (by decide) (fun h12 => ?_) (fun h12 => ?_)
    · rw [hourA_c _ _ (by decide), hC, nIle (by omega) (by omega)] at h12
      obtain rfl : k = C := by omega
      rw [show hourA mu k = hourA mu k from rfl]
      refine zk_aload_n (pc := 33) 0 dX0_passHour_33 rfl rfl ?_
      refine zk_dup (pc := 34) dX0_passHour_34 rfl ?_
      refine zk_getI (pc := 35) dX0_passHour_35 flX0_35 rfl rfl ?_
      refine zk_iconst (pc := 38) (v := 1) dX0_passHour_38 (by decide) ?_
      refine zk_iadd (pc := 39) dX0_passHour_39 ?_
      refine zk_putI (pc := 40) dX0_passHour_40 flX0_35 rfl rfl ?_
      refine zk_iload_n (pc := 43) 1 dX0_passHour_43 rfl rfl ?_
      refine zk_aload_n (pc := 44) 0 dX0_passHour_44 rfl rfl ?_
      refine zk_callVI (pc := 45) dX0_passHour_45 mtX0_allSmoke lkX0_80 stX0_allSmoke (by rfl) (by rfl) [] _ rfl rfl (Nat.le_of_ble_eq_true rfl) (Nat.le_of_ble_eq_true rfl) (sp_X0_allSmoke (C := k) (by rw [zup_k _ _ _ (by decide), hourA_c _ _ (by decide)]; exact hC) hn) ?_
      refine zk_isub (pc := 48) dX0_passHour_48 ?_
      refine zk_ireturn (pc := 49) dX0_passHour_49 (Or.inl rfl) (zk_rm ?_ ?_ rfl)
      · rw [hourA_c _ _ (by decide)]; rfl
      · rw [hourA_c _ _ (by decide)]; rfl
    · rw [hourA_c _ _ (by decide), hC, nIle (by omega) (by omega)] at h12
      refine zk_aload_n (pc := 15) 0 dX0_passHour_15 rfl rfl ?_
      refine zk_getR (pc := 16) dX0_passHour_16 flX0_21 rfl rfl ?_
      refine zk_iload_n (pc := 19) 2 dX0_passHour_19 rfl rfl ?_
      refine zk_aload_n (pc := 20) 0 dX0_passHour_20 rfl rfl ?_
      refine zk_iload_n (pc := 21) 2 dX0_passHour_21 rfl rfl ?_
      refine zk_iconst (pc := 22) (v := 1) dX0_passHour_22 (by decide) ?_
      refine zk_callVI (pc := 23) dX0_passHour_23 mtX0_smokeIn lkX0_84 stX0_smokeIn (by rfl) (by rfl) [_, _] _ rfl rfl (Nat.le_of_ble_eq_true rfl) (Nat.le_of_ble_eq_true rfl) (sp_X0_smokeIn (by omega) 1) ?_
      refine zk_iastore (pc := 26) k dX0_passHour_26 rfl rfl (by omega) ?_
      refine zs_iinc (pc := 27) (ls' := [_, _, _]) dX0_passHour_27 rfl (nI_1 k) (by decide) rfl ?_
      refine zk_goto (pc := 30) 7 dX0_passHour_30 (by decide) ?_
      rw [hourA_c (c' := 23) _ _ (by decide), hourA_k]
      have e := ih (by omega)
      rw [← hourA_s] at e
      exact e
  have e0 := loop (zsum C (mu 27)) 0 (by omega)
  rw [hourA_0] at e0
  refine zk_aload_n (pc := 0) 0 dX0_passHour_0 rfl rfl ?_
  refine zk_callVI (pc := 1) dX0_passHour_1 mtX0_allSmoke lkX0_80 stX0_allSmoke (by rfl) (by rfl) [] _ rfl rfl (Nat.le_of_ble_eq_true rfl) (Nat.le_of_ble_eq_true rfl) (sp_X0_allSmoke hC hn) ?_
  refine zs_istore_n (pc := 4) (ls' := [_, _, _]) 1 dX0_passHour_4 rfl (by decide) rfl ?_
  refine zk_iconst (pc := 5) (v := 0) dX0_passHour_5 (by decide) ?_
  refine zs_istore_n (pc := 6) (ls' := [_, _, _]) 2 dX0_passHour_6 rfl (by decide) rfl ?_
  exact e0
theorem sp_X0_openCell {C c : Nat} (hC : mu 23 5 = nI C) (hn : C ≤ 8) (hc : c < C) : zk_M (d + 1) RX0 cX0_openCell 3 (some .int) none 0 (zk_loc [.ref 23, .int (nI c)] 3) [] mu lm (zk_R (some (.int (mu 27 c))) (zk_up mu 27 c 0) lm) := by
  refine zk_aload_n (pc := 0) 0 dX0_openCell_0 rfl rfl ?_
  refine zk_iload_n (pc := 1) 1 dX0_openCell_1 rfl rfl ?_
  refine zk_callVI (pc := 2) dX0_openCell_2 mtX0_hasCell lkX0_31 stX0_hasCell (by rfl) (by rfl) [_] _ rfl rfl (Nat.le_of_ble_eq_true rfl) (Nat.le_of_ble_eq_true rfl) (sp_X0_hasCell _) ?_
  refine zk_if_ne (pc := 5) 10 dX0_openCell_5 (by decide) (fun h5 => ?_) (fun h5 => ?_)
  · rw [zb_n] at h5
    refine zk_aload_n (pc := 10) 0 dX0_openCell_10 rfl rfl ?_
    refine zk_getR (pc := 11) dX0_openCell_11 flX0_21 rfl rfl ?_
    refine zk_iload_n (pc := 14) 1 dX0_openCell_14 rfl rfl ?_
    refine zk_iaload (pc := 15) c dX0_openCell_15 rfl rfl (by omega) ?_
    refine zs_istore_n (pc := 16) (ls' := [_, _, _]) 2 dX0_openCell_16 rfl (by decide) rfl ?_
    refine zk_aload_n (pc := 17) 0 dX0_openCell_17 rfl rfl ?_
    refine zk_getR (pc := 18) dX0_openCell_18 flX0_21 rfl rfl ?_
    refine zk_iload_n (pc := 21) 1 dX0_openCell_21 rfl rfl ?_
    refine zk_iconst (pc := 22) (v := 0) dX0_openCell_22 (by decide) ?_
    refine zk_iastore (pc := 23) c dX0_openCell_23 rfl rfl (by omega) ?_
    refine zk_iload_n (pc := 24) 2 dX0_openCell_24 rfl rfl ?_
    exact zk_ireturn (pc := 25) dX0_openCell_25 (Or.inl rfl) (zk_rm rfl rfl rfl)
  · exact absurd (show 0 ≤ nI c ∧ nI c < mu 23 5 from ⟨nI_pos' (by omega), by rw [hC, nIlt (by omega) (by omega)]; exact hc⟩) (by rw [zb_e] at h5; exact h5) --
/-- thunder: memory behind it -/
def thunM (mu : Mem) (C : Nat) : Mem := zfill (zk_up mu 23 8 (mu 23 8 + zsum C (mu 27))) 27 C 0
theorem sp_X0_comeDown {C : Nat} (hC : mu 23 5 = nI C) (hn : C ≤ 8) : zk_M (d + 2) RX0 cX0_comeDown 2 (some .int) none 0 (zk_loc [.ref 23] 2) [] mu lm (zk_R (some (.int (mu 23 8 + zsum C (mu 27)))) (thunM mu C) lm) := by
  have loop : ∀ nu : Mem, nu 23 5 = nI C → ∀ k, k ≤ C → zk_M (d + 2) RX0 cX0_comeDown 2 (some .int) none 15 [.ref 23, .int (nI k)] [] (zfill nu 27 k 0) lm (zk_R (some (.int (nu 23 8))) (zfill nu 27 C 0) lm) := by
    intro nu hC
    refine zk_ind C (fun k hk ih => ?_)
    refine zk_iload_n (pc := 15) 1 dX0_comeDown_15 rfl rfl ?_
    refine zk_aload_n (pc := 16) 0 dX0_comeDown_16 rfl rfl ?_
    refine zk_getI (pc := 17) dX0_comeDown_17 flX0_28 rfl rfl ?_
    refine zk_icmp_ge (pc := 20) 36 dX0_comeDown_20 (by decide) (fun h20 => ?_) (fun h20 => ?_)
    · rw [zfill_c _ _ _ _ (by decide), hC, nIle (by omega) (by omega)] at h20
      refine zk_aload_n (pc := 36) 0 dX0_comeDown_36 rfl rfl ?_
      refine zk_getI (pc := 37) dX0_comeDown_37 flX0_38 rfl rfl ?_
      refine zk_ireturn (pc := 40) dX0_comeDown_40 (Or.inl rfl) (zk_rm ?_ ?_ rfl)
      · rw [zfill_c _ _ _ _ (by decide)]
      · rw [show k = C by omega]
    · rw [zfill_c _ _ _ _ (by decide), hC, nIle (by omega) (by omega)] at h20
      refine zk_aload_n (pc := 23) 0 dX0_comeDown_23 rfl rfl ?_
      refine zk_getR (pc := 24) dX0_comeDown_24 flX0_21 rfl rfl ?_
      refine zk_iload_n (pc := 27) 1 dX0_comeDown_27 rfl rfl ?_
      refine zk_iconst (pc := 28) (v := 0) dX0_comeDown_28 (by decide) ?_
      refine zk_iastore (pc := 29) k dX0_comeDown_29 rfl rfl (by omega) ?_
      refine zs_iinc (pc := 30) (ls' := [_, _]) dX0_comeDown_30 rfl (nI_1 k) (by decide) rfl ?_
      refine zk_goto (pc := 33) 15 dX0_comeDown_33 (by decide) ?_
      have e := ih (by omega)
      rw [← zfill_s] at e
      exact e
  have e0 := loop (zk_up mu 23 8 (mu 23 8 + zsum C (mu 27))) (by rw [zup_k _ _ _ (by decide)]; exact hC) 0 (by omega)
  rw [zfill_0, zup_s] at e0
  refine zk_aload_n (pc := 0) 0 dX0_comeDown_0 rfl rfl ?_
  refine zk_dup (pc := 1) dX0_comeDown_1 rfl ?_
  refine zk_getI (pc := 2) dX0_comeDown_2 flX0_38 rfl rfl ?_
  refine zk_aload_n (pc := 5) 0 dX0_comeDown_5 rfl rfl ?_
  refine zk_callVI (pc := 6) dX0_comeDown_6 mtX0_allSmoke lkX0_80 stX0_allSmoke (by rfl) (by rfl) [] _ rfl rfl (Nat.le_of_ble_eq_true rfl) (Nat.le_of_ble_eq_true rfl) (sp_X0_allSmoke hC hn) ?_
  refine zk_iadd (pc := 9) dX0_comeDown_9 ?_
  refine zk_putI (pc := 10) dX0_comeDown_10 flX0_38 rfl rfl ?_
  refine zk_iconst (pc := 13) (v := 0) dX0_comeDown_13 (by decide) ?_
  refine zs_istore_n (pc := 14) (ls' := [_, _]) 1 dX0_comeDown_14 rfl (by decide) rfl ?_
  exact e0
end M23
