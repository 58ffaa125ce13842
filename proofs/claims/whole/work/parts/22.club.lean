section M22
variable {d : Nat} {mu : Mem} {lm : MemL}
theorem sp_X0_hasMember (i : Int32) : zk_M d RX0 cX0_hasMember 2 (some .boolean) none 0 (zk_loc [.ref 23, .int i] 2) [] mu lm (zk_R (some (.int (zb (0 ≤ i ∧ i < mu 23 6)))) mu lm) := by
  refine zk_iload_n (pc := 0) 1 dX0_hasMember_0 rfl rfl ?_
  refine zk_if_lt (pc := 1) 16 dX0_hasMember_1 (by decide) (fun h1 => ?_) (fun h1 => ?_)
  · skip
    refine zk_iconst (pc := 16) (v := 0) dX0_hasMember_16 (by decide) ?_
    refine zk_ireturn (pc := 17) dX0_hasMember_17 (Or.inr ⟨rfl, by first | exact Or.inl rfl | exact Or.inr rfl⟩) ?_
    apply zk_ri; unfold zb; simp only [zlt, zle] at *; split <;> first | rfl | (exfalso; omega)
  · skip
    refine zk_iload_n (pc := 4) 1 dX0_hasMember_4 rfl rfl ?_
    refine zk_aload_n (pc := 5) 0 dX0_hasMember_5 rfl rfl ?_
    refine zk_getI (pc := 6) dX0_hasMember_6 flX0_24 rfl rfl ?_
    refine zk_icmp_ge (pc := 9) 16 dX0_hasMember_9 (by decide) (fun h9 => ?_) (fun h9 => ?_)
    · skip
      refine zk_iconst (pc := 16) (v := 0) dX0_hasMember_16 (by decide) ?_
      refine zk_ireturn (pc := 17) dX0_hasMember_17 (Or.inr ⟨rfl, by first | exact Or.inl rfl | exact Or.inr rfl⟩) ?_
      apply zk_ri; unfold zb; simp only [zlt, zle] at *; split <;> first | rfl | (exfalso; omega)
    · skip
      refine zk_iconst (pc := 12) (v := 1) dX0_hasMember_12 (by decide) ?_
      refine zk_goto (pc := 13) 17 dX0_hasMember_13 (by decide) ?_
      refine zk_ireturn (pc := 17) dX0_hasMember_17 (Or.inr ⟨rfl, by first | exact Or.inl rfl | exact Or.inr rfl⟩) ?_
      apply zk_ri; unfold zb; simp only [zlt, zle] at *; split <;> first | rfl | (exfalso; omega)
theorem sp_X0_hasCell (i : Int32) : zk_M d RX0 cX0_hasCell 2 (some .boolean) none 0 (zk_loc [.ref 23, .int i] 2) [] mu lm (zk_R (some (.int (zb (0 ≤ i ∧ i < mu 23 5)))) mu lm) := by
  refine zk_iload_n (pc := 0) 1 dX0_hasCell_0 rfl rfl ?_
  refine zk_if_lt (pc := 1) 16 dX0_hasCell_1 (by decide) (fun h1 => ?_) (fun h1 => ?_)
  · skip
    refine zk_iconst (pc := 16) (v := 0) dX0_hasCell_16 (by decide) ?_
    refine zk_ireturn (pc := 17) dX0_hasCell_17 (Or.inr ⟨rfl, by first | exact Or.inl rfl | exact Or.inr rfl⟩) ?_
    apply zk_ri; unfold zb; simp only [zlt, zle] at *; split <;> first | rfl | (exfalso; omega)
  · skip
    refine zk_iload_n (pc := 4) 1 dX0_hasCell_4 rfl rfl ?_
    refine zk_aload_n (pc := 5) 0 dX0_hasCell_5 rfl rfl ?_
    refine zk_getI (pc := 6) dX0_hasCell_6 flX0_28 rfl rfl ?_
    refine zk_icmp_ge (pc := 9) 16 dX0_hasCell_9 (by decide) (fun h9 => ?_) (fun h9 => ?_)
    · skip
      refine zk_iconst (pc := 16) (v := 0) dX0_hasCell_16 (by decide) ?_
      refine zk_ireturn (pc := 17) dX0_hasCell_17 (Or.inr ⟨rfl, by first | exact Or.inl rfl | exact Or.inr rfl⟩) ?_
      apply zk_ri; unfold zb; simp only [zlt, zle] at *; split <;> first | rfl | (exfalso; omega)
    · skip
      refine zk_iconst (pc := 12) (v := 1) dX0_hasCell_12 (by decide) ?_
      refine zk_goto (pc := 13) 17 dX0_hasCell_13 (by decide) ?_
      refine zk_ireturn (pc := 17) dX0_hasCell_17 (Or.inr ⟨rfl, by first | exact Or.inl rfl | exact Or.inr rfl⟩) ?_
      apply zk_ri; unfold zb; simp only [zlt, zle] at *; split <;> first | rfl | (exfalso; omega)
def cBeh (cells c : Int32) : Int32 := if cells ≤ c + 1 then 0 else c + 1
def cAhd (cells c : Int32) : Int32 := if c ≤ 0 then cells - 1 else c - 1
theorem sp_X0_behind (c : Int32) : zk_M d RX0 cX0_behind 2 (some .int) none 0 (zk_loc [.ref 23, .int c] 2) [] mu lm (zk_R (some (.int (cBeh (mu 23 5) c))) mu lm) := by
  refine zk_iload_n (pc := 0) 1 dX0_behind_0 rfl rfl ?_
  refine zk_iconst (pc := 1) (v := 1) dX0_behind_1 (by decide) ?_
  refine zk_iadd (pc := 2) dX0_behind_2 ?_
  refine zk_aload_n (pc := 3) 0 dX0_behind_3 rfl rfl ?_
  refine zk_getI (pc := 4) dX0_behind_4 flX0_28 rfl rfl ?_
  refine zk_icmp_ge (pc := 7) 16 dX0_behind_7 (by decide) (fun h7 => ?_) (fun h7 => ?_)
  · skip
    refine zk_iconst (pc := 16) (v := 0) dX0_behind_16 (by decide) ?_
    refine zk_ireturn (pc := 17) dX0_behind_17 (Or.inl rfl) ?_
    apply zk_ri; unfold cBeh; first | rw [if_pos h7] | rw [if_neg h7]
  · skip
    refine zk_iload_n (pc := 10) 1 dX0_behind_10 rfl rfl ?_
    refine zk_iconst (pc := 11) (v := 1) dX0_behind_11 (by decide) ?_
    refine zk_iadd (pc := 12) dX0_behind_12 ?_
    refine zk_goto (pc := 13) 17 dX0_behind_13 (by decide) ?_
    refine zk_ireturn (pc := 17) dX0_behind_17 (Or.inl rfl) ?_
    apply zk_ri; unfold cBeh; first | rw [if_pos h7] | rw [if_neg h7]
theorem sp_X0_ahead (c : Int32) : zk_M d RX0 cX0_ahead 2 (some .int) none 0 (zk_loc [.ref 23, .int c] 2) [] mu lm (zk_R (some (.int (cAhd (mu 23 5) c))) mu lm) := by
  refine zk_iload_n (pc := 0) 1 dX0_ahead_0 rfl rfl ?_
  refine zk_if_le (pc := 1) 10 dX0_ahead_1 (by decide) (fun h1 => ?_) (fun h1 => ?_)
  · skip
    refine zk_aload_n (pc := 10) 0 dX0_ahead_10 rfl rfl ?_
    refine zk_getI (pc := 11) dX0_ahead_11 flX0_28 rfl rfl ?_
    refine zk_iconst (pc := 14) (v := 1) dX0_ahead_14 (by decide) ?_
    refine zk_isub (pc := 15) dX0_ahead_15 ?_
    refine zk_ireturn (pc := 16) dX0_ahead_16 (Or.inl rfl) ?_
    apply zk_ri; unfold cAhd; first | rw [if_pos h1] | rw [if_neg h1]
  · skip
    refine zk_iload_n (pc := 4) 1 dX0_ahead_4 rfl rfl ?_
    refine zk_iconst (pc := 5) (v := 1) dX0_ahead_5 (by decide) ?_
    refine zk_isub (pc := 6) dX0_ahead_6 ?_
    refine zk_goto (pc := 7) 16 dX0_ahead_7 (by decide) ?_
    refine zk_ireturn (pc := 16) dX0_ahead_16 (Or.inl rfl) ?_
    apply zk_ri; unfold cAhd; first | rw [if_pos h1] | rw [if_neg h1]
theorem sp_X0_sumOf {c n C : Nat} (hs : zk_shp[c]? = some (1, n, [])) (hC : mu 23 5 = nI C) (hn : C ≤ n) : zk_M d RX0 cX0_sumOf 4 (some .int) none 0 (zk_loc [.ref 23, .ref c] 4) [] mu lm (zk_R (some (.int (zsum C (mu c)))) mu lm) := by
  have hsm := zk_sm hs
  simp only at hsm
  have loop : ∀ k, k ≤ C → zk_M d RX0 cX0_sumOf 4 (some .int) none 4 [.ref 23, .ref c, .int (zsum k (mu c)), .int (nI k)] [] mu lm (zk_R (some (.int (zsum C (mu c)))) mu lm) := by
    refine zk_ind C (fun k hk ih => ?_)
    refine zk_iload_n (pc := 4) 3 dX0_sumOf_4 rfl rfl ?_
    refine zk_aload_n (pc := 5) 0 dX0_sumOf_5 rfl rfl ?_
    refine zk_getI (pc := 6) dX0_sumOf_6 flX0_28 rfl rfl ?_
    refine zk_icmp_ge (pc := 9) 30 dX0_sumOf_9 (by decide) (fun h9 => ?_) (fun h9 => ?_)
    · rw [hC, nIle (by omega) (by omega)] at h9
      refine zk_iload_n (pc := 30) 2 dX0_sumOf_30 rfl rfl ?_
      refine zk_ireturn (pc := 31) dX0_sumOf_31 (Or.inl rfl) (zk_ri ?_)
      rw [show k = C by omega]
    · rw [hC, nIle (by omega) (by omega)] at h9
      refine zk_iload_n (pc := 12) 3 dX0_sumOf_12 rfl rfl ?_
      refine zk_aload_n (pc := 13) 1 dX0_sumOf_13 rfl rfl ?_
      refine zk_alen (pc := 14) dX0_sumOf_14 hs (by decide) ?_
      refine zk_icmp_ge (pc := 15) 30 dX0_sumOf_15 (by decide) (fun h15 => ?_) (fun h15 => ?_)
      · rw [nIle (by omega) (by omega)] at h15
        omega --
      · skip
        refine zk_iload_n (pc := 18) 2 dX0_sumOf_18 rfl rfl ?_
        refine zk_aload_n (pc := 19) 1 dX0_sumOf_19 rfl rfl ?_
        refine zk_iload_n (pc := 20) 3 dX0_sumOf_20 rfl rfl ?_
        refine zk_iaload (pc := 21) k dX0_sumOf_21 hs rfl (by omega) ?_
        refine zk_iadd (pc := 22) dX0_sumOf_22 ?_
        refine zs_istore_n (pc := 23) (ls' := [_, _, _, _]) 2 dX0_sumOf_23 rfl (by decide) rfl ?_
        refine zs_iinc (pc := 24) (ls' := [_, _, _, _]) dX0_sumOf_24 rfl (nI_1 k) (by decide) rfl ?_
        refine zk_goto (pc := 27) 4 dX0_sumOf_27 (by decide) ?_
        exact ih (by omega)
  refine zk_iconst (pc := 0) (v := 0) dX0_sumOf_0 (by decide) ?_
  refine zs_istore_n (pc := 1) (ls' := [_, _, _, _]) 2 dX0_sumOf_1 rfl (by decide) rfl ?_
  refine zk_iconst (pc := 2) (v := 0) dX0_sumOf_2 (by decide) ?_
  refine zs_istore_n (pc := 3) (ls' := [_, _, _, _]) 3 dX0_sumOf_3 rfl (by decide) rfl ?_
  exact loop 0 (by omega)
theorem sp_X0_allSmoke {C : Nat} (hC : mu 23 5 = nI C) (hn : C ≤ 8) : zk_M (d + 1) RX0 cX0_allSmoke 1 (some .int) none 0 (zk_loc [.ref 23] 1) [] mu lm (zk_R (some (.int (zsum C (mu 27)))) mu lm) := by
  refine zk_aload_n (pc := 0) 0 dX0_allSmoke_0 rfl rfl ?_
  refine zk_aload_n (pc := 1) 0 dX0_allSmoke_1 rfl rfl ?_
  refine zk_getR (pc := 2) dX0_allSmoke_2 flX0_21 rfl rfl ?_
  refine zk_callVI (pc := 5) dX0_allSmoke_5 mtX0_sumOf lkX0_93 stX0_sumOf (by rfl) (by rfl) [_] _ rfl rfl (Nat.le_of_ble_eq_true rfl) (Nat.le_of_ble_eq_true rfl) (sp_X0_sumOf (c := 27) (n := 8) rfl hC hn) ?_
  refine zk_ireturn (pc := 8) dX0_allSmoke_8 (Or.inl rfl) ?_
  exact zk_ri rfl
def zmax (x y : Int32) : Int32 := if x < y then y else x
def zmin (x y : Int32) : Int32 := if y < x then y else x
def zmx : Nat → (Nat → Int32) → Int32
  | 0, _ => 0
  | k + 1, f => zmax (zmx k f) (f k)
theorem sp_X0_fullestOf {c n C : Nat} (hs : zk_shp[c]? = some (1, n, [])) (hC : mu 23 5 = nI C) (hn : C ≤ n) : zk_M (d + 1) RX0 cX0_fullestOf 4 (some .int) none 0 (zk_loc [.ref 23, .ref c] 4) [] mu lm (zk_R (some (.int (zmx C (mu c)))) mu lm) := by
  have hsm := zk_sm hs
  simp only at hsm
  have loop : ∀ k, k ≤ C → zk_M (d + 1) RX0 cX0_fullestOf 4 (some .int) none 4 [.ref 23, .ref c, .int (zmx k (mu c)), .int (nI k)] [] mu lm (zk_R (some (.int (zmx C (mu c)))) mu lm) := by
    refine zk_ind C (fun k hk ih => ?_)
    refine zk_iload_n (pc := 4) 3 dX0_fullestOf_4 rfl rfl ?_
    refine zk_aload_n (pc := 5) 0 dX0_fullestOf_5 rfl rfl ?_
    refine zk_getI (pc := 6) dX0_fullestOf_6 flX0_28 rfl rfl ?_
    refine zk_icmp_ge (pc := 9) 32 dX0_fullestOf_9 (by decide) (fun h9 => ?_) (fun h9 => ?_)
    · rw [hC, nIle (by omega) (by omega)] at h9
      refine zk_iload_n (pc := 32) 2 dX0_fullestOf_32 rfl rfl ?_
      refine zk_ireturn (pc := 33) dX0_fullestOf_33 (Or.inl rfl) (zk_ri ?_)
      rw [show k = C by omega]
    · rw [hC, nIle (by omega) (by omega)] at h9
      refine zk_iload_n (pc := 12) 3 dX0_fullestOf_12 rfl rfl ?_
      refine zk_aload_n (pc := 13) 1 dX0_fullestOf_13 rfl rfl ?_
      refine zk_alen (pc := 14) dX0_fullestOf_14 hs (by decide) ?_
      refine zk_icmp_ge (pc := 15) 32 dX0_fullestOf_15 (by decide) (fun h15 => ?_) (fun h15 => ?_)
      · rw [nIle (by omega) (by omega)] at h15
        omega --
      · skip
        refine zk_iload_n (pc := 18) 2 dX0_fullestOf_18 rfl rfl ?_
        refine zk_aload_n (pc := 19) 1 dX0_fullestOf_19 rfl rfl ?_
        refine zk_iload_n (pc := 20) 3 dX0_fullestOf_20 rfl rfl ?_
        refine zk_iaload (pc := 21) k dX0_fullestOf_21 hs rfl (by omega) ?_
        refine zk_mmax (pc := 22) dX0_fullestOf_22 lkX0_90 (Nat.le_of_ble_eq_true rfl) ?_
        refine zs_istore_n (pc := 25) (ls' := [_, _, _, _]) 2 dX0_fullestOf_25 rfl (by decide) rfl ?_
        refine zs_iinc (pc := 26) (ls' := [_, _, _, _]) dX0_fullestOf_26 rfl (nI_1 k) (by decide) rfl ?_
        refine zk_goto (pc := 29) 4 dX0_fullestOf_29 (by decide) ?_
        exact ih (by omega)
  refine zk_iconst (pc := 0) (v := 0) dX0_fullestOf_0 (by decide) ?_
  refine zs_istore_n (pc := 1) (ls' := [_, _, _, _]) 2 dX0_fullestOf_1 rfl (by decide) rfl ?_
  refine zk_iconst (pc := 2) (v := 0) dX0_fullestOf_2 (by decide) ?_
  refine zs_istore_n (pc := 3) (ls' := [_, _, _, _]) 3 dX0_fullestOf_3 rfl (by decide) rfl ?_
  exact loop 0 (by omega)
theorem sp_X0_smokeIn {j : Nat} (hj : j < 8) (n : Int32) : zk_M (d + 1) RX0 cX0_smokeIn 3 (some .int) none 0 (zk_loc [.ref 23, .int (nI j), .int n] 3) [] mu lm (zk_R (some (.int (zmax 0 (mu 27 j - mu 23 4 * n)))) mu lm) := by
  refine zk_iconst (pc := 0) (v := 0) dX0_smokeIn_0 (by decide) ?_
  refine zk_aload_n (pc := 1) 0 dX0_smokeIn_1 rfl rfl ?_
  refine zk_getR (pc := 2) dX0_smokeIn_2 flX0_21 rfl rfl ?_
  refine zk_iload_n (pc := 5) 1 dX0_smokeIn_5 rfl rfl ?_
  refine zk_iaload (pc := 6) j dX0_smokeIn_6 rfl rfl hj ?_
  refine zk_aload_n (pc := 7) 0 dX0_smokeIn_7 rfl rfl ?_
  refine zk_getI (pc := 8) dX0_smokeIn_8 flX0_87 rfl rfl ?_
  refine zk_iload_n (pc := 11) 2 dX0_smokeIn_11 rfl rfl ?_
  refine zk_imul (pc := 12) dX0_smokeIn_12 ?_
  refine zk_isub (pc := 13) dX0_smokeIn_13 ?_
  refine zk_mmax (pc := 14) dX0_smokeIn_14 lkX0_90 (Nat.le_of_ble_eq_true rfl) ?_
  refine zk_ireturn (pc := 17) dX0_smokeIn_17 (Or.inl rfl) ?_
  exact zk_ri rfl
theorem sp_X0_allSmokeIn {C : Nat} (hC : mu 23 5 = nI C) (hn : C ≤ 8) (n : Int32) : zk_M (d + 2) RX0 cX0_allSmokeIn 4 (some .int) none 0 (zk_loc [.ref 23, .int n] 4) [] mu lm (zk_R (some (.int (zsum C (fun j => zmax 0 (mu 27 j - mu 23 4 * n))))) mu lm) := by
  have loop : ∀ k, k ≤ C → zk_M (d + 2) RX0 cX0_allSmokeIn 4 (some .int) none 4 [.ref 23, .int n, .int (zsum k (fun j => zmax 0 (mu 27 j - mu 23 4 * n))), .int (nI k)] [] mu lm (zk_R (some (.int (zsum C (fun j => zmax 0 (mu 27 j - mu 23 4 * n))))) mu lm) := by
    refine zk_ind C (fun k hk ih => ?_)
    refine zk_iload_n (pc := 4) 3 dX0_allSmokeIn_4 rfl rfl ?_
    refine zk_aload_n (pc := 5) 0 dX0_allSmokeIn_5 rfl rfl ?_
    refine zk_getI (pc := 6) dX0_allSmokeIn_6 flX0_28 rfl rfl ?_
    refine zk_icmp_ge (pc := 9) 27 dX0_allSmokeIn_9 (by decide) (fun h9 => ?_) (fun h9 => ?_)
    · rw [hC, nIle (by omega) (by omega)] at h9
      refine zk_iload_n (pc := 27) 2 dX0_allSmokeIn_27 rfl rfl ?_
      refine zk_ireturn (pc := 28) dX0_allSmokeIn_28 (Or.inl rfl) (zk_ri ?_)
      rw [show k = C by omega]
    · rw [hC, nIle (by omega) (by omega)] at h9
      refine zk_iload_n (pc := 12) 2 dX0_allSmokeIn_12 rfl rfl ?_
      refine zk_aload_n (pc := 13) 0 dX0_allSmokeIn_13 rfl rfl ?_
      refine zk_iload_n (pc := 14) 3 dX0_allSmokeIn_14 rfl rfl ?_
      refine zk_iload_n (pc := 15) 1 dX0_allSmokeIn_15 rfl rfl ?_
      refine zk_callVI (pc := 16) dX0_allSmokeIn_16 mtX0_smokeIn lkX0_84 stX0_smokeIn (by rfl) (by rfl) [_, _] _ rfl rfl (Nat.le_of_ble_eq_true rfl) (Nat.le_of_ble_eq_true rfl) (sp_X0_smokeIn (by omega) n) ?_
      refine zk_iadd (pc := 19) dX0_allSmokeIn_19 ?_
      refine zs_istore_n (pc := 20) (ls' := [_, _, _, _]) 2 dX0_allSmokeIn_20 rfl (by decide) rfl ?_
      refine zs_iinc (pc := 21) (ls' := [_, _, _, _]) dX0_allSmokeIn_21 rfl (nI_1 k) (by decide) rfl ?_
      refine zk_goto (pc := 24) 4 dX0_allSmokeIn_24 (by decide) ?_
      exact ih (by omega)
  refine zk_iconst (pc := 0) (v := 0) dX0_allSmokeIn_0 (by decide) ?_
  refine zs_istore_n (pc := 1) (ls' := [_, _, _, _]) 2 dX0_allSmokeIn_1 rfl (by decide) rfl ?_
  refine zk_iconst (pc := 2) (v := 0) dX0_allSmokeIn_2 (by decide) ?_
  refine zs_istore_n (pc := 3) (ls' := [_, _, _, _]) 3 dX0_allSmokeIn_3 rfl (by decide) rfl ?_
  exact loop 0 (by omega)
end M22
