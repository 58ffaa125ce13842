section M27
variable {d : Nat} {mu : Mem} {lm : MemL}
theorem zm_int {k : Nat} (hk : k < 100000) : (nI k - 1).toInt = (k : Int) - 1 := by
  cases k with
  | zero => decide
  | succ k => rw [nI_pred, nI_toInt (by omega)]; omega
theorem zm_le {a k : Nat} (ha : a < 100000) (hk : k < 100000) : (nI a ≤ nI k - 1) = (a + 1 ≤ k) := by
  rw [zle, zm_int hk, nI_toInt (by omega)]; exact propext ⟨fun h => by omega, fun h => by omega⟩
theorem zm_lt {k : Nat} (hk : k < 100000) : (nI k - 1 < 0) = (k = 0) := by
  rw [zlt, zm_int hk, show (0 : Int32).toInt = 0 by decide]; exact propext ⟨fun h => by omega, fun h => by omega⟩
theorem zm_s (k : Nat) : nI k - 1 + Int32.ofInt 1 = nI (k + 1) - 1 := by
  rw [nI_pred]
  exact Int32.sub_add_cancel _ _
theorem zair_at {l : Nat} (hl : l < 4) : ([39, 40, 41, 42] : List Nat)[l]? = some (39 + l) := by
  match l, hl with
  | 0, _ => rfl
  | 1, _ => rfl
  | 2, _ => rfl
  | 3, _ => rfl
theorem zair_sh {l : Nat} (hl : l < 4) : zk_shp[39 + l]? = some (1, 8, []) := by
  match l, hl with
  | 0, _ => rfl
  | 1, _ => rfl
  | 2, _ => rfl
  | 3, _ => rfl
theorem zk_nfw : nativeFrameWords "java/lang/System" "arraycopy" 5 ≤ 40 := by decide +kernel
/-- what is left of a when the opener comes last -/
def opn1 (C : Nat) (a : Nat → Int32) : Int32 := zsum C a - zmx C a
/-- the air behind the talk of member k - 1 (k = 0: nobody) -/
def tkA (mu : Mem) (C : Nat) (v : Int32) (a : Nat → Int32) : Nat → Nat → Int32
  | 0 => a
  | j + 1 => fun q => if q < C then zmin 999 (a q + shr (mu 24 j) (mu 25 j) (mu 23 5) v (nI q)) else a q
def mstR (g : (Nat → Int32) → Int32) (mu : Mem) (C : Nat) (v : Int32) (a : Nat → Int32) : Nat → Int32
  | 0 => 0
  | k + 1 => zmax (mstR g mu C v a k) (g (tkA mu C v a k))
/-- the air behind the window of cell k - 1 (k = 0: none) -/
def opA (a : Nat → Int32) : Nat → Nat → Int32
  | 0 => a
  | j + 1 => fun q => if q = j then 0 else a q
def lstR (h : (Nat → Int32) → Int32) (a : Nat → Int32) : Nat → Int32
  | 0 => 7992
  | k + 1 => zmin (lstR h a k) (h (opA a k))
def tQ (x : Int32) (mu : Mem) (lm : MemL) (lo : Nat) : Option Value → Mem → MemL → Prop := fun r m l => r = some (.int x) ∧ l = lm ∧ ∀ c, (c ≤ lo ∨ 42 < c) → m c = mu c
theorem zmx_cong {f g : Nat → Int32} : ∀ {n : Nat}, (∀ k, k < n → f k = g k) → zmx n f = zmx n g
  | 0, _ => rfl
  | n + 1, h => by rw [zmx, zmx, zmx_cong (fun k hk => h k (by omega)), h n (by omega)]
theorem sp_X6_takeAir {l : Nat} (hl : l + 1 < 4) : zk_M (d + 1) RX6 cX6_takeAir 2 (none) none 0 (zk_loc [.ref 37, .int (nI l)] 2) [] mu lm (zk_R none (zk_uc mu (39 + (l + 1)) (va_cpy (mu (39 + l)) (mu (39 + (l + 1))) 0 0 8)) lm) := by
  refine zk_aload_n (pc := 0) 0 dX6_takeAir_0 rfl rfl ?_
  refine zk_getR (pc := 1) dX6_takeAir_1 flX6_11 rfl rfl ?_
  refine zk_iload_n (pc := 4) 1 dX6_takeAir_4 rfl rfl ?_
  refine zk_aaload2 (pc := 5) (l) dX6_takeAir_5 rfl (rfl) (by omega) (zair_at (by omega)) ?_
  refine zk_iconst (pc := 6) (v := 0) dX6_takeAir_6 (by decide) ?_
  refine zk_aload_n (pc := 7) 0 dX6_takeAir_7 rfl rfl ?_
  refine zk_getR (pc := 8) dX6_takeAir_8 flX6_11 rfl rfl ?_
  refine zk_iload_n (pc := 11) 1 dX6_takeAir_11 rfl rfl ?_
  refine zk_iconst (pc := 12) (v := 1) dX6_takeAir_12 (by decide) ?_
  refine zk_iadd (pc := 13) dX6_takeAir_13 ?_
  refine zk_aaload2 (pc := 14) (l + 1) dX6_takeAir_14 rfl (nI_1 l) (by omega) (zair_at (by omega)) ?_
  refine zk_iconst (pc := 15) (v := 0) dX6_takeAir_15 (by decide) ?_
  refine zk_bipush (pc := 16) (v := 8) dX6_takeAir_16 (by decide) ?_
  refine zk_acopy (pc := 18) 0 0 8 dX6_takeAir_18 lkX6_22 acN acS acI (zair_sh (by omega)) (zair_sh (by omega)) rfl rfl rfl (by omega) (by omega) (Nat.le_of_ble_eq_true rfl) zk_nfw ?_
  exact zk_return (pc := 21) dX6_takeAir_21 rfl (zk_rv0 rfl rfl)
theorem sp_lbw1 {l C : Nat} (hl : l < 4) (hC : mu 23 5 = nI C) (hC8 : C ≤ 8) (v : Int32) (a : Nat → Int32) (ha : ∀ k, k < 8 → mu (39 + l) k = a k) : zk_M (d + 2) RX6 cX6_leastByWindow 7 (some .int) none 0 (zk_loc [.ref 37, .ref 23, .int v, .int 1, .int (nI l)] 7) [] mu lm (tQ (opn1 C a) mu lm (39 + l)) := by
  refine zk_iload_n (pc := 0) 3 dX6_leastByWindow_0 rfl rfl ?_
  refine zk_iconst (pc := 1) (v := 1) dX6_leastByWindow_1 (by decide) ?_
  refine zk_icmp_le (pc := 2) 17 dX6_leastByWindow_2 (by decide) (fun h2 => ?_) (fun h2 => ?_)
  · skip
    refine zk_aload_n (pc := 17) 1 dX6_leastByWindow_17 rfl rfl ?_
    refine zk_aload_n (pc := 18) 0 dX6_leastByWindow_18 rfl rfl ?_
    refine zk_getR (pc := 19) dX6_leastByWindow_19 flX6_11 rfl rfl ?_
    refine zk_iload (pc := 22) dX6_leastByWindow_22 rfl ?_
    refine zk_aaload2 (pc := 24) (l) dX6_leastByWindow_24 rfl (rfl) (by omega) (zair_at (by omega)) ?_
    refine zk_callVI (pc := 25) dX6_leastByWindow_25 mtX0_sumOf lkX6_32 stX0_sumOf (by rfl) (by rfl) [_] _ rfl rfl (Nat.le_of_ble_eq_true rfl) (Nat.le_of_ble_eq_true rfl) (sp_X0_sumOf (zair_sh hl) hC hC8) ?_
    refine zk_aload_n (pc := 28) 1 dX6_leastByWindow_28 rfl rfl ?_
    refine zk_aload_n (pc := 29) 0 dX6_leastByWindow_29 rfl rfl ?_
    refine zk_getR (pc := 30) dX6_leastByWindow_30 flX6_11 rfl rfl ?_
    refine zk_iload (pc := 33) dX6_leastByWindow_33 rfl ?_
    refine zk_aaload2 (pc := 35) (l) dX6_leastByWindow_35 rfl (rfl) (by omega) (zair_at (by omega)) ?_
    refine zk_callVI (pc := 36) dX6_leastByWindow_36 mtX0_fullestOf lkX6_57 stX0_fullestOf (by rfl) (by rfl) [_] _ rfl rfl (Nat.le_of_ble_eq_true rfl) (Nat.le_of_ble_eq_true rfl) (sp_X0_fullestOf (zair_sh hl) hC hC8) ?_
    refine zk_isub (pc := 39) dX6_leastByWindow_39 ?_
    refine zk_ireturn (pc := 40) dX6_leastByWindow_40 (Or.inl rfl) ⟨?_, rfl, fun _ _ => rfl⟩
    rw [zsum_cong (g := a) (fun k hk => ha k (by omega)), zmx_cong (g := a) (fun k hk => ha k (by omega))]
    rfl
  · exact absurd h2 (by decide) --
theorem sp_mbt0 {l C : Nat} (hl : l < 4) (hC : mu 23 5 = nI C) (hC8 : C ≤ 8) (v : Int32) : zk_M (d + 1) RX6 cX6_mostByTalk 7 (some .int) none 0 (zk_loc [.ref 37, .ref 23, .int v, .int 0, .int (nI l)] 7) [] mu lm (zk_R (some (.int (zsum C (mu (39 + l))))) mu lm) := by
  refine zk_iload_n (pc := 0) 3 dX6_mostByTalk_0 rfl rfl ?_
  refine zk_if_le (pc := 1) 16 dX6_mostByTalk_1 (by decide) (fun h1 => ?_) (fun h1 => ?_)
  · skip
    refine zk_aload_n (pc := 16) 1 dX6_mostByTalk_16 rfl rfl ?_
    refine zk_aload_n (pc := 17) 0 dX6_mostByTalk_17 rfl rfl ?_
    refine zk_getR (pc := 18) dX6_mostByTalk_18 flX6_11 rfl rfl ?_
    refine zk_iload (pc := 21) dX6_mostByTalk_21 rfl ?_
    refine zk_aaload2 (pc := 23) (l) dX6_mostByTalk_23 rfl (rfl) (by omega) (zair_at (by omega)) ?_
    refine zk_callVI (pc := 24) dX6_mostByTalk_24 mtX0_sumOf lkX6_32 stX0_sumOf (by rfl) (by rfl) [_] _ rfl rfl (Nat.le_of_ble_eq_true rfl) (Nat.le_of_ble_eq_true rfl) (sp_X0_sumOf (zair_sh hl) hC hC8) ?_
    exact zk_ireturn (pc := 27) dX6_mostByTalk_27 (Or.inl rfl) (zk_ri rfl)
  · exact absurd h1 (by decide) --
theorem va_cpy8 {f g : Nat → Int32} {k : Nat} (hk : k < 8) : va_cpy f g 0 0 8 k = f k := by
  unfold va_cpy
  rw [if_pos ⟨by omega, by omega⟩]
  simp
theorem sp_mbt {l C M : Nat} (hl : l + 1 < 4) (hC : mu 23 5 = nI C) (hC8 : C ≤ 8) (hM : mu 23 6 = nI M) (hM6 : M ≤ 6) (v T : Int32) (hT : 0 < T) (g : (Nat → Int32) → Int32) (a : Nat → Int32) (ha : ∀ k, k < 8 → mu (39 + l) k = a k) (inner : ∀ (mu' : Mem) (a' : Nat → Int32), (∀ c, (c ≤ 39 + l ∨ 42 < c) → mu' c = mu c) → (∀ k, k < 8 → mu' (39 + (l + 1)) k = a' k) → zk_M (d + 5) RX6 cX6_leastByWindow 7 (some .int) none 0 (zk_loc [.ref 37, .ref 23, .int v, .int T, .int (nI (l + 1))] 7) [] mu' lm (tQ (g a') mu' lm (39 + (l + 1)))) : zk_M (d + 6) RX6 cX6_mostByTalk 7 (some .int) none 0 (zk_loc [.ref 37, .ref 23, .int v, .int T, .int (nI l)] 7) [] mu lm (tQ (mstR g mu C v a (M + 1)) mu lm (39 + l)) := by
  have loop : ∀ k, k ≤ M + 1 → ∀ nu : Mem, (∀ c, (c ≤ 39 + l ∨ 42 < c) → nu c = mu c) → zk_M (d + 6) RX6 cX6_mostByTalk 7 (some .int) none 34 [.ref 37, .ref 23, .int v, .int T, .int (nI l), .int (mstR g mu C v a k), .int (nI k - 1)] [] nu lm (tQ (mstR g mu C v a (M + 1)) mu lm (39 + l)) := by
    refine zk_ind (M + 1) (fun k hk ih => ?_)
    intro nu hnu
    have n23 : nu 23 = mu 23 := hnu 23 (by omega)
    refine zk_iload (pc := 34) dX6_mostByTalk_34 rfl ?_
    refine zk_aload_n (pc := 36) 1 dX6_mostByTalk_36 rfl rfl ?_
    refine zk_getI (pc := 37) dX6_mostByTalk_37 flX6_36 rfl rfl ?_
    refine zk_icmp_ge (pc := 40) 94 dX6_mostByTalk_40 (by decide) (fun h40 => ?_) (fun h40 => ?_)
    · rw [n23, hM, zm_le (by omega) (by omega)] at h40
      have hke : k = M + 1 := by omega
      refine zk_iload (pc := 94) dX6_mostByTalk_94 rfl ?_
      exact zk_ireturn (pc := 96) dX6_mostByTalk_96 (Or.inl rfl) ⟨by rw [hke], rfl, hnu⟩
    · rw [n23, hM, zm_le (by omega) (by omega)] at h40
      refine zk_aload_n (pc := 43) 0 dX6_mostByTalk_43 rfl rfl ?_
      refine zk_iload (pc := 44) dX6_mostByTalk_44 rfl ?_
      refine zk_callVV (pc := 46) dX6_mostByTalk_46 mtX6_takeAir lkX6_40 stX6_takeAir (by rfl) (by rfl) [_] _ rfl rfl (Nat.le_of_ble_eq_true rfl) (Nat.le_of_ble_eq_true rfl) (sp_X6_takeAir hl) ?_
      refine zk_iload (pc := 49) dX6_mostByTalk_49 rfl ?_
      refine zk_if_lt (pc := 51) 70 dX6_mostByTalk_51 (by decide) (fun h51 => ?_) (fun h51 => ?_)
      · rw [zm_lt (by omega)] at h51
        obtain rfl : k = 0 := h51
        have hnu1 : ∀ c, (c ≤ 39 + l ∨ 42 < c) → zk_uc nu (39 + (l + 1)) (va_cpy (nu (39 + l)) (nu (39 + (l + 1))) 0 0 8) c = mu c := fun c hc => by rw [zuc_c _ _ (by omega)]; exact hnu c hc
        have ha1 : ∀ k, k < 8 → zk_uc nu (39 + (l + 1)) (va_cpy (nu (39 + l)) (nu (39 + (l + 1))) 0 0 8) (39 + (l + 1)) k = tkA mu C v a 0 k := fun k hk => by rw [zuc_s, va_cpy8 hk, hnu (39 + l) (by omega)]; exact ha k hk
        refine zk_iload (pc := 70) dX6_mostByTalk_70 rfl ?_
        refine zk_aload_n (pc := 72) 0 dX6_mostByTalk_72 rfl rfl ?_
        refine zk_aload_n (pc := 73) 1 dX6_mostByTalk_73 rfl rfl ?_
        refine zk_iload_n (pc := 74) 2 dX6_mostByTalk_74 rfl rfl ?_
        refine zk_iload_n (pc := 75) 3 dX6_mostByTalk_75 rfl rfl ?_
        refine zk_iload (pc := 76) dX6_mostByTalk_76 rfl ?_
        refine zk_iconst (pc := 78) (v := 1) dX6_mostByTalk_78 (by decide) ?_
        refine zk_iadd (pc := 79) dX6_mostByTalk_79 ?_
        refine zk_callV (pc := 80) dX6_mostByTalk_80 mtX6_leastByWindow lkX6_48 stX6_leastByWindow (by rfl) (by rfl) [_, _, _, _] _ rfl rfl (Nat.le_of_ble_eq_true rfl) (Nat.le_of_ble_eq_true rfl) (by rw [nI_1 l]; exact inner _ _ hnu1 ha1) (fun r m3 l3 q3 => ?_)
        obtain ⟨rfl, rfl, h3⟩ := q3
        have hnu3 : ∀ c, (c ≤ 39 + l ∨ 42 < c) → m3 c = mu c := fun c hc => (h3 c (by omega)).trans (hnu1 c hc)
        refine zk_mmax (pc := 83) dX6_mostByTalk_83 lkX6_51 (Nat.le_of_ble_eq_true rfl) ?_
        refine zs_istore (pc := 86) (ls' := [_, _, _, _, _, _, _]) 5 dX6_mostByTalk_86 (by decide) rfl ?_
        first
          | refine zs_iinc (pc := 88) (ls' := [_, _, _, _, _, _, _]) dX6_mostByTalk_88 rfl (zm_s _) (by decide) rfl ?_
          | refine zs_iinc (pc := 88) (ls' := [_, _, _, _, _, _, _]) dX6_mostByTalk_88 rfl (show nI j + Int32.ofInt 1 = nI (j + 1 + 1) - 1 from by rw [nI_pred]; exact nI_1 j) (by decide) rfl ?_
        refine zk_goto (pc := 91) 34 dX6_mostByTalk_91 (by decide) ?_
        exact ih (by omega) m3 hnu3
      · rw [zm_lt (by omega)] at h51
        obtain ⟨j, rfl⟩ : ∃ j, k = j + 1 := ⟨k - 1, by omega⟩
        have hnu1 : ∀ c, (c ≤ 39 + l ∨ 42 < c) → brth (zk_uc nu (39 + (l + 1)) (va_cpy (nu (39 + l)) (nu (39 + (l + 1))) 0 0 8)) (39 + (l + 1)) j v C c = mu c := fun c hc => by rw [brth_c _ _ _ _ (by omega), zuc_c _ _ (by omega)]; exact hnu c hc
        have ha1 : ∀ k, k < 8 → brth (zk_uc nu (39 + (l + 1)) (va_cpy (nu (39 + l)) (nu (39 + (l + 1))) 0 0 8)) (39 + (l + 1)) j v C (39 + (l + 1)) k = tkA mu C v a (j + 1) k := fun k hk => by
          unfold brth
          rw [zuc_s]
          show (if k < C then zmin 999 (zk_uc nu (39 + (l + 1)) (va_cpy (nu (39 + l)) (nu (39 + (l + 1))) 0 0 8) (39 + (l + 1)) k + shr _ _ _ v (nI k)) else zk_uc nu (39 + (l + 1)) (va_cpy (nu (39 + l)) (nu (39 + (l + 1))) 0 0 8) (39 + (l + 1)) k) = (if k < C then zmin 999 (a k + shr _ _ _ v (nI k)) else a k)
          rw [zuc_s, va_cpy8 hk, hnu (39 + l) (by omega), ha k hk, zuc_c _ _ (by omega), zuc_c _ _ (by omega), zuc_c _ _ (by omega), n23, hnu 24 (by omega), hnu 25 (by omega)]
        refine zk_aload_n (pc := 54) 1 dX6_mostByTalk_54 rfl rfl ?_
        refine zk_aload_n (pc := 55) 0 dX6_mostByTalk_55 rfl rfl ?_
        refine zk_getR (pc := 56) dX6_mostByTalk_56 flX6_11 rfl rfl ?_
        refine zk_iload (pc := 59) dX6_mostByTalk_59 rfl ?_
        refine zk_iconst (pc := 61) (v := 1) dX6_mostByTalk_61 (by decide) ?_
        refine zk_iadd (pc := 62) dX6_mostByTalk_62 ?_
        refine zk_aaload2 (pc := 63) (l + 1) dX6_mostByTalk_63 rfl (nI_1 l) (by omega) (zair_at (by omega)) ?_
        refine zk_iload (pc := 64) dX6_mostByTalk_64 rfl ?_
        refine zk_iload_n (pc := 66) 2 dX6_mostByTalk_66 rfl rfl ?_
        rw [nI_pred]
        refine zk_callVV (pc := 67) dX6_mostByTalk_67 mtX0_breatheInto lkX6_44 stX0_breatheInto (by rfl) (by rfl) [_, _, _] _ rfl rfl (Nat.le_of_ble_eq_true rfl) (Nat.le_of_ble_eq_true rfl) (sp_X0_breatheInto (C := C) (zair_sh hl) (by rw [zuc_c _ _ (by omega), n23]; exact hC) hC8 (by omega) (by omega) (by omega) (by omega) v) ?_
        refine zk_iload (pc := 70) dX6_mostByTalk_70 rfl ?_
        refine zk_aload_n (pc := 72) 0 dX6_mostByTalk_72 rfl rfl ?_
        refine zk_aload_n (pc := 73) 1 dX6_mostByTalk_73 rfl rfl ?_
        refine zk_iload_n (pc := 74) 2 dX6_mostByTalk_74 rfl rfl ?_
        refine zk_iload_n (pc := 75) 3 dX6_mostByTalk_75 rfl rfl ?_
        refine zk_iload (pc := 76) dX6_mostByTalk_76 rfl ?_
        refine zk_iconst (pc := 78) (v := 1) dX6_mostByTalk_78 (by decide) ?_
        refine zk_iadd (pc := 79) dX6_mostByTalk_79 ?_
        refine zk_callV (pc := 80) dX6_mostByTalk_80 mtX6_leastByWindow lkX6_48 stX6_leastByWindow (by rfl) (by rfl) [_, _, _, _] _ rfl rfl (Nat.le_of_ble_eq_true rfl) (Nat.le_of_ble_eq_true rfl) (by rw [nI_1 l]; exact inner _ _ hnu1 ha1) (fun r m3 l3 q3 => ?_)
        obtain ⟨rfl, rfl, h3⟩ := q3
        have hnu3 : ∀ c, (c ≤ 39 + l ∨ 42 < c) → m3 c = mu c := fun c hc => (h3 c (by omega)).trans (hnu1 c hc)
        refine zk_mmax (pc := 83) dX6_mostByTalk_83 lkX6_51 (Nat.le_of_ble_eq_true rfl) ?_
        refine zs_istore (pc := 86) (ls' := [_, _, _, _, _, _, _]) 5 dX6_mostByTalk_86 (by decide) rfl ?_
        first
          | refine zs_iinc (pc := 88) (ls' := [_, _, _, _, _, _, _]) dX6_mostByTalk_88 rfl (zm_s _) (by decide) rfl ?_
          | refine zs_iinc (pc := 88) (ls' := [_, _, _, _, _, _, _]) dX6_mostByTalk_88 rfl (show nI j + Int32.ofInt 1 = nI (j + 1 + 1) - 1 from by rw [nI_pred]; exact nI_1 j) (by decide) rfl ?_
        refine zk_goto (pc := 91) 34 dX6_mostByTalk_91 (by decide) ?_
        exact ih (by omega) m3 hnu3
  refine zk_iload_n (pc := 0) 3 dX6_mostByTalk_0 rfl rfl ?_
  refine zk_if_le (pc := 1) 16 dX6_mostByTalk_1 (by decide) (fun h1 => ?_) (fun h1 => ?_)
  · exact absurd hT (by rw [zlt, zle] at *; omega) --
  · skip
    refine zk_iload (pc := 4) dX6_mostByTalk_4 rfl ?_
    refine zk_iconst (pc := 6) (v := 1) dX6_mostByTalk_6 (by decide) ?_
    refine zk_iadd (pc := 7) dX6_mostByTalk_7 ?_
    refine zk_aload_n (pc := 8) 0 dX6_mostByTalk_8 rfl rfl ?_
    refine zk_getR (pc := 9) dX6_mostByTalk_9 flX6_11 rfl rfl ?_
    refine zk_alen (pc := 12) dX6_mostByTalk_12 rfl (by decide) ?_
    refine zk_icmp_lt (pc := 13) 28 dX6_mostByTalk_13 (by decide) (fun h13 => ?_) (fun h13 => ?_)
    · skip
      refine zk_iconst (pc := 28) (v := 0) dX6_mostByTalk_28 (by decide) ?_
      refine zs_istore (pc := 29) (ls' := [_, _, _, _, _, _, _]) 5 dX6_mostByTalk_29 (by decide) rfl ?_
      refine zk_iconst (pc := 31) (v := nI 0 - 1) dX6_mostByTalk_31 (by decide) ?_
      refine zs_istore (pc := 32) (ls' := [_, _, _, _, _, _, _]) 6 dX6_mostByTalk_32 (by decide) rfl ?_
      exact loop 0 (by omega) mu (fun _ _ => rfl)
    · rw [nI_1, nIlt (by omega) (by omega)] at h13
      omega --
theorem sp_lbw2 {l C : Nat} (hl : l + 1 < 4) (hC : mu 23 5 = nI C) (hC8 : C ≤ 8) (v : Int32) (h : (Nat → Int32) → Int32) (a : Nat → Int32) (ha : ∀ k, k < 8 → mu (39 + l) k = a k) (inner : ∀ (mu' : Mem) (a' : Nat → Int32), (∀ c, (c ≤ 39 + l ∨ 42 < c) → mu' c = mu c) → (∀ k, k < 8 → mu' (39 + (l + 1)) k = a' k) → zk_M (d + 6) RX6 cX6_mostByTalk 7 (some .int) none 0 (zk_loc [.ref 37, .ref 23, .int v, .int 1, .int (nI (l + 1))] 7) [] mu' lm (tQ (h a') mu' lm (39 + (l + 1)))) : zk_M (d + 7) RX6 cX6_leastByWindow 7 (some .int) none 0 (zk_loc [.ref 37, .ref 23, .int v, .int 2, .int (nI l)] 7) [] mu lm (tQ (lstR h a (C + 1)) mu lm (39 + l)) := by
  have loop : ∀ k, k ≤ C + 1 → ∀ nu : Mem, (∀ c, (c ≤ 39 + l ∨ 42 < c) → nu c = mu c) → zk_M (d + 7) RX6 cX6_leastByWindow 7 (some .int) none 49 [.ref 37, .ref 23, .int v, .int 2, .int (nI l), .int (lstR h a k), .int (nI k - 1)] [] nu lm (tQ (lstR h a (C + 1)) mu lm (39 + l)) := by
    refine zk_ind (C + 1) (fun k hk ih => ?_)
    intro nu hnu
    have n23 : nu 23 = mu 23 := hnu 23 (by omega)
    refine zk_iload (pc := 49) dX6_leastByWindow_49 rfl ?_
    refine zk_aload_n (pc := 51) 1 dX6_leastByWindow_51 rfl rfl ?_
    refine zk_getI (pc := 52) dX6_leastByWindow_52 flX6_60 rfl rfl ?_
    refine zk_icmp_ge (pc := 55) 108 dX6_leastByWindow_55 (by decide) (fun h55 => ?_) (fun h55 => ?_)
    · rw [n23, hC, zm_le (by omega) (by omega)] at h55
      have hke : k = C + 1 := by omega
      refine zk_iload (pc := 108) dX6_leastByWindow_108 rfl ?_
      exact zk_ireturn (pc := 110) dX6_leastByWindow_110 (Or.inl rfl) ⟨by rw [hke], rfl, hnu⟩
    · rw [n23, hC, zm_le (by omega) (by omega)] at h55
      refine zk_aload_n (pc := 58) 0 dX6_leastByWindow_58 rfl rfl ?_
      refine zk_iload (pc := 59) dX6_leastByWindow_59 rfl ?_
      refine zk_callVV (pc := 61) dX6_leastByWindow_61 mtX6_takeAir lkX6_40 stX6_takeAir (by rfl) (by rfl) [_] _ rfl rfl (Nat.le_of_ble_eq_true rfl) (Nat.le_of_ble_eq_true rfl) (sp_X6_takeAir hl) ?_
      refine zk_iload (pc := 64) dX6_leastByWindow_64 rfl ?_
      refine zk_if_lt (pc := 66) 82 dX6_leastByWindow_66 (by decide) (fun h66 => ?_) (fun h66 => ?_)
      · rw [zm_lt (by omega)] at h66
        obtain rfl : k = 0 := h66
        have hnu1 : ∀ c, (c ≤ 39 + l ∨ 42 < c) → zk_uc nu (39 + (l + 1)) (va_cpy (nu (39 + l)) (nu (39 + (l + 1))) 0 0 8) c = mu c := fun c hc => by rw [zuc_c _ _ (by omega)]; exact hnu c hc
        have ha1 : ∀ k, k < 8 → zk_uc nu (39 + (l + 1)) (va_cpy (nu (39 + l)) (nu (39 + (l + 1))) 0 0 8) (39 + (l + 1)) k = opA a 0 k := fun k hk => by rw [zuc_s, va_cpy8 hk, hnu (39 + l) (by omega)]; exact ha k hk
        refine zk_iload (pc := 82) dX6_leastByWindow_82 rfl ?_
        refine zk_aload_n (pc := 84) 0 dX6_leastByWindow_84 rfl rfl ?_
        refine zk_aload_n (pc := 85) 1 dX6_leastByWindow_85 rfl rfl ?_
        refine zk_iload_n (pc := 86) 2 dX6_leastByWindow_86 rfl rfl ?_
        refine zk_iload_n (pc := 87) 3 dX6_leastByWindow_87 rfl rfl ?_
        refine zk_iconst (pc := 88) (v := 1) dX6_leastByWindow_88 (by decide) ?_
        refine zk_isub (pc := 89) dX6_leastByWindow_89 ?_
        refine zk_iload (pc := 90) dX6_leastByWindow_90 rfl ?_
        refine zk_iconst (pc := 92) (v := 1) dX6_leastByWindow_92 (by decide) ?_
        refine zk_iadd (pc := 93) dX6_leastByWindow_93 ?_
        refine zk_callV (pc := 94) dX6_leastByWindow_94 mtX6_mostByTalk lkX6_28 stX6_mostByTalk (by rfl) (by rfl) [_, _, _, _] _ rfl rfl (Nat.le_of_ble_eq_true rfl) (Nat.le_of_ble_eq_true rfl) (by rw [nI_1 l, show (2 : Int32) - 1 = 1 from rfl]; exact inner _ _ hnu1 ha1) (fun r m3 l3 q3 => ?_)
        obtain ⟨rfl, rfl, h3⟩ := q3
        have hnu3 : ∀ c, (c ≤ 39 + l ∨ 42 < c) → m3 c = mu c := fun c hc => (h3 c (by omega)).trans (hnu1 c hc)
        refine zk_mmin (pc := 97) dX6_leastByWindow_97 lkX6_63 (Nat.le_of_ble_eq_true rfl) ?_
        refine zs_istore (pc := 100) (ls' := [_, _, _, _, _, _, _]) 5 dX6_leastByWindow_100 (by decide) rfl ?_
        refine zs_iinc (pc := 102) (ls' := [_, _, _, _, _, _, _]) dX6_leastByWindow_102 rfl (zm_s _) (by decide) rfl ?_
        refine zk_goto (pc := 105) 49 dX6_leastByWindow_105 (by decide) ?_
        exact ih (by omega) m3 hnu3
      · rw [zm_lt (by omega)] at h66
        obtain ⟨j, rfl⟩ : ∃ j, k = j + 1 := ⟨k - 1, by omega⟩
        have hnu1 : ∀ c, (c ≤ 39 + l ∨ 42 < c) → zk_up (zk_uc nu (39 + (l + 1)) (va_cpy (nu (39 + l)) (nu (39 + (l + 1))) 0 0 8)) (39 + (l + 1)) j 0 c = mu c := fun c hc => by funext z; rw [zup_c _ _ _ (by omega), zuc_c _ _ (by omega)]; rw [hnu c hc]
        have ha1 : ∀ k, k < 8 → zk_up (zk_uc nu (39 + (l + 1)) (va_cpy (nu (39 + l)) (nu (39 + (l + 1))) 0 0 8)) (39 + (l + 1)) j 0 (39 + (l + 1)) k = opA a (j + 1) k := fun k hk => by
          show _ = (if k = j then 0 else a k)
          by_cases q : k = j
          · rw [if_pos q, q, zup_s]
          · rw [if_neg q, zup_k _ _ _ q, zuc_s, va_cpy8 hk, hnu (39 + l) (by omega)]; exact ha k hk
        refine zk_aload_n (pc := 69) 0 dX6_leastByWindow_69 rfl rfl ?_
        refine zk_getR (pc := 70) dX6_leastByWindow_70 flX6_11 rfl rfl ?_
        refine zk_iload (pc := 73) dX6_leastByWindow_73 rfl ?_
        refine zk_iconst (pc := 75) (v := 1) dX6_leastByWindow_75 (by decide) ?_
        refine zk_iadd (pc := 76) dX6_leastByWindow_76 ?_
        refine zk_aaload2 (pc := 77) (l + 1) dX6_leastByWindow_77 rfl (nI_1 l) (by omega) (zair_at (by omega)) ?_
        refine zk_iload (pc := 78) dX6_leastByWindow_78 rfl ?_
        refine zk_iconst (pc := 80) (v := 0) dX6_leastByWindow_80 (by decide) ?_
        refine zk_iastore (pc := 81) j dX6_leastByWindow_81 (zair_sh hl) (nI_pred j) (by omega) ?_
        refine zk_iload (pc := 82) dX6_leastByWindow_82 rfl ?_
        refine zk_aload_n (pc := 84) 0 dX6_leastByWindow_84 rfl rfl ?_
        refine zk_aload_n (pc := 85) 1 dX6_leastByWindow_85 rfl rfl ?_
        refine zk_iload_n (pc := 86) 2 dX6_leastByWindow_86 rfl rfl ?_
        refine zk_iload_n (pc := 87) 3 dX6_leastByWindow_87 rfl rfl ?_
        refine zk_iconst (pc := 88) (v := 1) dX6_leastByWindow_88 (by decide) ?_
        refine zk_isub (pc := 89) dX6_leastByWindow_89 ?_
        refine zk_iload (pc := 90) dX6_leastByWindow_90 rfl ?_
        refine zk_iconst (pc := 92) (v := 1) dX6_leastByWindow_92 (by decide) ?_
        refine zk_iadd (pc := 93) dX6_leastByWindow_93 ?_
        refine zk_callV (pc := 94) dX6_leastByWindow_94 mtX6_mostByTalk lkX6_28 stX6_mostByTalk (by rfl) (by rfl) [_, _, _, _] _ rfl rfl (Nat.le_of_ble_eq_true rfl) (Nat.le_of_ble_eq_true rfl) (by rw [nI_1 l, show (2 : Int32) - 1 = 1 from rfl]; exact inner _ _ hnu1 ha1) (fun r m3 l3 q3 => ?_)
        obtain ⟨rfl, rfl, h3⟩ := q3
        have hnu3 : ∀ c, (c ≤ 39 + l ∨ 42 < c) → m3 c = mu c := fun c hc => (h3 c (by omega)).trans (hnu1 c hc)
        refine zk_mmin (pc := 97) dX6_leastByWindow_97 lkX6_63 (Nat.le_of_ble_eq_true rfl) ?_
        refine zs_istore (pc := 100) (ls' := [_, _, _, _, _, _, _]) 5 dX6_leastByWindow_100 (by decide) rfl ?_
        refine zs_iinc (pc := 102) (ls' := [_, _, _, _, _, _, _]) dX6_leastByWindow_102 rfl (zm_s _) (by decide) rfl ?_
        refine zk_goto (pc := 105) 49 dX6_leastByWindow_105 (by decide) ?_
        exact ih (by omega) m3 hnu3
  refine zk_iload_n (pc := 0) 3 dX6_leastByWindow_0 rfl rfl ?_
  refine zk_iconst (pc := 1) (v := 1) dX6_leastByWindow_1 (by decide) ?_
  refine zk_icmp_le (pc := 2) 17 dX6_leastByWindow_2 (by decide) (fun h2 => ?_) (fun h2 => ?_)
  · exact absurd h2 (by decide) --
  · skip
    refine zk_iload (pc := 5) dX6_leastByWindow_5 rfl ?_
    refine zk_iconst (pc := 7) (v := 1) dX6_leastByWindow_7 (by decide) ?_
    refine zk_iadd (pc := 8) dX6_leastByWindow_8 ?_
    refine zk_aload_n (pc := 9) 0 dX6_leastByWindow_9 rfl rfl ?_
    refine zk_getR (pc := 10) dX6_leastByWindow_10 flX6_11 rfl rfl ?_
    refine zk_alen (pc := 13) dX6_leastByWindow_13 rfl (by decide) ?_
    refine zk_icmp_lt (pc := 14) 41 dX6_leastByWindow_14 (by decide) (fun h14 => ?_) (fun h14 => ?_)
    · skip
      refine zk_sipush (pc := 41) (v := 7992) dX6_leastByWindow_41 (by decide) ?_
      refine zs_istore (pc := 44) (ls' := [_, _, _, _, _, _, _]) 5 dX6_leastByWindow_44 (by decide) rfl ?_
      refine zk_iconst (pc := 46) (v := nI 0 - 1) dX6_leastByWindow_46 (by decide) ?_
      refine zs_istore (pc := 47) (ls' := [_, _, _, _, _, _, _]) 6 dX6_leastByWindow_47 (by decide) rfl ?_
      exact loop 0 (by omega) mu (fun _ _ => rfl)
    · rw [nI_1, nIlt (by omega) (by omega)] at h14
      omega --
end M27
