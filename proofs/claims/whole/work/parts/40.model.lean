section M40
variable {d : Nat} {mu : Mem} {lm : MemL}
theorem sp_X8_in (x a b : Int32) : zk_M d RX8 cX8_in 3 (some .boolean) none 0 (zk_loc [.int x, .int a, .int b] 3) [] mu lm (zk_R (some (.int (zb (a ≤ x ∧ x ≤ b)))) mu lm) := by
  refine zk_iload_n (pc := 0) 0 dX8_in_0 rfl rfl ?_
  refine zk_iload_n (pc := 1) 1 dX8_in_1 rfl rfl ?_
  refine zk_icmp_lt (pc := 2) 14 dX8_in_2 (by decide) (fun h2 => ?_) (fun h2 => ?_)
  · skip
    refine zk_iconst (pc := 14) (v := 0) dX8_in_14 (by decide) ?_
    refine zk_ireturn (pc := 15) dX8_in_15 (Or.inr ⟨rfl, by first | exact Or.inl rfl | exact Or.inr rfl⟩) ?_
    apply zk_ri; unfold zb; simp only [zlt, zle] at *; split <;> first | rfl | (exfalso; omega)
  · skip
    refine zk_iload_n (pc := 5) 0 dX8_in_5 rfl rfl ?_
    refine zk_iload_n (pc := 6) 2 dX8_in_6 rfl rfl ?_
    refine zk_icmp_gt (pc := 7) 14 dX8_in_7 (by decide) (fun h7 => ?_) (fun h7 => ?_)
    · skip
      refine zk_iconst (pc := 14) (v := 0) dX8_in_14 (by decide) ?_
      refine zk_ireturn (pc := 15) dX8_in_15 (Or.inr ⟨rfl, by first | exact Or.inl rfl | exact Or.inr rfl⟩) ?_
      apply zk_ri; unfold zb; simp only [zlt, zle] at *; split <;> first | rfl | (exfalso; omega)
    · skip
      refine zk_iconst (pc := 10) (v := 1) dX8_in_10 (by decide) ?_
      refine zk_goto (pc := 11) 15 dX8_in_11 (by decide) ?_
      refine zk_ireturn (pc := 15) dX8_in_15 (Or.inr ⟨rfl, by first | exact Or.inl rfl | exact Or.inr rfl⟩) ?_
      apply zk_ri; unfold zb; simp only [zlt, zle] at *; split <;> first | rfl | (exfalso; omega)
theorem sp_X8_has (x k : Int32) : zk_M d RX8 cX8_has 2 (some .boolean) none 0 (zk_loc [.int x, .int k] 2) [] mu lm (zk_R (some (.int (zb ((x >>> (k &&& 31)) &&& 1 = 1)))) mu lm) := by
  refine zk_iload_n (pc := 0) 0 dX8_has_0 rfl rfl ?_
  refine zk_iload_n (pc := 1) 1 dX8_has_1 rfl rfl ?_
  refine zk_ishr (pc := 2) dX8_has_2 ?_
  refine zk_iconst (pc := 3) (v := 1) dX8_has_3 (by decide) ?_
  refine zk_iand (pc := 4) dX8_has_4 ?_
  refine zk_iconst (pc := 5) (v := 1) dX8_has_5 (by decide) ?_
  refine zk_icmp_ne (pc := 6) 13 dX8_has_6 (by decide) (fun h6 => ?_) (fun h6 => ?_)
  · skip
    refine zk_iconst (pc := 13) (v := 0) dX8_has_13 (by decide) ?_
    refine zk_ireturn (pc := 14) dX8_has_14 (Or.inr ⟨rfl, by first | exact Or.inl rfl | exact Or.inr rfl⟩) ?_
    first | exact zk_ri (zb_f h6).symm | exact zk_ri (zb_t h6).symm
  · skip
    refine zk_iconst (pc := 9) (v := 1) dX8_has_9 (by decide) ?_
    refine zk_goto (pc := 10) 14 dX8_has_10 (by decide) ?_
    refine zk_ireturn (pc := 14) dX8_has_14 (Or.inr ⟨rfl, by first | exact Or.inl rfl | exact Or.inr rfl⟩) ?_
    first | exact zk_ri (zb_f h6).symm | exact zk_ri (zb_t h6).symm
theorem sp_X8_bits (x : Int32) : zk_M d RX8 cX8_bits 3 (some .int) none 0 (zk_loc [.int x] 3) [] mu lm (zk_R (some (.int (zsum 10 (fun k => (x >>> (nI k &&& 31)) &&& 1)))) mu lm) := by
  have loop : ∀ k, k ≤ 10 → zk_M d RX8 cX8_bits 3 (some .int) none 4 [.int x, .int (zsum k (fun k => (x >>> (nI k &&& 31)) &&& 1)), .int (nI k)] [] mu lm (zk_R (some (.int (zsum 10 (fun k => (x >>> (nI k &&& 31)) &&& 1)))) mu lm) := by
    refine zk_ind 10 (fun k hk ih => ?_)
    refine zk_iload_n (pc := 4) 2 dX8_bits_4 rfl rfl ?_
    refine zk_bipush (pc := 5) (v := 10) dX8_bits_5 (by decide) ?_
    refine zk_icmp_ge (pc := 7) 24 dX8_bits_7 (by decide) (fun h7 => ?_) (fun h7 => ?_)
    · rw [show (10 : Int32) = nI 10 from rfl, nIle (by omega) (by omega)] at h7
      refine zk_iload_n (pc := 24) 1 dX8_bits_24 rfl rfl ?_
      refine zk_ireturn (pc := 25) dX8_bits_25 (Or.inl rfl) (zk_ri ?_)
      rw [show k = 10 by omega]
    · rw [show (10 : Int32) = nI 10 from rfl, nIle (by omega) (by omega)] at h7
      refine zk_iload_n (pc := 10) 1 dX8_bits_10 rfl rfl ?_
      refine zk_iload_n (pc := 11) 0 dX8_bits_11 rfl rfl ?_
      refine zk_iload_n (pc := 12) 2 dX8_bits_12 rfl rfl ?_
      refine zk_ishr (pc := 13) dX8_bits_13 ?_
      refine zk_iconst (pc := 14) (v := 1) dX8_bits_14 (by decide) ?_
      refine zk_iand (pc := 15) dX8_bits_15 ?_
      refine zk_iadd (pc := 16) dX8_bits_16 ?_
      refine zs_istore_n (pc := 17) (ls' := [_, _, _]) 1 dX8_bits_17 rfl (by decide) rfl ?_
      refine zs_iinc (pc := 18) (ls' := [_, _, _]) dX8_bits_18 rfl (nI_1 k) (by decide) rfl ?_
      refine zk_goto (pc := 21) 4 dX8_bits_21 (by decide) ?_
      exact ih (by omega)
  refine zk_iconst (pc := 0) (v := 0) dX8_bits_0 (by decide) ?_
  refine zs_istore_n (pc := 1) (ls' := [_, _, _]) 1 dX8_bits_1 rfl (by decide) rfl ?_
  refine zk_iconst (pc := 2) (v := 0) dX8_bits_2 (by decide) ?_
  refine zs_istore_n (pc := 3) (ls' := [_, _, _]) 2 dX8_bits_3 rfl (by decide) rfl ?_
  exact loop 0 (Nat.zero_le _)
/-- the model notes a finding -/
def fndD (mu : Mem) (f : Nat) : Mem := zk_up (zk_up mu 46 4 (nI f)) 51 f (mu 51 f + 1)
theorem sp_X8_finds {f : Nat} (hf : f < 6) : zk_M d RX8 cX8_finds 2 (some .int) none 0 (zk_loc [.ref 46, .int (nI f)] 2) [] mu lm (zk_R (some (.int (-3))) (fndD mu f) lm) := by
  refine zk_aload_n (pc := 0) 0 dX8_finds_0 rfl rfl ?_
  refine zk_iload_n (pc := 1) 1 dX8_finds_1 rfl rfl ?_
  refine zk_putI (pc := 2) dX8_finds_2 flX8_56 rfl rfl ?_
  refine zk_aload_n (pc := 5) 0 dX8_finds_5 rfl rfl ?_
  refine zk_getR (pc := 6) dX8_finds_6 flX8_22 rfl rfl ?_
  refine zk_iload_n (pc := 9) 1 dX8_finds_9 rfl rfl ?_
  refine zk_dup2 (pc := 10) dX8_finds_10 rfl rfl ?_
  refine zk_iaload (pc := 11) f dX8_finds_11 rfl rfl hf ?_
  refine zk_iconst (pc := 12) (v := 1) dX8_finds_12 (by decide) ?_
  refine zk_iadd (pc := 13) dX8_finds_13 ?_
  refine zk_iastore (pc := 14) f dX8_finds_14 rfl rfl hf ?_
  refine zk_bipush (pc := 15) (v := -3) dX8_finds_15 (by decide) ?_
  refine zk_ireturn (pc := 17) dX8_finds_17 (Or.inl rfl) (zk_rm rfl ?_ rfl)
  unfold fndD
  rw [zup_c _ _ _ (by decide)]
theorem sp_X8_tells (v : Int32) : zk_M d RX8 cX8_tells 2 (some .int) none 0 (zk_loc [.ref 46, .int v] 2) [] mu lm (zk_R (some (.int 1)) (zk_up mu 46 6 v) lm) := by
  refine zk_aload_n (pc := 0) 0 dX8_tells_0 rfl rfl ?_
  refine zk_iload_n (pc := 1) 1 dX8_tells_1 rfl rfl ?_
  refine zk_putI (pc := 2) dX8_tells_2 flX8_60 rfl rfl ?_
  refine zk_iconst (pc := 5) (v := 1) dX8_tells_5 (by decide) ?_
  exact zk_ireturn (pc := 6) dX8_tells_6 (Or.inl rfl) ⟨rfl, rfl, rfl⟩
theorem cpy_0 {f g : Nat → Int32} {i j : Nat} : va_cpy f g i j 0 = g := by
  funext q; unfold va_cpy; rw [if_neg (by omega)]
theorem cpy_s {mu : Mem} {a b i j k : Nat} (hab : a ≠ b) : zk_up (zk_uc mu b (va_cpy (mu a) (mu b) i j k)) b (j + k) (mu a (i + k)) = zk_uc mu b (va_cpy (mu a) (mu b) i j (k + 1)) := by
  funext c q
  unfold zk_up zk_uc
  by_cases hc : c = b
  · subst hc
    by_cases hq : q = j + k
    · subst hq
      simp only [true_and, if_true]
      unfold va_cpy
      rw [if_pos ⟨by omega, by omega⟩, show j + k - j = k by omega]
    · simp only [true_and, hq, if_false, if_true]
      unfold va_cpy
      by_cases h : j ≤ q ∧ q < j + k
      · rw [if_pos h, if_pos ⟨h.1, by omega⟩]
      · rw [if_neg h, if_neg (fun z => h ⟨z.1, by omega⟩)]
  · simp [hc]
theorem sp_X8_bring {a b na nb i j n : Nat} {ra rb : List Nat} (ha : zk_shp[a]? = some (1, na, ra)) (hb : zk_shp[b]? = some (1, nb, rb)) (hab : a ≠ b) (hi : i + n ≤ na) (hj : j + n ≤ nb) : zk_M d RX8 cX8_bring 6 (none) none 0 (zk_loc [.ref a, .int (nI i), .ref b, .int (nI j), .int (nI n)] 6) [] mu lm (zk_R none (zk_uc mu b (va_cpy (mu a) (mu b) i j n)) lm) := by
  have hna := zk_sm ha
  have hnb := zk_sm hb
  simp only at hna hnb
  have loop : ∀ k, k ≤ n → zk_M d RX8 cX8_bring 6 (none) none 3 [.ref a, .int (nI i), .ref b, .int (nI j), .int (nI n), .int (nI k)] [] (zk_uc mu b (va_cpy (mu a) (mu b) i j k)) lm (zk_R none (zk_uc mu b (va_cpy (mu a) (mu b) i j n)) lm) := by
    refine zk_ind n (fun k hk ih => ?_)
    refine zk_iload (pc := 3) dX8_bring_3 rfl ?_
    refine zk_iload (pc := 5) dX8_bring_5 rfl ?_
    refine zk_icmp_ge (pc := 7) 28 dX8_bring_7 (by decide) (fun h7 => ?_) (fun h7 => ?_)
    · rw [nIle (by omega) (by omega)] at h7
      refine zk_return (pc := 28) dX8_bring_28 rfl (zk_rv0 ?_ rfl)
      rw [show k = n by omega]
    · rw [nIle (by omega) (by omega)] at h7
      refine zk_aload_n (pc := 10) 2 dX8_bring_10 rfl rfl ?_
      refine zk_iload_n (pc := 11) 3 dX8_bring_11 rfl rfl ?_
      refine zk_iload (pc := 12) dX8_bring_12 rfl ?_
      refine zk_iadd (pc := 14) dX8_bring_14 ?_
      refine zk_aload_n (pc := 15) 0 dX8_bring_15 rfl rfl ?_
      refine zk_iload_n (pc := 16) 1 dX8_bring_16 rfl rfl ?_
      refine zk_iload (pc := 17) dX8_bring_17 rfl ?_
      refine zk_iadd (pc := 19) dX8_bring_19 ?_
      refine zk_iaload (pc := 20) (i + k) dX8_bring_20 ha (nI_add i k) (by omega) ?_
      refine zk_iastore (pc := 21) (j + k) dX8_bring_21 hb (nI_add j k) (by omega) ?_
      refine zs_iinc (pc := 22) (ls' := [_, _, _, _, _, _]) dX8_bring_22 rfl (nI_1 k) (by decide) rfl ?_
      refine zk_goto (pc := 25) 3 dX8_bring_25 (by decide) ?_
      rw [zuc_c _ _ hab]
      have e := ih (by omega)
      rw [← cpy_s hab] at e
      exact e
  have e0 := loop 0 (Nat.zero_le _)
  rw [cpy_0, zk_uc_self] at e0
  refine zk_iconst (pc := 0) (v := 0) dX8_bring_0 (by decide) ?_
  refine zs_istore (pc := 1) (ls' := [_, _, _, _, _, _]) 5 dX8_bring_1 (by decide) rfl ?_
  exact e0
theorem zm_iff {i : Int32} {M : Nat} (hM : M < 100000) : (0 ≤ i ∧ i ≤ nI M - 1) ↔ (0 ≤ i ∧ i < nI M) := by
  simp only [zle, zlt, zm_int hM, nI_toInt (show M < 2 ^ 31 by omega), show (0 : Int32).toInt = 0 by decide]
  constructor <;> (rintro ⟨h1, h2⟩; exact ⟨h1, by omega⟩)
theorem sp_X8_isOne {M : Nat} (h : mu 46 18 = nI M) (h8 : M ≤ 8) (i : Int32) : zk_M (d + 1) RX8 cX8_isOne 2 (some .boolean) none 0 (zk_loc [.ref 46, .int i] 2) [] mu lm (zk_R (some (.int (zb (0 ≤ i ∧ i < mu 46 18)))) mu lm) := by
  rw [h, zb_c (zm_iff (i := i) (show M < 100000 by omega)).symm, ← h]
  refine zk_iload_n (pc := 0) 1 dX8_isOne_0 rfl rfl ?_
  refine zk_iconst (pc := 1) (v := 0) dX8_isOne_1 (by decide) ?_
  refine zk_aload_n (pc := 2) 0 dX8_isOne_2 rfl rfl ?_
  refine zk_getI (pc := 3) dX8_isOne_3 flX8_63 rfl rfl ?_
  refine zk_iconst (pc := 6) (v := 1) dX8_isOne_6 (by decide) ?_
  refine zk_isub (pc := 7) dX8_isOne_7 ?_
  refine zk_callSI (pc := 8) dX8_isOne_8 mtX8_in lkX8_66 stX8_in [_, _, _] _ rfl rfl (Nat.le_of_ble_eq_true rfl) (Nat.le_of_ble_eq_true rfl) (sp_X8_in _ _ _) ?_
  exact zk_ireturn (pc := 11) dX8_isOne_11 (Or.inr ⟨rfl, zb_01⟩) (zk_ri rfl)
theorem sp_X8_isCell {C : Nat} (h : mu 46 17 = nI C) (h8 : C ≤ 8) (i : Int32) : zk_M (d + 1) RX8 cX8_isCell 2 (some .boolean) none 0 (zk_loc [.ref 46, .int i] 2) [] mu lm (zk_R (some (.int (zb (0 ≤ i ∧ i < mu 46 17)))) mu lm) := by
  rw [h, zb_c (zm_iff (i := i) (show C < 100000 by omega)).symm, ← h]
  refine zk_iload_n (pc := 0) 1 dX8_isCell_0 rfl rfl ?_
  refine zk_iconst (pc := 1) (v := 0) dX8_isCell_1 (by decide) ?_
  refine zk_aload_n (pc := 2) 0 dX8_isCell_2 rfl rfl ?_
  refine zk_getI (pc := 3) dX8_isCell_3 flX8_70 rfl rfl ?_
  refine zk_iconst (pc := 6) (v := 1) dX8_isCell_6 (by decide) ?_
  refine zk_isub (pc := 7) dX8_isCell_7 ?_
  refine zk_callSI (pc := 8) dX8_isCell_8 mtX8_in lkX8_66 stX8_in [_, _, _] _ rfl rfl (Nat.le_of_ble_eq_true rfl) (Nat.le_of_ble_eq_true rfl) (sp_X8_in _ _ _) ?_
  exact zk_ireturn (pc := 11) dX8_isCell_11 (Or.inr ⟨rfl, zb_01⟩) (zk_ri rfl)
def kIsM (k w : Int32) : Prop := k = w ∨ w = 0 ∨ (k = 4 ∧ w = 1) ∨ (k = 5 ∧ w = 2)
theorem sp_X8_is (k w : Int32) : zk_M d RX8 cX8_is 2 (some .boolean) none 0 (zk_loc [.int k, .int w] 2) [] mu lm (zk_R (some (.int (zb (k = w ∨ w = 0 ∨ (k = 4 ∧ w = 1) ∨ (k = 5 ∧ w = 2))))) mu lm) := by
  refine zk_iload_n (pc := 0) 0 dX8_is_0 rfl rfl ?_
  refine zk_iload_n (pc := 1) 1 dX8_is_1 rfl rfl ?_
  refine zk_icmp_eq (pc := 2) 29 dX8_is_2 (by decide) (fun h2 => ?_) (fun h2 => ?_)
  · skip
    refine zk_iconst (pc := 29) (v := 1) dX8_is_29 (by decide) ?_
    refine zk_goto (pc := 30) 34 dX8_is_30 (by decide) ?_
    refine zk_ireturn (pc := 34) dX8_is_34 (Or.inr ⟨rfl, by first | exact Or.inl rfl | exact Or.inr rfl⟩) ?_
    apply zk_ri; unfold zb; split <;> simp_all
  · skip
    refine zk_iload_n (pc := 5) 1 dX8_is_5 rfl rfl ?_
    refine zk_if_eq (pc := 6) 29 dX8_is_6 (by decide) (fun h6 => ?_) (fun h6 => ?_)
    · skip
      refine zk_iconst (pc := 29) (v := 1) dX8_is_29 (by decide) ?_
      refine zk_goto (pc := 30) 34 dX8_is_30 (by decide) ?_
      refine zk_ireturn (pc := 34) dX8_is_34 (Or.inr ⟨rfl, by first | exact Or.inl rfl | exact Or.inr rfl⟩) ?_
      apply zk_ri; unfold zb; split <;> simp_all
    · skip
      refine zk_iload_n (pc := 9) 0 dX8_is_9 rfl rfl ?_
      refine zk_iconst (pc := 10) (v := 4) dX8_is_10 (by decide) ?_
      refine zk_icmp_ne (pc := 11) 19 dX8_is_11 (by decide) (fun h11 => ?_) (fun h11 => ?_)
      · skip
        refine zk_iload_n (pc := 19) 0 dX8_is_19 rfl rfl ?_
        refine zk_iconst (pc := 20) (v := 5) dX8_is_20 (by decide) ?_
        refine zk_icmp_ne (pc := 21) 33 dX8_is_21 (by decide) (fun h21 => ?_) (fun h21 => ?_)
        · skip
          refine zk_iconst (pc := 33) (v := 0) dX8_is_33 (by decide) ?_
          refine zk_ireturn (pc := 34) dX8_is_34 (Or.inr ⟨rfl, by first | exact Or.inl rfl | exact Or.inr rfl⟩) ?_
          apply zk_ri; unfold zb; split <;> simp_all
        · skip
          refine zk_iload_n (pc := 24) 1 dX8_is_24 rfl rfl ?_
          refine zk_iconst (pc := 25) (v := 2) dX8_is_25 (by decide) ?_
          refine zk_icmp_ne (pc := 26) 33 dX8_is_26 (by decide) (fun h26 => ?_) (fun h26 => ?_)
          · skip
            refine zk_iconst (pc := 33) (v := 0) dX8_is_33 (by decide) ?_
            refine zk_ireturn (pc := 34) dX8_is_34 (Or.inr ⟨rfl, by first | exact Or.inl rfl | exact Or.inr rfl⟩) ?_
            apply zk_ri; unfold zb; split <;> simp_all
          · skip
            refine zk_iconst (pc := 29) (v := 1) dX8_is_29 (by decide) ?_
            refine zk_goto (pc := 30) 34 dX8_is_30 (by decide) ?_
            refine zk_ireturn (pc := 34) dX8_is_34 (Or.inr ⟨rfl, by first | exact Or.inl rfl | exact Or.inr rfl⟩) ?_
            apply zk_ri; unfold zb; split <;> simp_all
      · skip
        refine zk_iload_n (pc := 14) 1 dX8_is_14 rfl rfl ?_
        refine zk_iconst (pc := 15) (v := 1) dX8_is_15 (by decide) ?_
        refine zk_icmp_eq (pc := 16) 29 dX8_is_16 (by decide) (fun h16 => ?_) (fun h16 => ?_)
        · skip
          refine zk_iconst (pc := 29) (v := 1) dX8_is_29 (by decide) ?_
          refine zk_goto (pc := 30) 34 dX8_is_30 (by decide) ?_
          refine zk_ireturn (pc := 34) dX8_is_34 (Or.inr ⟨rfl, by first | exact Or.inl rfl | exact Or.inr rfl⟩) ?_
          apply zk_ri; unfold zb; split <;> simp_all
        · skip
          refine zk_iload_n (pc := 19) 0 dX8_is_19 rfl rfl ?_
          refine zk_iconst (pc := 20) (v := 5) dX8_is_20 (by decide) ?_
          refine zk_icmp_ne (pc := 21) 33 dX8_is_21 (by decide) (fun h21 => ?_) (fun h21 => ?_)
          · skip
            refine zk_iconst (pc := 33) (v := 0) dX8_is_33 (by decide) ?_
            refine zk_ireturn (pc := 34) dX8_is_34 (Or.inr ⟨rfl, by first | exact Or.inl rfl | exact Or.inr rfl⟩) ?_
            apply zk_ri; unfold zb; split <;> simp_all
          · skip
            refine zk_iload_n (pc := 24) 1 dX8_is_24 rfl rfl ?_
            refine zk_iconst (pc := 25) (v := 2) dX8_is_25 (by decide) ?_
            refine zk_icmp_ne (pc := 26) 33 dX8_is_26 (by decide) (fun h26 => ?_) (fun h26 => ?_)
            · skip
              refine zk_iconst (pc := 33) (v := 0) dX8_is_33 (by decide) ?_
              refine zk_ireturn (pc := 34) dX8_is_34 (Or.inr ⟨rfl, by first | exact Or.inl rfl | exact Or.inr rfl⟩) ?_
              apply zk_ri; unfold zb; split <;> simp_all
            · skip
              refine zk_iconst (pc := 29) (v := 1) dX8_is_29 (by decide) ?_
              refine zk_goto (pc := 30) 34 dX8_is_30 (by decide) ?_
              refine zk_ireturn (pc := 34) dX8_is_34 (Or.inr ⟨rfl, by first | exact Or.inl rfl | exact Or.inr rfl⟩) ?_
              apply zk_ri; unfold zb; split <;> simp_all
theorem kSay4a (v : Int32) (h : ¬ v / 2 ≤ 0) : v / 2 - 1 = (if 0 < v / 2 - 1 then v / 2 - 1 else 0) := by
  by_cases q : 0 < v / 2 - 1
  · rw [if_pos q]
  · rw [if_neg q]
    have e : (v / 2 - 1).toInt = (v / 2).toInt - 1 := by
      have h1 := Int32.toInt_lt (v / 2)
      have h2 : 0 < (v / 2).toInt := by simp only [zle, show (0 : Int32).toInt = 0 by decide] at h; omega
      rw [Int32.toInt_sub, show (1 : Int32).toInt = 1 by decide]
      exact Int.bmod_eq_of_le (by omega) (by omega)
    rw [zeq, e]
    simp only [zle, zlt, e, show (0 : Int32).toInt = 0 by decide] at *
    omega
theorem kSay4b (v : Int32) (h : v / 2 ≤ 0) : 0 = (if 0 < v / 2 - 1 then v / 2 - 1 else 0) := by
  rw [if_neg]
  intro q
  have h3 : -1073741824 ≤ (v / 2).toInt := by
    rw [Int32.toInt_div_of_ne_right v 2 (by decide), show (2 : Int32).toInt = 2 by decide]
    have := Int32.le_toInt v
    rcases Int.le_total 0 v.toInt with g | g
    · rw [Int.tdiv_eq_ediv_of_nonneg g]; omega
    · have e : v.toInt.tdiv 2 = -((-v.toInt) / 2) := by rw [← Int.tdiv_eq_ediv_of_nonneg (by omega), Int.neg_tdiv, Int.neg_neg]
      rw [e]; omega
  have e : (v / 2 - 1).toInt = (v / 2).toInt - 1 := by
    rw [Int32.toInt_sub, show (1 : Int32).toInt = 1 by decide]
    simp only [zle, show (0 : Int32).toInt = 0 by decide] at h
    exact Int.bmod_eq_of_le (by omega) (by omega)
  simp only [zle, zlt, e, show (0 : Int32).toInt = 0 by decide] at *
  omega
theorem sp_X8_saysBy (k v : Int32) : zk_M d RX8 cX8_saysBy 2 (some .int) none 0 (zk_loc [.int k, .int v] 2) [] mu lm (zk_R (some (.int (kSay k v))) mu lm) := by
  refine zk_iload_n (pc := 0) 0 dX8_saysBy_0 rfl rfl ?_
  by_cases e2 : k = 2
  · subst e2
    refine zk_tabIn (pc := 1) 32 dX8_saysBy_1 (by decide) (by decide) (by rfl) (by decide) ?_
    refine zk_iload_n (pc := 32) 1 dX8_saysBy_32 rfl rfl ?_
    refine zk_iload_n (pc := 33) 1 dX8_saysBy_33 rfl rfl ?_
    refine zk_bipush (pc := 34) (v := 10) dX8_saysBy_34 (by decide) ?_
    refine zk_irem (pc := 36) dX8_saysBy_36 (by decide) ?_
    refine zk_isub (pc := 37) dX8_saysBy_37 ?_
    refine zk_ireturn (pc := 38) dX8_saysBy_38 (Or.inl rfl) ?_
    exact zk_ri rfl
  by_cases e3 : k = 3
  · subst e3
    refine zk_tabIn (pc := 1) 44 dX8_saysBy_1 (by decide) (by decide) (by rfl) (by decide) ?_
    refine zk_iload_n (pc := 44) 1 dX8_saysBy_44 rfl rfl ?_
    refine zk_ireturn (pc := 45) dX8_saysBy_45 (Or.inl rfl) ?_
    exact zk_ri rfl
  by_cases e4 : k = 4
  · subst e4
    refine zk_tabIn (pc := 1) 46 dX8_saysBy_1 (by decide) (by decide) (by rfl) (by decide) ?_
    refine zk_iload_n (pc := 46) 1 dX8_saysBy_46 rfl rfl ?_
    refine zk_iconst (pc := 47) (v := 2) dX8_saysBy_47 (by decide) ?_
    refine zk_idiv (pc := 48) dX8_saysBy_48 (by decide) ?_
    refine zk_if_le (pc := 49) 60 dX8_saysBy_49 (by decide) (fun h49 => ?_) (fun h49 => ?_)
    · skip
      refine zk_iconst (pc := 60) (v := 0) dX8_saysBy_60 (by decide) ?_
      refine zk_ireturn (pc := 61) dX8_saysBy_61 (Or.inl rfl) (zk_ri ?_)
      show _ = (if 0 < v / 2 - 1 then v / 2 - 1 else 0)
      first | exact kSay4a v h49 | exact kSay4b v h49
    · skip
      refine zk_iload_n (pc := 52) 1 dX8_saysBy_52 rfl rfl ?_
      refine zk_iconst (pc := 53) (v := 2) dX8_saysBy_53 (by decide) ?_
      refine zk_idiv (pc := 54) dX8_saysBy_54 (by decide) ?_
      refine zk_iconst (pc := 55) (v := 1) dX8_saysBy_55 (by decide) ?_
      refine zk_isub (pc := 56) dX8_saysBy_56 ?_
      refine zk_goto (pc := 57) 61 dX8_saysBy_57 (by decide) ?_
      refine zk_ireturn (pc := 61) dX8_saysBy_61 (Or.inl rfl) (zk_ri ?_)
      show _ = (if 0 < v / 2 - 1 then v / 2 - 1 else 0)
      first | exact kSay4a v h49 | exact kSay4b v h49
  by_cases e5 : k = 5
  · subst e5
    refine zk_tabIn (pc := 1) 39 dX8_saysBy_1 (by decide) (by decide) (by rfl) (by decide) ?_
    refine zk_iload_n (pc := 39) 1 dX8_saysBy_39 rfl rfl ?_
    refine zk_bipush (pc := 40) (v := 10) dX8_saysBy_40 (by decide) ?_
    refine zk_irem (pc := 42) dX8_saysBy_42 (by decide) ?_
    refine zk_ireturn (pc := 43) dX8_saysBy_43 (Or.inl rfl) ?_
    exact zk_ri rfl
  · have a2 : (2 : Int32).toInt = 2 := by decide
    have a3 : (3 : Int32).toInt = 3 := by decide
    have a4 : (4 : Int32).toInt = 4 := by decide
    have a5 : (5 : Int32).toInt = 5 := by decide
    have b2 : ¬ k.toInt = 2 := fun q => e2 (Int32.toInt_inj.mp (q.trans a2.symm))
    have b3 : ¬ k.toInt = 3 := fun q => e3 (Int32.toInt_inj.mp (q.trans a3.symm))
    have b4 : ¬ k.toInt = 4 := fun q => e4 (Int32.toInt_inj.mp (q.trans a4.symm))
    have b5 : ¬ k.toInt = 5 := fun q => e5 (Int32.toInt_inj.mp (q.trans a5.symm))
    refine zk_tabOut (pc := 1) (x := k) 62 dX8_saysBy_1 (by omega) (by decide) ?_
    refine zk_iload_n (pc := 62) 1 dX8_saysBy_62 rfl rfl ?_
    refine zk_iconst (pc := 63) (v := 2) dX8_saysBy_63 (by decide) ?_
    refine zk_idiv (pc := 64) dX8_saysBy_64 (by decide) ?_
    refine zk_ireturn (pc := 65) dX8_saysBy_65 (Or.inl rfl) ?_
    exact zk_ri (by unfold kSay; rw [if_neg e2, if_neg e5, if_neg e3, if_neg e4])
theorem sp_X8_breath {j : Nat} (hj : j < 6) (v : Int32) : zk_M (d + 1) RX8 cX8_breath 3 (some .int) none 0 (zk_loc [.ref 46, .int (nI j), .int v] 3) [] mu lm (zk_R (some (.int (v - kSay (mu 53 j) v))) mu lm) := by
  refine zk_iload_n (pc := 0) 2 dX8_breath_0 rfl rfl ?_
  refine zk_aload_n (pc := 1) 0 dX8_breath_1 rfl rfl ?_
  refine zk_getR (pc := 2) dX8_breath_2 flX8_32 rfl rfl ?_
  refine zk_iload_n (pc := 5) 1 dX8_breath_5 rfl rfl ?_
  refine zk_iaload (pc := 6) j dX8_breath_6 rfl rfl hj ?_
  refine zk_iload_n (pc := 7) 2 dX8_breath_7 rfl rfl ?_
  refine zk_callSI (pc := 8) dX8_breath_8 mtX8_saysBy lkX8_140 stX8_saysBy [_, _] _ rfl rfl (Nat.le_of_ble_eq_true rfl) (Nat.le_of_ble_eq_true rfl) (sp_X8_saysBy _ _) ?_
  refine zk_isub (pc := 11) dX8_breath_11 ?_
  exact zk_ireturn (pc := 12) dX8_breath_12 (Or.inl rfl) (zk_ri rfl)
theorem sp_X8_behind {C q : Nat} (hC : mu 46 17 = nI C) (hC8 : C ≤ 8) (hq : q < C) : zk_M d RX8 cX8_behind 2 (some .int) none 0 (zk_loc [.ref 46, .int (nI q)] 2) [] mu lm (zk_R (some (.int (nI ((q + 1) % C)))) mu lm) := by
  refine zk_iload_n (pc := 0) 1 dX8_behind_0 rfl rfl ?_
  refine zk_iconst (pc := 1) (v := 1) dX8_behind_1 (by decide) ?_
  refine zk_iadd (pc := 2) dX8_behind_2 ?_
  refine zk_aload_n (pc := 3) 0 dX8_behind_3 rfl rfl ?_
  refine zk_getI (pc := 4) dX8_behind_4 flX8_70 rfl rfl ?_
  refine zk_irem (pc := 7) dX8_behind_7 (by rw [hC]; exact nI_ne0 (by omega) (by omega)) ?_
  refine zk_ireturn (pc := 8) dX8_behind_8 (Or.inl rfl) (zk_ri ?_)
  rw [nI_1, hC, pk_rem (by omega) (by omega) (by omega)]
theorem sp_X8_ahead {C q : Nat} (hC : mu 46 17 = nI C) (hC8 : C ≤ 8) (hq : q < C) : zk_M d RX8 cX8_ahead 2 (some .int) none 0 (zk_loc [.ref 46, .int (nI q)] 2) [] mu lm (zk_R (some (.int (nI ((q + C - 1) % C)))) mu lm) := by
  refine zk_iload_n (pc := 0) 1 dX8_ahead_0 rfl rfl ?_
  refine zk_aload_n (pc := 1) 0 dX8_ahead_1 rfl rfl ?_
  refine zk_getI (pc := 2) dX8_ahead_2 flX8_70 rfl rfl ?_
  refine zk_iadd (pc := 5) dX8_ahead_5 ?_
  refine zk_iconst (pc := 6) (v := 1) dX8_ahead_6 (by decide) ?_
  refine zk_isub (pc := 7) dX8_ahead_7 ?_
  refine zk_aload_n (pc := 8) 0 dX8_ahead_8 rfl rfl ?_
  refine zk_getI (pc := 9) dX8_ahead_9 flX8_70 rfl rfl ?_
  refine zk_irem (pc := 12) dX8_ahead_12 (by rw [hC]; exact nI_ne0 (by omega) (by omega)) ?_
  refine zk_ireturn (pc := 13) dX8_ahead_13 (Or.inl rfl) (zk_ri ?_)
  rw [hC, nI_add, show (1 : Int32) = nI 1 from rfl, pk_sub (by omega), pk_rem (by omega) (by omega) (by omega)]
theorem sp_X8_allIn {c n C : Nat} (hs : zk_shp[c]? = some (1, n, [])) (hC : mu 46 17 = nI C) (hC8 : C ≤ 8) (hn : 8 ≤ n) : zk_M d RX8 cX8_allIn 4 (some .int) none 0 (zk_loc [.ref 46, .ref c] 4) [] mu lm (zk_R (some (.int (zsum C (mu c)))) mu lm) := by
  have loop : ∀ k, k ≤ C → zk_M d RX8 cX8_allIn 4 (some .int) none 4 [.ref 46, .ref c, .int (zsum k (mu c)), .int (nI k)] [] mu lm (zk_R (some (.int (zsum C (mu c)))) mu lm) := by
    refine zk_ind C (fun k hk ih => ?_)
    refine zk_iload_n (pc := 4) 3 dX8_allIn_4 rfl rfl ?_
    refine zk_aload_n (pc := 5) 0 dX8_allIn_5 rfl rfl ?_
    refine zk_getI (pc := 6) dX8_allIn_6 flX8_70 rfl rfl ?_
    refine zk_icmp_ge (pc := 9) 24 dX8_allIn_9 (by decide) (fun h9 => ?_) (fun h9 => ?_)
    · rw [hC, nIle (by omega) (by omega)] at h9
      refine zk_iload_n (pc := 24) 2 dX8_allIn_24 rfl rfl ?_
      refine zk_ireturn (pc := 25) dX8_allIn_25 (Or.inl rfl) (zk_ri ?_)
      rw [show k = C by omega]
    · rw [hC, nIle (by omega) (by omega)] at h9
      refine zk_iload_n (pc := 12) 2 dX8_allIn_12 rfl rfl ?_
      refine zk_aload_n (pc := 13) 1 dX8_allIn_13 rfl rfl ?_
      refine zk_iload_n (pc := 14) 3 dX8_allIn_14 rfl rfl ?_
      refine zk_iaload (pc := 15) k dX8_allIn_15 hs rfl (by omega) ?_
      refine zk_iadd (pc := 16) dX8_allIn_16 ?_
      refine zs_istore_n (pc := 17) (ls' := [_, _, _, _]) 2 dX8_allIn_17 rfl (by decide) rfl ?_
      refine zs_iinc (pc := 18) (ls' := [_, _, _, _]) dX8_allIn_18 rfl (nI_1 k) (by decide) rfl ?_
      refine zk_goto (pc := 21) 4 dX8_allIn_21 (by decide) ?_
      exact ih (by omega)
  refine zk_iconst (pc := 0) (v := 0) dX8_allIn_0 (by decide) ?_
  refine zs_istore_n (pc := 1) (ls' := [_, _, _, _]) 2 dX8_allIn_1 rfl (by decide) rfl ?_
  refine zk_iconst (pc := 2) (v := 0) dX8_allIn_2 (by decide) ?_
  refine zs_istore_n (pc := 3) (ls' := [_, _, _, _]) 3 dX8_allIn_3 rfl (by decide) rfl ?_
  exact loop 0 (by omega)
theorem zmin999 {x : Int32} : (x ≤ 999 → x = zmin 999 x) ∧ (¬ x ≤ 999 → 999 = zmin 999 x) := by
  unfold zmin
  constructor
  · intro h
    by_cases q : x < 999
    · rw [if_pos q]
    · rw [if_neg q, zeq]; simp only [zle, zlt] at *; omega
  · intro h
    rw [if_neg (fun q => h (by simp only [zle, zlt] at *; omega))]
theorem sp_X8_comes {c n q : Nat} (hs : zk_shp[c]? = some (1, n, [])) (hq : q < n) (x : Int32) : zk_M d RX8 cX8_comes 3 (none) none 0 (zk_loc [.ref c, .int (nI q), .int x] 3) [] mu lm (zk_R none (zk_up mu c q (zmin 999 (mu c q + x))) lm) := by
  refine zk_aload_n (pc := 0) 0 dX8_comes_0 rfl rfl ?_
  refine zk_iload_n (pc := 1) 1 dX8_comes_1 rfl rfl ?_
  refine zk_aload_n (pc := 2) 0 dX8_comes_2 rfl rfl ?_
  refine zk_iload_n (pc := 3) 1 dX8_comes_3 rfl rfl ?_
  refine zk_iaload (pc := 4) q dX8_comes_4 hs rfl hq ?_
  refine zk_iload_n (pc := 5) 2 dX8_comes_5 rfl rfl ?_
  refine zk_iadd (pc := 6) dX8_comes_6 ?_
  refine zk_sipush (pc := 7) (v := 999) dX8_comes_7 (by decide) ?_
  refine zk_icmp_le (pc := 10) 19 dX8_comes_10 (by decide) (fun h10 => ?_) (fun h10 => ?_)
  · skip
    refine zk_aload_n (pc := 19) 0 dX8_comes_19 rfl rfl ?_
    refine zk_iload_n (pc := 20) 1 dX8_comes_20 rfl rfl ?_
    refine zk_iaload (pc := 21) q dX8_comes_21 hs rfl hq ?_
    refine zk_iload_n (pc := 22) 2 dX8_comes_22 rfl rfl ?_
    refine zk_iadd (pc := 23) dX8_comes_23 ?_
    refine zk_iastore (pc := 24) q dX8_comes_24 hs rfl hq ?_
    refine zk_return (pc := 25) dX8_comes_25 rfl (zk_rv0 ?_ rfl)
    first | rw [← zmin999.1 h10] | rw [← zmin999.2 h10]
  · skip
    refine zk_sipush (pc := 13) (v := 999) dX8_comes_13 (by decide) ?_
    refine zk_goto (pc := 16) 24 dX8_comes_16 (by decide) ?_
    refine zk_iastore (pc := 24) q dX8_comes_24 hs rfl hq ?_
    refine zk_return (pc := 25) dX8_comes_25 rfl (zk_rv0 ?_ rfl)
    first | rw [← zmin999.1 h10] | rw [← zmin999.2 h10]
end M40
