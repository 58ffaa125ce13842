section M46
variable {d : Nat} {mu : Mem} {lm : MemL}
theorem zltn {x y : Int32} : (x < y) = ¬ (y ≤ x) := by simp only [zlt, zle]; exact propext ⟨fun h => by omega, fun h => by omega⟩
theorem znl {x y : Int32} : (¬ x < y) = (y ≤ x) := by simp only [zlt, zle]; exact propext ⟨fun h => by omega, fun h => by omega⟩
theorem sp_X8_isPart (i n z : Int32) : zk_M d RX8 cX8_isPart 3 (some .boolean) none 0 (zk_loc [.int i, .int n, .int z] 3) [] mu lm (zk_R (some (.int (zb (0 ≤ i ∧ n ≤ z ∧ i ≤ z - n)))) mu lm) := by
  refine zk_iload_n (pc := 0) 0 dX8_isPart_0 rfl rfl ?_
  refine zk_if_lt (pc := 1) 20 dX8_isPart_1 (by decide) (fun h1 => ?_) (fun h1 => ?_)
  · rw [zltn] at h1
    refine zk_iconst (pc := 20) (v := 0) dX8_isPart_20 (by decide) ?_
    refine zk_ireturn (pc := 21) dX8_isPart_21 (Or.inr ⟨rfl, by first | exact Or.inl rfl | exact Or.inr rfl⟩) ?_
    apply zk_ri
    first | (rw [zb_t]; exact ⟨by assumption, by assumption, by assumption⟩) | (rw [zb_f]; intro q; first | exact absurd q.1 (by assumption) | exact absurd q.2.1 (by assumption) | exact absurd q.2.2 (by assumption))
  · rw [znl] at h1
    refine zk_iload_n (pc := 4) 1 dX8_isPart_4 rfl rfl ?_
    refine zk_iload_n (pc := 5) 2 dX8_isPart_5 rfl rfl ?_
    refine zk_icmp_gt (pc := 6) 20 dX8_isPart_6 (by decide) (fun h6 => ?_) (fun h6 => ?_)
    · rw [zltn] at h6
      refine zk_iconst (pc := 20) (v := 0) dX8_isPart_20 (by decide) ?_
      refine zk_ireturn (pc := 21) dX8_isPart_21 (Or.inr ⟨rfl, by first | exact Or.inl rfl | exact Or.inr rfl⟩) ?_
      apply zk_ri
      first | (rw [zb_t]; exact ⟨by assumption, by assumption, by assumption⟩) | (rw [zb_f]; intro q; first | exact absurd q.1 (by assumption) | exact absurd q.2.1 (by assumption) | exact absurd q.2.2 (by assumption))
    · rw [znl] at h6
      refine zk_iload_n (pc := 9) 0 dX8_isPart_9 rfl rfl ?_
      refine zk_iload_n (pc := 10) 2 dX8_isPart_10 rfl rfl ?_
      refine zk_iload_n (pc := 11) 1 dX8_isPart_11 rfl rfl ?_
      refine zk_isub (pc := 12) dX8_isPart_12 ?_
      refine zk_icmp_gt (pc := 13) 20 dX8_isPart_13 (by decide) (fun h13 => ?_) (fun h13 => ?_)
      · rw [zltn] at h13
        refine zk_iconst (pc := 20) (v := 0) dX8_isPart_20 (by decide) ?_
        refine zk_ireturn (pc := 21) dX8_isPart_21 (Or.inr ⟨rfl, by first | exact Or.inl rfl | exact Or.inr rfl⟩) ?_
        apply zk_ri
        first | (rw [zb_t]; exact ⟨by assumption, by assumption, by assumption⟩) | (rw [zb_f]; intro q; first | exact absurd q.1 (by assumption) | exact absurd q.2.1 (by assumption) | exact absurd q.2.2 (by assumption))
      · rw [znl] at h13
        refine zk_iconst (pc := 16) (v := 1) dX8_isPart_16 (by decide) ?_
        refine zk_goto (pc := 17) 21 dX8_isPart_17 (by decide) ?_
        refine zk_ireturn (pc := 21) dX8_isPart_21 (Or.inr ⟨rfl, by first | exact Or.inl rfl | exact Or.inr rfl⟩) ?_
        apply zk_ri
        first | (rw [zb_t]; exact ⟨by assumption, by assumption, by assumption⟩) | (rw [zb_f]; intro q; first | exact absurd q.1 (by assumption) | exact absurd q.2.1 (by assumption) | exact absurd q.2.2 (by assumption))
theorem sp_X8_copy_n {r t : Int32} (hb : ¬ ((0 ≤ r ∧ r < 6) ∧ (0 ≤ t ∧ t < 6))) (i j n : Int32) : zk_M (d + 1) RX8 cX8_copy 9 (some .int) none 0 (zk_loc [.ref 46, .int r, .int i, .int t, .int j, .int n] 9) [] mu lm (zk_R (some (.int (-1))) mu lm) := by
  have e6 : ∀ x : Int32, (0 ≤ x ∧ x ≤ 5) → (0 ≤ x ∧ x < 6) := fun x hx => ⟨hx.1, by have := hx.2; simp only [zlt, zle] at *; have a : (5 : Int32).toInt = 5 := rfl; have b : (6 : Int32).toInt = 6 := rfl; omega⟩
  refine zk_iload_n (pc := 0) 1 dX8_copy_0 rfl rfl ?_
  refine zk_iconst (pc := 1) (v := 0) dX8_copy_1 (by decide) ?_
  refine zk_iconst (pc := 2) (v := 5) dX8_copy_2 (by decide) ?_
  refine zk_callSI (pc := 3) dX8_copy_3 mtX8_in lkX8_66 stX8_in [_, _, _] _ rfl rfl (Nat.le_of_ble_eq_true rfl) (Nat.le_of_ble_eq_true rfl) (sp_X8_in _ _ _) ?_
  refine zk_if_eq (pc := 6) 18 dX8_copy_6 (by decide) (fun h6 => ?_) (fun h6 => ?_)
  · rw [zb_e] at h6
    refine zk_iconst (pc := 18) (v := -1) dX8_copy_18 (by decide) ?_
    exact zk_ireturn (pc := 19) dX8_copy_19 (Or.inl rfl) (zk_ri rfl)
  · rw [zb_n] at h6
    refine zk_iload_n (pc := 9) 3 dX8_copy_9 rfl rfl ?_
    refine zk_iconst (pc := 10) (v := 0) dX8_copy_10 (by decide) ?_
    refine zk_iconst (pc := 11) (v := 5) dX8_copy_11 (by decide) ?_
    refine zk_callSI (pc := 12) dX8_copy_12 mtX8_in lkX8_66 stX8_in [_, _, _] _ rfl rfl (Nat.le_of_ble_eq_true rfl) (Nat.le_of_ble_eq_true rfl) (sp_X8_in _ _ _) ?_
    refine zk_if_ne (pc := 15) 20 dX8_copy_15 (by decide) (fun h15 => ?_) (fun h15 => ?_)
    · rw [zb_n] at h15
      exact absurd ⟨e6 _ h6, e6 _ h15⟩ hb --
    · rw [zb_e] at h15
      refine zk_iconst (pc := 18) (v := -1) dX8_copy_18 (by decide) ?_
      exact zk_ireturn (pc := 19) dX8_copy_19 (Or.inl rfl) (zk_ri rfl)
def mCopy (mu : Mem) (k t : Nat) (i j n : Int32) : Int32 × Mem := if 0 ≤ n then (if 0 ≤ mu 47 k ∧ 0 ≤ mu 47 t then (if (0 ≤ i ∧ n ≤ mu 47 k ∧ i ≤ mu 47 k - n) ∧ (0 ≤ j ∧ n ≤ mu 47 t ∧ j ≤ mu 47 t - n) then (1, zk_uc mu 48 (va_cpy (mu 48) (mu 48) (40 * k + i.toNatClampNeg) (40 * t + j.toNatClampNeg) n.toNatClampNeg)) else (-3, fndD mu 2)) else (-3, fndD mu 1)) else (-3, fndD mu 5)
def cpUp (mu : Mem) (I J n k : Nat) : Mem := zk_uc mu 48 (fun q => if J + (n - k) ≤ q ∧ q < J + n then mu 48 (I + (q - J)) else mu 48 q)
theorem cpUp_0 (mu : Mem) (I J n : Nat) : cpUp mu I J n 0 = mu := by
  unfold cpUp
  have h : (fun q => if J + (n - 0) ≤ q ∧ q < J + n then mu 48 (I + (q - J)) else mu 48 q) = mu 48 := by funext q; rw [if_neg (by omega)]
  rw [h, zk_uc_self]
theorem cpUp_s (mu : Mem) {I J n k : Nat} (hk : k < n) : zk_up (cpUp mu I J n k) 48 (J + (n - 1 - k)) (mu 48 (I + (n - 1 - k))) = cpUp mu I J n (k + 1) := by
  funext c q
  unfold cpUp zk_up zk_uc
  by_cases hc : c = 48
  · subst hc
    by_cases hq : q = J + (n - 1 - k)
    · subst hq
      rw [if_pos ⟨rfl, rfl⟩, if_pos rfl, if_pos (by omega), show I + (J + (n - 1 - k) - J) = I + (n - 1 - k) by omega]
    · rw [if_neg (by simp [hq]), if_pos rfl, if_pos rfl]
      by_cases h1 : J + (n - k) ≤ q ∧ q < J + n
      · rw [if_pos h1, if_pos (by omega)]
      · rw [if_neg h1, if_neg (by omega)]
  · simp [hc]
theorem cpUp_k (mu : Mem) {I J n k q : Nat} (h : q < J + (n - k)) : cpUp mu I J n k 48 q = mu 48 q := by
  unfold cpUp; rw [zuc_s, if_neg (by omega)]
theorem cpUp_n (mu : Mem) (I J n : Nat) : cpUp mu I J n n = zk_uc mu 48 (va_cpy (mu 48) (mu 48) I J n) := by
  unfold cpUp va_cpy; rw [show n - n = 0 by omega]; rfl
def cpDn (mu : Mem) (I J k : Nat) : Mem := zk_uc mu 48 (va_cpy (mu 48) (mu 48) I J k)
theorem cpDn_0 (mu : Mem) (I J : Nat) : cpDn mu I J 0 = mu := by unfold cpDn; rw [cpy_0, zk_uc_self]
theorem cpDn_s (mu : Mem) (I J k : Nat) : zk_up (cpDn mu I J k) 48 (J + k) (mu 48 (I + k)) = cpDn mu I J (k + 1) := by
  funext c q
  unfold cpDn zk_up zk_uc va_cpy
  by_cases hc : c = 48
  · subst hc
    by_cases hq : q = J + k
    · subst hq
      rw [if_pos ⟨rfl, rfl⟩, if_pos rfl, if_pos (by omega), show I + (J + k - J) = I + k by omega]
    · rw [if_neg (by simp [hq]), if_pos rfl, if_pos rfl]
      by_cases h1 : J ≤ q ∧ q < J + k
      · rw [if_pos h1, if_pos (by omega)]
      · rw [if_neg h1, if_neg (by omega)]
  · simp [hc]
theorem cpDn_k (mu : Mem) {I J k q : Nat} (h : ¬ (J ≤ q ∧ q < J + k)) : cpDn mu I J k 48 q = mu 48 q := by
  unfold cpDn va_cpy; rw [zuc_s, if_neg h]
theorem zpart {x i n : Int32} {s : Nat} (hx : x = nI s) (hs : s ≤ 1000) (hn : 0 ≤ n) (h : 0 ≤ i ∧ n ≤ x ∧ i ≤ x - n) : ∃ a b, i = nI a ∧ n = nI b ∧ a + b ≤ s := zhld hx hs ⟨h.1, hn, h.2.1, h.2.2⟩
theorem sp_X8_copy {k t : Nat} (hk : k < 6) (ht : t < 6) (hz1 : zSz (mu 47 k) 40) (hz2 : zSz (mu 47 t) 40) (i j n : Int32) : zk_M (d + 1) RX8 cX8_copy 9 (some .int) none 0 (zk_loc [.ref 46, .int (nI k), .int i, .int (nI t), .int j, .int n] 9) [] mu lm (zk_R (some (.int (mCopy mu k t i j n).1)) (mCopy mu k t i j n).2 lm) := by
  have zr : ∀ x : Nat, x < 6 → (0 : Int32) ≤ nI x ∧ nI x ≤ 5 := fun x hx => ⟨nI_pos' (by omega), show nI x ≤ nI 5 from nI_le (by omega) (by decide)⟩
  have up : ∀ (a b n : Nat), a + n ≤ 40 → b + n ≤ 40 → a < b → k = t → ∀ q, q ≤ n → ∀ x, zk_M (d + 1) RX8 cX8_copy 9 (some .int) none 113 [.ref 46, .int (nI k), .int (nI a), .int (nI t), .int (nI b), .int (nI n), .int 1, .int (nI q), x] [] (cpUp mu (40 * k + a) (40 * t + b) n q) lm (zk_R (some (.int 1)) (zk_uc mu 48 (va_cpy (mu 48) (mu 48) (40 * k + a) (40 * t + b) n)) lm) := by
    intro a b n ha hb hab hkt
    refine zk_ind n (fun q hq ih => ?_)
    intro x
    refine zk_iload (pc := 113) dX8_copy_113 rfl ?_
    refine zk_iload (pc := 115) dX8_copy_115 rfl ?_
    refine zk_icmp_ge (pc := 117) 174 dX8_copy_117 (by decide) (fun h117 => ?_) (fun h117 => ?_)
    · rw [nIle (by omega) (by omega)] at h117
      refine zk_iconst (pc := 174) (v := 1) dX8_copy_174 (by decide) ?_
      refine zk_ireturn (pc := 175) dX8_copy_175 (Or.inl rfl) (zk_rm rfl ?_ rfl)
      obtain rfl : q = n := by omega
      exact cpUp_n _ _ _ _
    · rw [nIle (by omega) (by omega)] at h117
      refine zk_iload (pc := 120) dX8_copy_120 rfl ?_
      refine zk_if_eq (pc := 122) 135 dX8_copy_122 (by decide) (fun h122 => ?_) (fun h122 => ?_)
      · exact absurd h122 (by decide) --
      · skip
        refine zk_iload (pc := 125) dX8_copy_125 rfl ?_
        refine zk_iconst (pc := 127) (v := 1) dX8_copy_127 (by decide) ?_
        refine zk_isub (pc := 128) dX8_copy_128 ?_
        refine zk_iload (pc := 129) dX8_copy_129 rfl ?_
        refine zk_isub (pc := 131) dX8_copy_131 ?_
        have e1 : nI n - 1 - nI q = nI (n - 1 - q) := by rw [show n = (n - 1) + 1 by omega, nI_pred, show n - 1 + 1 - 1 = n - 1 by omega, pk_sub (by omega)]
        rw [e1]
        refine zk_goto (pc := 132) 137 dX8_copy_132 (by decide) ?_
        refine zs_istore (pc := 137) (ls' := [_, _, _, _, _, _, _, _, _]) 8 dX8_copy_137 (by decide) rfl ?_
        refine zk_aload_n (pc := 139) 0 dX8_copy_139 rfl rfl ?_
        refine zk_getR (pc := 140) dX8_copy_140 flX8_13 rfl rfl ?_
        refine zk_bipush (pc := 143) (v := 40) dX8_copy_143 (by decide) ?_
        refine zk_iload_n (pc := 145) 3 dX8_copy_145 rfl rfl ?_
        refine zk_imul (pc := 146) dX8_copy_146 ?_
        refine zk_iload (pc := 147) dX8_copy_147 rfl ?_
        refine zk_iadd (pc := 149) dX8_copy_149 ?_
        refine zk_iload (pc := 150) dX8_copy_150 rfl ?_
        refine zk_iadd (pc := 152) dX8_copy_152 ?_
        refine zk_aload_n (pc := 153) 0 dX8_copy_153 rfl rfl ?_
        refine zk_getR (pc := 154) dX8_copy_154 flX8_13 rfl rfl ?_
        refine zk_bipush (pc := 157) (v := 40) dX8_copy_157 (by decide) ?_
        refine zk_iload_n (pc := 159) 1 dX8_copy_159 rfl rfl ?_
        refine zk_imul (pc := 160) dX8_copy_160 ?_
        refine zk_iload_n (pc := 161) 2 dX8_copy_161 rfl rfl ?_
        refine zk_iadd (pc := 162) dX8_copy_162 ?_
        refine zk_iload (pc := 163) dX8_copy_163 rfl ?_
        refine zk_iadd (pc := 165) dX8_copy_165 ?_
        refine zk_iaload (pc := 166) (40 * k + a + (n - 1 - q)) dX8_copy_166 rfl (by rw [show (40 : Int32) = nI 40 from rfl, pk_mul, nI_add, nI_add]) (by omega) ?_
        refine zk_iastore (pc := 167) (40 * t + b + (n - 1 - q)) dX8_copy_167 rfl (by rw [show (40 : Int32) = nI 40 from rfl, pk_mul, nI_add, nI_add]) (by omega) ?_
        refine zs_iinc (pc := 168) (ls' := [_, _, _, _, _, _, _, _, _]) dX8_copy_168 rfl (nI_1 q) (by decide) rfl ?_
        refine zk_goto (pc := 171) 113 dX8_copy_171 (by decide) ?_
        rw [cpUp_k _ (by omega)]
        have e := ih (by omega) (.int (nI (n - 1 - q)))
        rw [← cpUp_s _ (by omega)] at e
        rw [show 40 * t + b + (n - 1 - q) = 40 * t + b + (n - 1 - q) from rfl]
        exact e
  have dn : ∀ (a b n : Nat), a + n ≤ 40 → b + n ≤ 40 → (¬ k = t ∨ b ≤ a) → ∀ q, q ≤ n → ∀ x, zk_M (d + 1) RX8 cX8_copy 9 (some .int) none 113 [.ref 46, .int (nI k), .int (nI a), .int (nI t), .int (nI b), .int (nI n), .int 0, .int (nI q), x] [] (cpDn mu (40 * k + a) (40 * t + b) q) lm (zk_R (some (.int 1)) (zk_uc mu 48 (va_cpy (mu 48) (mu 48) (40 * k + a) (40 * t + b) n)) lm) := by
    intro a b n ha hb hab
    refine zk_ind n (fun q hq ih => ?_)
    intro x
    refine zk_iload (pc := 113) dX8_copy_113 rfl ?_
    refine zk_iload (pc := 115) dX8_copy_115 rfl ?_
    refine zk_icmp_ge (pc := 117) 174 dX8_copy_117 (by decide) (fun h117 => ?_) (fun h117 => ?_)
    · rw [nIle (by omega) (by omega)] at h117
      refine zk_iconst (pc := 174) (v := 1) dX8_copy_174 (by decide) ?_
      refine zk_ireturn (pc := 175) dX8_copy_175 (Or.inl rfl) (zk_rm rfl ?_ rfl)
      obtain rfl : q = n := by omega
      rfl
    · rw [nIle (by omega) (by omega)] at h117
      refine zk_iload (pc := 120) dX8_copy_120 rfl ?_
      refine zk_if_eq (pc := 122) 135 dX8_copy_122 (by decide) (fun h122 => ?_) (fun h122 => ?_)
      · skip
        refine zk_iload (pc := 135) dX8_copy_135 rfl ?_
        refine zs_istore (pc := 137) (ls' := [_, _, _, _, _, _, _, _, _]) 8 dX8_copy_137 (by decide) rfl ?_
        refine zk_aload_n (pc := 139) 0 dX8_copy_139 rfl rfl ?_
        refine zk_getR (pc := 140) dX8_copy_140 flX8_13 rfl rfl ?_
        refine zk_bipush (pc := 143) (v := 40) dX8_copy_143 (by decide) ?_
        refine zk_iload_n (pc := 145) 3 dX8_copy_145 rfl rfl ?_
        refine zk_imul (pc := 146) dX8_copy_146 ?_
        refine zk_iload (pc := 147) dX8_copy_147 rfl ?_
        refine zk_iadd (pc := 149) dX8_copy_149 ?_
        refine zk_iload (pc := 150) dX8_copy_150 rfl ?_
        refine zk_iadd (pc := 152) dX8_copy_152 ?_
        refine zk_aload_n (pc := 153) 0 dX8_copy_153 rfl rfl ?_
        refine zk_getR (pc := 154) dX8_copy_154 flX8_13 rfl rfl ?_
        refine zk_bipush (pc := 157) (v := 40) dX8_copy_157 (by decide) ?_
        refine zk_iload_n (pc := 159) 1 dX8_copy_159 rfl rfl ?_
        refine zk_imul (pc := 160) dX8_copy_160 ?_
        refine zk_iload_n (pc := 161) 2 dX8_copy_161 rfl rfl ?_
        refine zk_iadd (pc := 162) dX8_copy_162 ?_
        refine zk_iload (pc := 163) dX8_copy_163 rfl ?_
        refine zk_iadd (pc := 165) dX8_copy_165 ?_
        refine zk_iaload (pc := 166) (40 * k + a + q) dX8_copy_166 rfl (by rw [show (40 : Int32) = nI 40 from rfl, pk_mul, nI_add, nI_add]) (by omega) ?_
        refine zk_iastore (pc := 167) (40 * t + b + q) dX8_copy_167 rfl (by rw [show (40 : Int32) = nI 40 from rfl, pk_mul, nI_add, nI_add]) (by omega) ?_
        refine zs_iinc (pc := 168) (ls' := [_, _, _, _, _, _, _, _, _]) dX8_copy_168 rfl (nI_1 q) (by decide) rfl ?_
        refine zk_goto (pc := 171) 113 dX8_copy_171 (by decide) ?_
        rw [cpDn_k _ (by omega)]
        have e := ih (by omega) (.int (nI q))
        rw [← cpDn_s] at e
        exact e
      · exact absurd rfl h122 --
  refine zk_iload_n (pc := 0) 1 dX8_copy_0 rfl rfl ?_
  refine zk_iconst (pc := 1) (v := 0) dX8_copy_1 (by decide) ?_
  refine zk_iconst (pc := 2) (v := 5) dX8_copy_2 (by decide) ?_
  refine zk_callSI (pc := 3) dX8_copy_3 mtX8_in lkX8_66 stX8_in [_, _, _] _ rfl rfl (Nat.le_of_ble_eq_true rfl) (Nat.le_of_ble_eq_true rfl) (sp_X8_in _ _ _) ?_
  refine zk_if_eq (pc := 6) 18 dX8_copy_6 (by decide) (fun h6 => ?_) (fun h6 => ?_)
  · rw [zb_e] at h6
    exact absurd (zr k hk) h6 --
  · skip
    refine zk_iload_n (pc := 9) 3 dX8_copy_9 rfl rfl ?_
    refine zk_iconst (pc := 10) (v := 0) dX8_copy_10 (by decide) ?_
    refine zk_iconst (pc := 11) (v := 5) dX8_copy_11 (by decide) ?_
    refine zk_callSI (pc := 12) dX8_copy_12 mtX8_in lkX8_66 stX8_in [_, _, _] _ rfl rfl (Nat.le_of_ble_eq_true rfl) (Nat.le_of_ble_eq_true rfl) (sp_X8_in _ _ _) ?_
    refine zk_if_ne (pc := 15) 20 dX8_copy_15 (by decide) (fun h15 => ?_) (fun h15 => ?_)
    · skip
      refine zk_iload (pc := 20) dX8_copy_20 rfl ?_
      refine zk_if_ge (pc := 22) 31 dX8_copy_22 (by decide) (fun h22 => ?_) (fun h22 => ?_)
      · skip
        refine zk_aload_n (pc := 31) 0 dX8_copy_31 rfl rfl ?_
        refine zk_getR (pc := 32) dX8_copy_32 flX8_7 rfl rfl ?_
        refine zk_iload_n (pc := 35) 1 dX8_copy_35 rfl rfl ?_
        refine zk_iaload (pc := 36) k dX8_copy_36 rfl rfl hk ?_
        refine zk_if_lt (pc := 37) 49 dX8_copy_37 (by decide) (fun h37 => ?_) (fun h37 => ?_)
        · rw [zltn] at h37
          refine zk_aload_n (pc := 49) 0 dX8_copy_49 rfl rfl ?_
          refine zk_iconst (pc := 50) (v := 1) dX8_copy_50 (by decide) ?_
          refine zk_callVI (pc := 51) dX8_copy_51 mtX8_finds lkX8_73 stX8_finds (by rfl) (by rfl) [_] _ rfl rfl (Nat.le_of_ble_eq_true rfl) (Nat.le_of_ble_eq_true rfl) (sp_X8_finds (f := 1) (by decide)) ?_
          refine zk_ireturn (pc := 54) dX8_copy_54 (Or.inl rfl) (zk_pr ?_)
          unfold mCopy
          rw [if_pos h22]
          first | rw [if_neg (fun q => h46 q.2)] | rw [if_neg (fun q => h37 q.1)]
        · rw [znl] at h37
          refine zk_aload_n (pc := 40) 0 dX8_copy_40 rfl rfl ?_
          refine zk_getR (pc := 41) dX8_copy_41 flX8_7 rfl rfl ?_
          refine zk_iload_n (pc := 44) 3 dX8_copy_44 rfl rfl ?_
          refine zk_iaload (pc := 45) t dX8_copy_45 rfl rfl ht ?_
          refine zk_if_ge (pc := 46) 55 dX8_copy_46 (by decide) (fun h46 => ?_) (fun h46 => ?_)
          · skip
            refine zk_iload_n (pc := 55) 2 dX8_copy_55 rfl rfl ?_
            refine zk_iload (pc := 56) dX8_copy_56 rfl ?_
            refine zk_aload_n (pc := 58) 0 dX8_copy_58 rfl rfl ?_
            refine zk_getR (pc := 59) dX8_copy_59 flX8_7 rfl rfl ?_
            refine zk_iload_n (pc := 62) 1 dX8_copy_62 rfl rfl ?_
            refine zk_iaload (pc := 63) k dX8_copy_63 rfl rfl hk ?_
            refine zk_callSI (pc := 64) dX8_copy_64 mtX8_isPart lkX8_84 stX8_isPart [_, _, _] _ rfl rfl (Nat.le_of_ble_eq_true rfl) (Nat.le_of_ble_eq_true rfl) (sp_X8_isPart _ _ _) ?_
            refine zk_if_eq (pc := 67) 86 dX8_copy_67 (by decide) (fun h67 => ?_) (fun h67 => ?_)
            · rw [zb_e] at h67
              refine zk_aload_n (pc := 86) 0 dX8_copy_86 rfl rfl ?_
              refine zk_iconst (pc := 87) (v := 2) dX8_copy_87 (by decide) ?_
              refine zk_callVI (pc := 88) dX8_copy_88 mtX8_finds lkX8_73 stX8_finds (by rfl) (by rfl) [_] _ rfl rfl (Nat.le_of_ble_eq_true rfl) (Nat.le_of_ble_eq_true rfl) (sp_X8_finds (f := 2) (by decide)) ?_
              refine zk_ireturn (pc := 91) dX8_copy_91 (Or.inl rfl) (zk_pr ?_)
              unfold mCopy
              rw [if_pos h22, if_pos ⟨h37, h46⟩]
              first | rw [if_neg (fun q => h83 q.2)] | rw [if_neg (fun q => h67 q.1)]
            · rw [zb_n] at h67
              refine zk_iload (pc := 70) dX8_copy_70 rfl ?_
              refine zk_iload (pc := 72) dX8_copy_72 rfl ?_
              refine zk_aload_n (pc := 74) 0 dX8_copy_74 rfl rfl ?_
              refine zk_getR (pc := 75) dX8_copy_75 flX8_7 rfl rfl ?_
              refine zk_iload_n (pc := 78) 3 dX8_copy_78 rfl rfl ?_
              refine zk_iaload (pc := 79) t dX8_copy_79 rfl rfl ht ?_
              refine zk_callSI (pc := 80) dX8_copy_80 mtX8_isPart lkX8_84 stX8_isPart [_, _, _] _ rfl rfl (Nat.le_of_ble_eq_true rfl) (Nat.le_of_ble_eq_true rfl) (sp_X8_isPart _ _ _) ?_
              refine zk_if_ne (pc := 83) 92 dX8_copy_83 (by decide) (fun h83 => ?_) (fun h83 => ?_)
              · rw [zb_n] at h83
                refine zk_iload_n (pc := 92) 1 dX8_copy_92 rfl rfl ?_
                refine zk_iload_n (pc := 93) 3 dX8_copy_93 rfl rfl ?_
                refine zk_icmp_ne (pc := 94) 107 dX8_copy_94 (by decide) (fun h94 => ?_) (fun h94 => ?_)
                · skip
                  refine zk_iconst (pc := 107) (v := 0) dX8_copy_107 (by decide) ?_
                  refine zs_istore (pc := 108) (ls' := [_, _, _, _, _, _, _, _, _]) 6 dX8_copy_108 (by decide) rfl ?_
                  refine zk_iconst (pc := 110) (v := 0) dX8_copy_110 (by decide) ?_
                  refine zs_istore (pc := 111) (ls' := [_, _, _, _, _, _, _, _, _]) 7 dX8_copy_111 (by decide) rfl ?_
                  unfold mCopy
                  rw [if_pos h22, if_pos ⟨h37, h46⟩, if_pos ⟨h67, h83⟩]
                  obtain ⟨s1, hs1, e1⟩ : ∃ j, j ≤ 40 ∧ mu 47 k = nI j := by
                    rcases hz1 with z | z
                    · rw [z] at h37; exact absurd h37 (by decide)
                    · exact z
                  obtain ⟨s2, hs2, e2⟩ : ∃ j, j ≤ 40 ∧ mu 47 t = nI j := by
                    rcases hz2 with z | z
                    · rw [z] at h46; exact absurd h46 (by decide)
                    · exact z
                  obtain ⟨a, n1, rfl, rfl, hl1⟩ := zpart e1 (by omega) h22 h67
                  obtain ⟨b, n2, rfl, hn, hl2⟩ := zpart e2 (by omega) h22 h83
                  rw [nIeq (by omega) (by omega)] at hn
                  subst hn
                  rw [nIeq (by omega) (by omega)] at h94
                  rw [nI_clamp (by omega), nI_clamp (by omega), nI_clamp (by omega)]
                  first
                    | (have e := dn a b n1 (by omega) (by omega) (Or.inl h94) 0 (Nat.zero_le _) (.retAddr 0)
                       rw [cpDn_0] at e; exact e)
                    | (rw [nIle (by omega) (by omega)] at h100
                       have e := dn a b n1 (by omega) (by omega) (Or.inr h100) 0 (Nat.zero_le _) (.retAddr 0)
                       rw [cpDn_0] at e; exact e)
                    | (rw [nIle (by omega) (by omega)] at h100
                       have e := up a b n1 (by omega) (by omega) (by omega) h94 0 (Nat.zero_le _) (.retAddr 0)
                       rw [cpUp_0] at e; exact e)
                · skip
                  refine zk_iload (pc := 97) dX8_copy_97 rfl ?_
                  refine zk_iload_n (pc := 99) 2 dX8_copy_99 rfl rfl ?_
                  refine zk_icmp_le (pc := 100) 107 dX8_copy_100 (by decide) (fun h100 => ?_) (fun h100 => ?_)
                  · skip
                    refine zk_iconst (pc := 107) (v := 0) dX8_copy_107 (by decide) ?_
                    refine zs_istore (pc := 108) (ls' := [_, _, _, _, _, _, _, _, _]) 6 dX8_copy_108 (by decide) rfl ?_
                    refine zk_iconst (pc := 110) (v := 0) dX8_copy_110 (by decide) ?_
                    refine zs_istore (pc := 111) (ls' := [_, _, _, _, _, _, _, _, _]) 7 dX8_copy_111 (by decide) rfl ?_
                    unfold mCopy
                    rw [if_pos h22, if_pos ⟨h37, h46⟩, if_pos ⟨h67, h83⟩]
                    obtain ⟨s1, hs1, e1⟩ : ∃ j, j ≤ 40 ∧ mu 47 k = nI j := by
                      rcases hz1 with z | z
                      · rw [z] at h37; exact absurd h37 (by decide)
                      · exact z
                    obtain ⟨s2, hs2, e2⟩ : ∃ j, j ≤ 40 ∧ mu 47 t = nI j := by
                      rcases hz2 with z | z
                      · rw [z] at h46; exact absurd h46 (by decide)
                      · exact z
                    obtain ⟨a, n1, rfl, rfl, hl1⟩ := zpart e1 (by omega) h22 h67
                    obtain ⟨b, n2, rfl, hn, hl2⟩ := zpart e2 (by omega) h22 h83
                    rw [nIeq (by omega) (by omega)] at hn
                    subst hn
                    rw [nIeq (by omega) (by omega)] at h94
                    rw [nI_clamp (by omega), nI_clamp (by omega), nI_clamp (by omega)]
                    first
                      | (have e := dn a b n1 (by omega) (by omega) (Or.inl h94) 0 (Nat.zero_le _) (.retAddr 0)
                         rw [cpDn_0] at e; exact e)
                      | (rw [nIle (by omega) (by omega)] at h100
                         have e := dn a b n1 (by omega) (by omega) (Or.inr h100) 0 (Nat.zero_le _) (.retAddr 0)
                         rw [cpDn_0] at e; exact e)
                      | (rw [nIle (by omega) (by omega)] at h100
                         have e := up a b n1 (by omega) (by omega) (by omega) h94 0 (Nat.zero_le _) (.retAddr 0)
                         rw [cpUp_0] at e; exact e)
                  · skip
                    refine zk_iconst (pc := 103) (v := 1) dX8_copy_103 (by decide) ?_
                    refine zk_goto (pc := 104) 108 dX8_copy_104 (by decide) ?_
                    refine zs_istore (pc := 108) (ls' := [_, _, _, _, _, _, _, _, _]) 6 dX8_copy_108 (by decide) rfl ?_
                    refine zk_iconst (pc := 110) (v := 0) dX8_copy_110 (by decide) ?_
                    refine zs_istore (pc := 111) (ls' := [_, _, _, _, _, _, _, _, _]) 7 dX8_copy_111 (by decide) rfl ?_
                    unfold mCopy
                    rw [if_pos h22, if_pos ⟨h37, h46⟩, if_pos ⟨h67, h83⟩]
                    obtain ⟨s1, hs1, e1⟩ : ∃ j, j ≤ 40 ∧ mu 47 k = nI j := by
                      rcases hz1 with z | z
                      · rw [z] at h37; exact absurd h37 (by decide)
                      · exact z
                    obtain ⟨s2, hs2, e2⟩ : ∃ j, j ≤ 40 ∧ mu 47 t = nI j := by
                      rcases hz2 with z | z
                      · rw [z] at h46; exact absurd h46 (by decide)
                      · exact z
                    obtain ⟨a, n1, rfl, rfl, hl1⟩ := zpart e1 (by omega) h22 h67
                    obtain ⟨b, n2, rfl, hn, hl2⟩ := zpart e2 (by omega) h22 h83
                    rw [nIeq (by omega) (by omega)] at hn
                    subst hn
                    rw [nIeq (by omega) (by omega)] at h94
                    rw [nI_clamp (by omega), nI_clamp (by omega), nI_clamp (by omega)]
                    first
                      | (have e := dn a b n1 (by omega) (by omega) (Or.inl h94) 0 (Nat.zero_le _) (.retAddr 0)
                         rw [cpDn_0] at e; exact e)
                      | (rw [nIle (by omega) (by omega)] at h100
                         have e := dn a b n1 (by omega) (by omega) (Or.inr h100) 0 (Nat.zero_le _) (.retAddr 0)
                         rw [cpDn_0] at e; exact e)
                      | (rw [nIle (by omega) (by omega)] at h100
                         have e := up a b n1 (by omega) (by omega) (by omega) h94 0 (Nat.zero_le _) (.retAddr 0)
                         rw [cpUp_0] at e; exact e)
              · rw [zb_e] at h83
                refine zk_aload_n (pc := 86) 0 dX8_copy_86 rfl rfl ?_
                refine zk_iconst (pc := 87) (v := 2) dX8_copy_87 (by decide) ?_
                refine zk_callVI (pc := 88) dX8_copy_88 mtX8_finds lkX8_73 stX8_finds (by rfl) (by rfl) [_] _ rfl rfl (Nat.le_of_ble_eq_true rfl) (Nat.le_of_ble_eq_true rfl) (sp_X8_finds (f := 2) (by decide)) ?_
                refine zk_ireturn (pc := 91) dX8_copy_91 (Or.inl rfl) (zk_pr ?_)
                unfold mCopy
                rw [if_pos h22, if_pos ⟨h37, h46⟩]
                first | rw [if_neg (fun q => h83 q.2)] | rw [if_neg (fun q => h67 q.1)]
          · skip
            refine zk_aload_n (pc := 49) 0 dX8_copy_49 rfl rfl ?_
            refine zk_iconst (pc := 50) (v := 1) dX8_copy_50 (by decide) ?_
            refine zk_callVI (pc := 51) dX8_copy_51 mtX8_finds lkX8_73 stX8_finds (by rfl) (by rfl) [_] _ rfl rfl (Nat.le_of_ble_eq_true rfl) (Nat.le_of_ble_eq_true rfl) (sp_X8_finds (f := 1) (by decide)) ?_
            refine zk_ireturn (pc := 54) dX8_copy_54 (Or.inl rfl) (zk_pr ?_)
            unfold mCopy
            rw [if_pos h22]
            first | rw [if_neg (fun q => h46 q.2)] | rw [if_neg (fun q => h37 q.1)]
      · skip
        refine zk_aload_n (pc := 25) 0 dX8_copy_25 rfl rfl ?_
        refine zk_iconst (pc := 26) (v := 5) dX8_copy_26 (by decide) ?_
        refine zk_callVI (pc := 27) dX8_copy_27 mtX8_finds lkX8_73 stX8_finds (by rfl) (by rfl) [_] _ rfl rfl (Nat.le_of_ble_eq_true rfl) (Nat.le_of_ble_eq_true rfl) (sp_X8_finds (f := 5) (by decide)) ?_
        refine zk_ireturn (pc := 30) dX8_copy_30 (Or.inl rfl) (zk_pr ?_)
        unfold mCopy
        rw [if_neg h22]
    · rw [zb_e] at h15
      exact absurd (zr t ht) h15 --
end M46
