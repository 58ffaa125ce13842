section M35
variable {d : Nat} {mu : Mem} {lm : MemL}
def shM (mu : Mem) (v : Int32) (c k : Nat) : Mem := zk_uc mu 43 (fun q => if q < k then shr (mu 24 q) (mu 25 q) (mu 23 5) v (nI c) else mu 43 q)
theorem shM_0 (mu : Mem) (v : Int32) (c : Nat) : shM mu v c 0 = mu := by
  unfold shM
  have : (fun q => if q < 0 then shr (mu 24 q) (mu 25 q) (mu 23 5) v (nI c) else mu 43 q) = mu 43 := by funext k; simp
  rw [this, zk_uc_self]
theorem shM_s (mu : Mem) (v : Int32) (c j : Nat) : zk_up (shM mu v c j) 43 j (shr (mu 24 j) (mu 25 j) (mu 23 5) v (nI c)) = shM mu v c (j + 1) := by
  funext c' k
  unfold shM zk_up zk_uc
  by_cases hc : c' = 43
  · subst hc
    by_cases hk : k = j
    · subst hk; simp
    · have e : (k < j + 1) = (k < j) := propext ⟨fun h => by omega, fun h => by omega⟩
      simp [hk, e]
  · simp [hc]
theorem shM_c (mu : Mem) (v : Int32) (c j : Nat) {c' : Nat} (h : c' ≠ 43) : shM mu v c j c' = mu c' := by unfold shM; rw [zuc_c _ _ h]
/-- the first line of t from ln on (m of them) with P -/
def fnd1 (P : Nat → Bool) : Nat → Nat → Option Nat
  | 0, _ => none
  | m + 1, ln => if P ln then some ln else fnd1 P m (ln + 1)
theorem fnd1_t {P : Nat → Bool} {m ln : Nat} (h : P ln = true) : fnd1 P (m + 1) ln = some ln := by rw [fnd1, if_pos h]
theorem fnd1_f {P : Nat → Bool} {m ln : Nat} (h : P ln = false) : fnd1 P (m + 1) ln = fnd1 P m (ln + 1) := by rw [fnd1, if_neg (by rw [h]; decide)]
def fnd2 (P : Nat → Nat → Bool) (M : Nat) : Nat → Nat → Option (Nat × Nat)
  | 0, _ => none
  | m + 1, t => match fnd1 (P t) (M ^ t) 0 with
    | some ln => some (t, ln)
    | none => fnd2 P M m (t + 1)
def tlkR (mu : Mem) (c p M : Nat) : Option (Nat × Nat) → Int32 × Mem
  | some (t, ln) => (nI t, wlM mu c p M ln t 0)
  | none => (-9, mu)
theorem sp_X7_talks {C M : Nat} (hC : mu 23 5 = nI C) (hC8 : C ≤ 8) (hM : mu 23 6 = nI M) (hM6 : M ≤ 6) (hM0 : 0 < M) {k c : Nat} (hk : k < 6) (hc : c < C) {v w : Int32} (hv : 0 ≤ v ∧ v ≤ 99) (hw : 0 ≤ w ∧ w ≤ 999) : zk_M (d + 4) RX7 cX7_talks 9 (some .int) none 0 (zk_loc [.ref 0, .int v, .int (nI c), .int w, .int (nI k)] 9) [] mu lm (zk_R (some (.int (tlkR (shM mu v c M) (2 + 2 * k) (3 + 2 * k) M (fnd2 (fun t ln => decide (w ≤ mu 27 c + lBr (shM mu v c M) M ln t)) M 4 0)).1)) (tlkR (shM mu v c M) (2 + 2 * k) (3 + 2 * k) M (fnd2 (fun t ln => decide (w ≤ mu 27 c + lBr (shM mu v c M) M ln t)) M 4 0)).2 lm) := by
  have hr := (zRows hk).1
  have hcl : 0 ≤ nI c ∧ nI c < mu 23 5 := ⟨nI_pos' (by omega), by rw [hC, nIlt (by omega) (by omega)]; exact hc⟩
  have hpw : ∀ t, t ≤ 4 → M ^ t ≤ 1296 := fun t ht => Nat.le_trans (Nat.pow_le_pow_left hM6 t) (Nat.le_trans (Nat.pow_le_pow_right (by decide) ht) (by decide))
  have loop2 : ∀ nu : Mem, nu 23 6 = nI M → nu 27 = mu 27 → ∀ t, t ≤ 4 → ∀ b8 : Value, zk_M (d + 4) RX7 cX7_talks 9 (some .int) none 92 [.ref 0, .int v, .int (nI c), .int w, .int (nI k), .ref (2 + 2 * k), .int (nI (M ^ t)), .int (nI t), b8] [] nu lm (zk_R (some (.int (tlkR nu (2 + 2 * k) (3 + 2 * k) M (fnd2 (fun t ln => decide (w ≤ mu 27 c + lBr nu M ln t)) M (4 - t) t)).1)) (tlkR nu (2 + 2 * k) (3 + 2 * k) M (fnd2 (fun t ln => decide (w ≤ mu 27 c + lBr nu M ln t)) M (4 - t) t)).2 lm) := by
    intro nu nM n27
    refine zk_ind 4 (fun t ht ih => ?_)
    intro b8
    have hp := hpw t ht
    have loop3 : t ≤ 3 → ∀ ln, ln ≤ M ^ t → zk_M (d + 4) RX7 cX7_talks 9 (some .int) none 101 [.ref 0, .int v, .int (nI c), .int w, .int (nI k), .ref (2 + 2 * k), .int (nI (M ^ t)), .int (nI t), .int (nI ln)] [] nu lm (zk_R (some (.int (tlkR nu (2 + 2 * k) (3 + 2 * k) M (match fnd1 ((fun t ln => decide (w ≤ mu 27 c + lBr nu M ln t)) t) (M ^ t - ln) ln with | some l => some (t, l) | none => fnd2 (fun t ln => decide (w ≤ mu 27 c + lBr nu M ln t)) M (3 - t) (t + 1))).1)) (tlkR nu (2 + 2 * k) (3 + 2 * k) M (match fnd1 ((fun t ln => decide (w ≤ mu 27 c + lBr nu M ln t)) t) (M ^ t - ln) ln with | some l => some (t, l) | none => fnd2 (fun t ln => decide (w ≤ mu 27 c + lBr nu M ln t)) M (3 - t) (t + 1))).2 lm) := by
      intro ht3
      have hp4 := hpw (t + 1) (by omega)
      have hp216 : M ^ t ≤ 216 := Nat.le_trans (Nat.pow_le_pow_left hM6 t) (Nat.le_trans (Nat.pow_le_pow_right (by decide) ht3) (by decide))
      refine zk_ind (M ^ t) (fun ln hln ih3 => ?_)
      refine zk_iload (pc := 101) dX7_talks_101 rfl ?_
      refine zk_iload (pc := 103) dX7_talks_103 rfl ?_
      refine zk_icmp_ge (pc := 105) 149 dX7_talks_105 (by decide) (fun h105 => ?_) (fun h105 => ?_)
      · rw [nIle (by omega) (by omega)] at h105
        refine zk_iload (pc := 149) dX7_talks_149 rfl ?_
        refine zk_aload_n (pc := 151) 0 dX7_talks_151 rfl rfl ?_
        refine zk_getR (pc := 152) dX7_talks_152 flX7_23 rfl rfl ?_
        refine zk_getI (pc := 155) dX7_talks_155 flX7_123 rfl rfl ?_
        refine zk_imul (pc := 158) dX7_talks_158 ?_
        refine zs_istore (pc := 159) (ls' := [_, _, _, _, _, _, _, _, _]) 6 dX7_talks_159 (by decide) rfl ?_
        refine zs_iinc (pc := 161) (ls' := [_, _, _, _, _, _, _, _, _]) dX7_talks_161 rfl (nI_1 t) (by decide) rfl ?_
        refine zk_goto (pc := 164) 92 dX7_talks_164 (by decide) ?_
        have e := ih (by omega) (.int (nI ln))
        rw [nM, pk_mul, ← Nat.pow_succ]
        rw [show M ^ t - ln = 0 by omega]
        rw [show 4 - (t + 1) = 3 - t by omega] at e
        exact e
      · rw [nIle (by omega) (by omega)] at h105
        refine zk_aload_n (pc := 108) 0 dX7_talks_108 rfl rfl ?_
        refine zk_getR (pc := 109) dX7_talks_109 flX7_23 rfl rfl ?_
        refine zk_getR (pc := 112) dX7_talks_112 flX7_164 rfl rfl ?_
        refine zk_iload_n (pc := 115) 2 dX7_talks_115 rfl rfl ?_
        refine zk_iaload (pc := 116) c dX7_talks_116 rfl rfl (by omega) ?_
        refine zk_aload_n (pc := 117) 0 dX7_talks_117 rfl rfl ?_
        refine zk_iload (pc := 118) dX7_talks_118 rfl ?_
        refine zk_iload (pc := 120) dX7_talks_120 rfl ?_
        refine zk_callVI (pc := 122) dX7_talks_122 mtX7_lineBreath lkX7_218 stX7_lineBreath (by rfl) (by rfl) [_, _] _ rfl rfl (Nat.le_of_ble_eq_true rfl) (Nat.le_of_ble_eq_true rfl) (sp_X7_lineBreath nM hM0 hM6 (by omega) (by omega)) ?_
        refine zk_iadd (pc := 125) dX7_talks_125 ?_
        refine zk_iload_n (pc := 126) 3 dX7_talks_126 rfl rfl ?_
        refine zk_icmp_lt (pc := 127) 143 dX7_talks_127 (by decide) (fun h127 => ?_) (fun h127 => ?_)
        · skip
          refine zs_iinc (pc := 143) (ls' := [_, _, _, _, _, _, _, _, _]) dX7_talks_143 rfl (nI_1 ln) (by decide) rfl ?_
          refine zk_goto (pc := 146) 101 dX7_talks_146 (by decide) ?_
          have e := ih3 (by omega)
          have hP : decide (w ≤ mu 27 c + lBr nu M ln t) = false := decide_eq_false (by rw [n27] at h127; simp only [zlt, zle] at *; omega)
          rw [show M ^ t - ln = (M ^ t - (ln + 1)) + 1 by omega, fnd1_f (P := (fun t ln => decide (w ≤ mu 27 c + lBr nu M ln t)) t) hP]
          exact e
        · skip
          refine zk_aload_n (pc := 130) 0 dX7_talks_130 rfl rfl ?_
          refine zk_aload (pc := 131) dX7_talks_131 rfl ?_
          refine zk_iload (pc := 133) dX7_talks_133 rfl ?_
          refine zk_iload (pc := 135) dX7_talks_135 rfl ?_
          refine zk_callVV (pc := 137) dX7_talks_137 mtX7_writeLine lkX7_221 stX7_writeLine (by rfl) (by rfl) [_, _, _] _ rfl rfl (Nat.le_of_ble_eq_true rfl) (Nat.le_of_ble_eq_true rfl) (sp_X7_writeLine hr (by omega) (by omega) nM hM0 hM6 (by omega) (by omega) (by omega)) ?_
          refine zk_iload (pc := 140) dX7_talks_140 rfl ?_
          refine zk_ireturn (pc := 142) dX7_talks_142 (Or.inl rfl) (zk_pr ?_)
          have hP : decide (w ≤ mu 27 c + lBr nu M ln t) = true := decide_eq_true (by rw [n27] at h127; simp only [zlt, zle] at *; omega)
          rw [show M ^ t - ln = (M ^ t - (ln + 1)) + 1 by omega, fnd1_t (P := (fun t ln => decide (w ≤ mu 27 c + lBr nu M ln t)) t) hP]
          rfl
    refine zk_iload (pc := 92) dX7_talks_92 rfl ?_
    refine zk_iconst (pc := 94) (v := 3) dX7_talks_94 (by decide) ?_
    refine zk_icmp_gt (pc := 95) 167 dX7_talks_95 (by decide) (fun h95 => ?_) (fun h95 => ?_)
    · rw [show (3 : Int32) = nI 3 from rfl, nIlt (by omega) (by omega)] at h95
      refine zk_bipush (pc := 167) (v := -9) dX7_talks_167 (by decide) ?_
      refine zk_ireturn (pc := 169) dX7_talks_169 (Or.inl rfl) (zk_pr ?_)
      rw [show 4 - t = 0 by omega]; rfl
    · rw [show (3 : Int32) = nI 3 from rfl, nIlt (by omega) (by omega)] at h95
      refine zk_iconst (pc := 98) (v := 0) dX7_talks_98 (by decide) ?_
      refine zs_istore (pc := 99) (ls' := [_, _, _, _, _, _, _, _, _]) 8 dX7_talks_99 (by decide) rfl ?_
      have e := loop3 (by omega) 0 (Nat.zero_le _)
      rw [Nat.sub_zero] at e
      rw [show 4 - t = (3 - t) + 1 by omega]
      exact e
  have loop1 : ∀ q, q ≤ M → zk_M (d + 4) RX7 cX7_talks 9 (some .int) none 50 [.ref 0, .int v, .int (nI c), .int w, .int (nI k), .ref (2 + 2 * k), .int (nI q), .retAddr 0, .retAddr 0] [] (shM mu v c q) lm (zk_R (some (.int (tlkR (shM mu v c M) (2 + 2 * k) (3 + 2 * k) M (fnd2 (fun t ln => decide (w ≤ mu 27 c + lBr (shM mu v c M) M ln t)) M 4 0)).1)) (tlkR (shM mu v c M) (2 + 2 * k) (3 + 2 * k) M (fnd2 (fun t ln => decide (w ≤ mu 27 c + lBr (shM mu v c M) M ln t)) M 4 0)).2 lm) := by
    refine zk_ind M (fun q hq ih => ?_)
    refine zk_iload (pc := 50) dX7_talks_50 rfl ?_
    refine zk_aload_n (pc := 52) 0 dX7_talks_52 rfl rfl ?_
    refine zk_getR (pc := 53) dX7_talks_53 flX7_23 rfl rfl ?_
    refine zk_getI (pc := 56) dX7_talks_56 flX7_123 rfl rfl ?_
    refine zk_icmp_ge (pc := 59) 86 dX7_talks_59 (by decide) (fun h59 => ?_) (fun h59 => ?_)
    · rw [shM_c _ _ _ _ (by decide), hM, nIle (by omega) (by omega)] at h59
      refine zk_iconst (pc := 86) (v := 1) dX7_talks_86 (by decide) ?_
      refine zs_istore (pc := 87) (ls' := [_, _, _, _, _, _, _, _, _]) 6 dX7_talks_87 (by decide) rfl ?_
      refine zk_iconst (pc := 89) (v := 0) dX7_talks_89 (by decide) ?_
      refine zs_istore (pc := 90) (ls' := [_, _, _, _, _, _, _, _, _]) 7 dX7_talks_90 (by decide) rfl ?_
      obtain rfl : q = M := by omega
      exact loop2 _ (by rw [shM_c _ _ _ _ (by decide)]; exact hM) (shM_c _ _ _ _ (by decide)) 0 (by omega) _
    · rw [shM_c _ _ _ _ (by decide), hM, nIle (by omega) (by omega)] at h59
      refine zk_aload_n (pc := 62) 0 dX7_talks_62 rfl rfl ?_
      refine zk_getR (pc := 63) dX7_talks_63 flX7_49 rfl rfl ?_
      refine zk_iload (pc := 66) dX7_talks_66 rfl ?_
      refine zk_aload_n (pc := 68) 0 dX7_talks_68 rfl rfl ?_
      refine zk_getR (pc := 69) dX7_talks_69 flX7_23 rfl rfl ?_
      refine zk_iload (pc := 72) dX7_talks_72 rfl ?_
      refine zk_iload_n (pc := 74) 1 dX7_talks_74 rfl rfl ?_
      refine zk_iload_n (pc := 75) 2 dX7_talks_75 rfl rfl ?_
      refine zk_callVI (pc := 76) dX7_talks_76 mtX0_share lkX7_215 stX0_share (by rfl) (by rfl) [_, _, _] _ rfl rfl (Nat.le_of_ble_eq_true rfl) (Nat.le_of_ble_eq_true rfl) (sp_X0_share (by omega) _ _) ?_
      refine zk_iastore (pc := 79) q dX7_talks_79 rfl rfl (by omega) ?_
      refine zs_iinc (pc := 80) (ls' := [_, _, _, _, _, _, _, _, _]) dX7_talks_80 rfl (nI_1 q) (by decide) rfl ?_
      refine zk_goto (pc := 83) 50 dX7_talks_83 (by decide) ?_
      rw [shM_c _ _ _ _ (show 24 ≠ 43 by decide), shM_c _ _ _ _ (show 25 ≠ 43 by decide), shM_c _ _ _ _ (show 23 ≠ 43 by decide)]
      have e := ih (by omega)
      rw [← shM_s] at e
      exact e
  have e0 := loop1 0 (Nat.zero_le _)
  rw [shM_0] at e0
  refine zk_aload_n (pc := 0) 0 dX7_talks_0 rfl rfl ?_
  refine zk_getR (pc := 1) dX7_talks_1 flX7_13 rfl rfl ?_
  refine zk_iload (pc := 4) dX7_talks_4 rfl ?_
  refine zk_callSA (pc := 6) dX7_talks_6 mtX7_lookUp lkX7_64 stX7_lookUp [_, _] _ rfl rfl (Nat.le_of_ble_eq_true rfl) (Nat.le_of_ble_eq_true rfl) (sp_row hk) ?_
  refine zs_astore (pc := 9) (ls' := [_, _, _, _, _, _, _, _, _]) 5 dX7_talks_9 (by decide) rfl ?_
  refine zk_aload (pc := 11) dX7_talks_11 rfl ?_
  refine zk_ifnull (pc := 13) dX7_talks_13 ?_
  refine zk_iload_n (pc := 16) 1 dX7_talks_16 rfl rfl ?_
  refine zk_callSI (pc := 17) dX7_talks_17 mtX7_isMeaning lkX7_167 stX7_isMeaning [_] _ rfl rfl (Nat.le_of_ble_eq_true rfl) (Nat.le_of_ble_eq_true rfl) (sp_X7_isMeaning _) ?_
  refine zk_if_eq (pc := 20) 45 dX7_talks_20 (by decide) (fun h20 => ?_) (fun h20 => ?_)
  · rw [zb_e] at h20
    exact absurd hv h20 --
  · skip
    refine zk_aload_n (pc := 23) 0 dX7_talks_23 rfl rfl ?_
    refine zk_getR (pc := 24) dX7_talks_24 flX7_23 rfl rfl ?_
    refine zk_iload_n (pc := 27) 2 dX7_talks_27 rfl rfl ?_
    refine zk_callVI (pc := 28) dX7_talks_28 mtX0_hasCell lkX7_161 stX0_hasCell (by rfl) (by rfl) [_] _ rfl rfl (Nat.le_of_ble_eq_true rfl) (Nat.le_of_ble_eq_true rfl) (sp_X0_hasCell _) ?_
    refine zk_if_eq (pc := 31) 45 dX7_talks_31 (by decide) (fun h31 => ?_) (fun h31 => ?_)
    · rw [zb_e] at h31
      exact absurd hcl h31 --
    · skip
      refine zk_iload_n (pc := 34) 3 dX7_talks_34 rfl rfl ?_
      refine zk_iconst (pc := 35) (v := 0) dX7_talks_35 (by decide) ?_
      refine zk_sipush (pc := 36) (v := 999) dX7_talks_36 (by decide) ?_
      refine zk_callSI (pc := 39) dX7_talks_39 mtX7_within lkX7_130 stX7_within [_, _, _] _ rfl rfl (Nat.le_of_ble_eq_true rfl) (Nat.le_of_ble_eq_true rfl) (sp_X7_within _ _ _) ?_
      refine zk_if_ne (pc := 42) 47 dX7_talks_42 (by decide) (fun h42 => ?_) (fun h42 => ?_)
      · skip
        refine zk_iconst (pc := 47) (v := 0) dX7_talks_47 (by decide) ?_
        refine zs_istore (pc := 48) (ls' := [_, _, _, _, _, _, _, _, _]) 6 dX7_talks_48 (by decide) rfl ?_
        exact e0
      · rw [zb_e] at h42
        exact absurd hw h42 --
theorem sp_X7_talks_n {v c w r : Int32} (hb : ¬ ((0 ≤ r ∧ r < 6) ∧ (0 ≤ v ∧ v ≤ 99) ∧ (0 ≤ c ∧ c < mu 23 5) ∧ (0 ≤ w ∧ w ≤ 999))) : zk_M (d + 2) RX7 cX7_talks 9 (some .int) none 0 (zk_loc [.ref 0, .int v, .int c, .int w, .int r] 9) [] mu lm (zk_R (some (.int (-1))) mu lm) := by
  by_cases h1 : 0 ≤ r ∧ r < 6
  · obtain ⟨k, hk, rfl⟩ := zget (M := 6) h1 rfl (by decide)
    refine zk_aload_n (pc := 0) 0 dX7_talks_0 rfl rfl ?_
    refine zk_getR (pc := 1) dX7_talks_1 flX7_13 rfl rfl ?_
    refine zk_iload (pc := 4) dX7_talks_4 rfl ?_
    refine zk_callSA (pc := 6) dX7_talks_6 mtX7_lookUp lkX7_64 stX7_lookUp [_, _] _ rfl rfl (Nat.le_of_ble_eq_true rfl) (Nat.le_of_ble_eq_true rfl) (sp_row hk) ?_
    refine zs_astore (pc := 9) (ls' := [_, _, _, _, _, _, _, _, _]) 5 dX7_talks_9 (by decide) rfl ?_
    refine zk_aload (pc := 11) dX7_talks_11 rfl ?_
    refine zk_ifnull (pc := 13) dX7_talks_13 ?_
    refine zk_iload_n (pc := 16) 1 dX7_talks_16 rfl rfl ?_
    refine zk_callSI (pc := 17) dX7_talks_17 mtX7_isMeaning lkX7_167 stX7_isMeaning [_] _ rfl rfl (Nat.le_of_ble_eq_true rfl) (Nat.le_of_ble_eq_true rfl) (sp_X7_isMeaning _) ?_
    refine zk_if_eq (pc := 20) 45 dX7_talks_20 (by decide) (fun h20 => ?_) (fun h20 => ?_)
    · rw [zb_e] at h20
      refine zk_iconst (pc := 45) (v := -1) dX7_talks_45 (by decide) ?_
      exact zk_ireturn (pc := 46) dX7_talks_46 (Or.inl rfl) (zk_ri rfl)
    · rw [zb_n] at h20
      refine zk_aload_n (pc := 23) 0 dX7_talks_23 rfl rfl ?_
      refine zk_getR (pc := 24) dX7_talks_24 flX7_23 rfl rfl ?_
      refine zk_iload_n (pc := 27) 2 dX7_talks_27 rfl rfl ?_
      refine zk_callVI (pc := 28) dX7_talks_28 mtX0_hasCell lkX7_161 stX0_hasCell (by rfl) (by rfl) [_] _ rfl rfl (Nat.le_of_ble_eq_true rfl) (Nat.le_of_ble_eq_true rfl) (sp_X0_hasCell _) ?_
      refine zk_if_eq (pc := 31) 45 dX7_talks_31 (by decide) (fun h31 => ?_) (fun h31 => ?_)
      · rw [zb_e] at h31
        refine zk_iconst (pc := 45) (v := -1) dX7_talks_45 (by decide) ?_
        exact zk_ireturn (pc := 46) dX7_talks_46 (Or.inl rfl) (zk_ri rfl)
      · rw [zb_n] at h31
        refine zk_iload_n (pc := 34) 3 dX7_talks_34 rfl rfl ?_
        refine zk_iconst (pc := 35) (v := 0) dX7_talks_35 (by decide) ?_
        refine zk_sipush (pc := 36) (v := 999) dX7_talks_36 (by decide) ?_
        refine zk_callSI (pc := 39) dX7_talks_39 mtX7_within lkX7_130 stX7_within [_, _, _] _ rfl rfl (Nat.le_of_ble_eq_true rfl) (Nat.le_of_ble_eq_true rfl) (sp_X7_within _ _ _) ?_
        refine zk_if_ne (pc := 42) 47 dX7_talks_42 (by decide) (fun h42 => ?_) (fun h42 => ?_)
        · rw [zb_n] at h42
          exact absurd ⟨h1, h20, h31, h42⟩ hb --
        · rw [zb_e] at h42
          refine zk_iconst (pc := 45) (v := -1) dX7_talks_45 (by decide) ?_
          exact zk_ireturn (pc := 46) dX7_talks_46 (Or.inl rfl) (zk_ri rfl)
  · skip
    refine zk_aload_n (pc := 0) 0 dX7_talks_0 rfl rfl ?_
    refine zk_getR (pc := 1) dX7_talks_1 flX7_13 rfl rfl ?_
    refine zk_iload (pc := 4) dX7_talks_4 rfl ?_
    refine zk_callSU (pc := 6) dX7_talks_6 mtX7_lookUp lkX7_64 stX7_lookUp [_, _] _ rfl rfl (Nat.le_of_ble_eq_true rfl) (Nat.le_of_ble_eq_true rfl) (sp_rowN h1) ?_
    refine zs_astoreN (pc := 9) (ls' := [_, _, _, _, _, _, _, _, _]) 5 dX7_talks_9 (by decide) rfl ?_
    refine zk_aloadN (pc := 11) dX7_talks_11 rfl ?_
    refine zk_ifnullN (pc := 13) 45 dX7_talks_13 (by decide) ?_
    refine zk_iconst (pc := 45) (v := -1) dX7_talks_45 (by decide) ?_
    exact zk_ireturn (pc := 46) dX7_talks_46 (Or.inl rfl) (zk_ri rfl)
def zcnt (p : Nat → Prop) (hp : ∀ k, Decidable (p k)) : Nat → Nat
  | 0 => 0
  | k + 1 => zcnt p hp k + @ite Nat (p k) (hp k) 1 0
def zct (f : Nat → Int32) : Nat → Nat
  | 0 => 0
  | k + 1 => zct f k + (if f k = 1 then 1 else 0)
theorem zct_le (f : Nat → Int32) : ∀ n, zct f n ≤ n
  | 0 => Nat.le_refl _
  | n + 1 => by have := zct_le f n; rw [zct]; split <;> omega
theorem zct_sum {f : Nat → Int32} : ∀ {n : Nat}, (∀ k, k < n → f k = 0 ∨ f k = 1) → zsum n f = nI (zct f n)
  | 0, _ => rfl
  | n + 1, h => by
    rw [zsum, zct, zct_sum (fun k hk => h k (by omega))]
    rcases h n (by omega) with e | e
    · rw [e, if_neg (by decide), Int32.add_zero]; rfl
    · rw [e, if_pos rfl, nI_1]
theorem eu_1 (A : Nat) : eu 200 A 1 = 1 := by
  rw [eu_s, if_neg (by decide), Nat.mod_one, eu_s, if_pos rfl]
def sCnt (mu : Mem) (M : Nat) (nd b : Int32) : Nat := zct (fun x => zb (nI x &&& nd = nd ∧ sBr mu M (nI x) = b)) (2 ^ M)
theorem sWith_n (mu : Mem) (M : Nat) (nd b : Int32) : sWith mu M nd b = nI (sCnt mu M nd b) := zct_sum (fun _ _ => zb_01)
theorem sCnt_le (mu : Mem) {M : Nat} (h : M ≤ 6) (nd b : Int32) : sCnt mu M nd b ≤ 64 := Nat.le_trans (zct_le _ _) (Nat.pow_le_pow_right (by decide) h)
theorem sp_X7_sets {C M : Nat} (hC : mu 23 5 = nI C) (hC8 : C ≤ 8) (hM : mu 23 6 = nI M) (hM6 : M ≤ 6) {v b : Int32} (hrf : rfSets mu v b = 0) : zk_M (d + 4) RX7 cX7_sets 4 (some .int) none 0 (zk_loc [.ref 0, .int v, .int b] 4) [] mu lm (zk_R (some (.int 1)) (zk_up (wghM mu v M) 0 10 (zfst (fun x => decide (sBr (wghM mu v M) M (nI x) = b)) (-9) (2 ^ M) 0)) (tellL lm (sCnt (wghM mu v M) M 0 b) 1)) := by
  have hM2 : wghM mu v M 23 6 = nI M := by rw [wghM_c _ _ _ (by decide)]; exact hM
  have hcl := sCnt_le (wghM mu v M) hM6 0 b
  refine zk_aload_n (pc := 0) 0 dX7_sets_0 rfl rfl ?_
  refine zk_iload_n (pc := 1) 1 dX7_sets_1 rfl rfl ?_
  refine zk_iload_n (pc := 2) 2 dX7_sets_2 rfl rfl ?_
  refine zk_callVI (pc := 3) dX7_sets_3 mtX7_refusedSets lkX7_225 stX7_refusedSets (by rfl) (by rfl) [_, _] _ rfl rfl (Nat.le_of_ble_eq_true rfl) (Nat.le_of_ble_eq_true rfl) (by have q := sp_X7_refusedSets (d := d + 1) (mu := mu) (lm := lm) v b; rw [hrf] at q; exact q) ?_
  refine zs_istore_n (pc := 6) (ls' := [_, _, _, _]) 3 dX7_sets_6 rfl (by decide) rfl ?_
  refine zk_iload_n (pc := 7) 3 dX7_sets_7 rfl rfl ?_
  refine zk_if_eq (pc := 8) 13 dX7_sets_8 (by decide) (fun h8 => ?_) (fun h8 => ?_)
  · skip
    refine zk_aload_n (pc := 13) 0 dX7_sets_13 rfl rfl ?_
    refine zk_iload_n (pc := 14) 1 dX7_sets_14 rfl rfl ?_
    refine zk_callVV (pc := 15) dX7_sets_15 mtX7_weighBreaths lkX7_228 stX7_weighBreaths (by rfl) (by rfl) [_] _ rfl rfl (Nat.le_of_ble_eq_true rfl) (Nat.le_of_ble_eq_true rfl) (sp_X7_weighBreaths hM hM6 v) ?_
    refine zk_aload_n (pc := 18) 0 dX7_sets_18 rfl rfl ?_
    refine zk_aload_n (pc := 19) 0 dX7_sets_19 rfl rfl ?_
    refine zk_iconst (pc := 20) (v := 0) dX7_sets_20 (by decide) ?_
    refine zk_iload_n (pc := 21) 2 dX7_sets_21 rfl rfl ?_
    refine zk_callVI (pc := 22) dX7_sets_22 mtX7_setsWith lkX7_232 stX7_setsWith (by rfl) (by rfl) [_, _] _ rfl rfl (Nat.le_of_ble_eq_true rfl) (Nat.le_of_ble_eq_true rfl) (sp_X7_setsWith hM2 hM6 0 b) ?_
    rw [sWith_n]
    refine zk_i2l (pc := 25) dX7_sets_25 ?_
    rw [nI_l (show sCnt (wghM mu v M) M 0 b < 2 ^ 31 by omega)]
    refine zk_lconst (pc := 26) (v := 1) dX7_sets_26 (by decide) ?_
    refine zk_callVV (pc := 27) dX7_sets_27 mtX7_tell lkX7_235 stX7_tell (by rfl) (by rfl) [_, _] _ rfl rfl (Nat.le_of_ble_eq_true rfl) (Nat.le_of_ble_eq_true rfl) (sp_X7_tell (B := 1) (by omega) (by decide) (by rw [eu_1]; decide)) ?_
    refine zk_aload_n (pc := 30) 0 dX7_sets_30 rfl rfl ?_
    refine zk_aload_n (pc := 31) 0 dX7_sets_31 rfl rfl ?_
    refine zk_iload_n (pc := 32) 2 dX7_sets_32 rfl rfl ?_
    refine zk_callVI (pc := 33) dX7_sets_33 mtX7_firstSet lkX7_239 stX7_firstSet (by rfl) (by rfl) [_] _ rfl rfl (Nat.le_of_ble_eq_true rfl) (Nat.le_of_ble_eq_true rfl) (sp_X7_firstSet hM2 hM6 b) ?_
    refine zk_putI (pc := 36) dX7_sets_36 flX7_82 rfl rfl ?_
    refine zk_iconst (pc := 39) (v := 1) dX7_sets_39 (by decide) ?_
    exact zk_ireturn (pc := 40) dX7_sets_40 (Or.inl rfl) ⟨rfl, rfl, rfl⟩
  · exact absurd rfl h8 --
theorem sp_X7_sets_n {v b : Int32} (hrf : ¬ rfSets mu v b = 0) : zk_M (d + 3) RX7 cX7_sets 4 (some .int) none 0 (zk_loc [.ref 0, .int v, .int b] 4) [] mu lm (zk_R (some (.int (rfSets mu v b))) mu lm) := by
  refine zk_aload_n (pc := 0) 0 dX7_sets_0 rfl rfl ?_
  refine zk_iload_n (pc := 1) 1 dX7_sets_1 rfl rfl ?_
  refine zk_iload_n (pc := 2) 2 dX7_sets_2 rfl rfl ?_
  refine zk_callVI (pc := 3) dX7_sets_3 mtX7_refusedSets lkX7_225 stX7_refusedSets (by rfl) (by rfl) [_, _] _ rfl rfl (Nat.le_of_ble_eq_true rfl) (Nat.le_of_ble_eq_true rfl) (sp_X7_refusedSets v b) ?_
  refine zs_istore_n (pc := 6) (ls' := [_, _, _, _]) 3 dX7_sets_6 rfl (by decide) rfl ?_
  refine zk_iload_n (pc := 7) 3 dX7_sets_7 rfl rfl ?_
  refine zk_if_eq (pc := 8) 13 dX7_sets_8 (by decide) (fun h8 => ?_) (fun h8 => ?_)
  · exact absurd h8 hrf --
  · skip
    refine zk_iload_n (pc := 11) 3 dX7_sets_11 rfl rfl ?_
    exact zk_ireturn (pc := 12) dX7_sets_12 (Or.inl rfl) (zk_ri rfl)
theorem sp_X7_sure_n {v b : Int32} (hrf : ¬ rfSets mu v b = 0) : zk_M (d + 3) RX7 cX7_sure 9 (some .int) none 0 (zk_loc [.ref 0, .int v, .int b] 9) [] mu lm (zk_R (some (.int (rfSets mu v b))) mu lm) := by
  refine zk_aload_n (pc := 0) 0 dX7_sure_0 rfl rfl ?_
  refine zk_iload_n (pc := 1) 1 dX7_sure_1 rfl rfl ?_
  refine zk_iload_n (pc := 2) 2 dX7_sure_2 rfl rfl ?_
  refine zk_callVI (pc := 3) dX7_sure_3 mtX7_refusedSets lkX7_225 stX7_refusedSets (by rfl) (by rfl) [_, _] _ rfl rfl (Nat.le_of_ble_eq_true rfl) (Nat.le_of_ble_eq_true rfl) (sp_X7_refusedSets v b) ?_
  refine zs_istore_n (pc := 6) (ls' := [_, _, _, _, _, _, _, _, _]) 3 dX7_sure_6 rfl (by decide) rfl ?_
  refine zk_iload_n (pc := 7) 3 dX7_sure_7 rfl rfl ?_
  refine zk_if_eq (pc := 8) 13 dX7_sure_8 (by decide) (fun h8 => ?_) (fun h8 => ?_)
  · exact absurd h8 hrf --
  · skip
    refine zk_iload_n (pc := 11) 3 dX7_sure_11 rfl rfl ?_
    exact zk_ireturn (pc := 12) dX7_sure_12 (Or.inl rfl) (zk_ri rfl)
theorem sp_X7_ask_n {v b : Int32} (hrf : ¬ rfSets mu v b = 0) : zk_M (d + 3) RX7 cX7_ask 10 (some .int) none 0 (zk_loc [.ref 0, .int v, .int b] 10) [] mu lm (zk_R (some (.int (rfSets mu v b))) mu lm) := by
  refine zk_aload_n (pc := 0) 0 dX7_ask_0 rfl rfl ?_
  refine zk_iload_n (pc := 1) 1 dX7_ask_1 rfl rfl ?_
  refine zk_iload_n (pc := 2) 2 dX7_ask_2 rfl rfl ?_
  refine zk_callVI (pc := 3) dX7_ask_3 mtX7_refusedSets lkX7_225 stX7_refusedSets (by rfl) (by rfl) [_, _] _ rfl rfl (Nat.le_of_ble_eq_true rfl) (Nat.le_of_ble_eq_true rfl) (sp_X7_refusedSets v b) ?_
  refine zs_istore_n (pc := 6) (ls' := [_, _, _, _, _, _, _, _, _, _]) 3 dX7_ask_6 rfl (by decide) rfl ?_
  refine zk_iload_n (pc := 7) 3 dX7_ask_7 rfl rfl ?_
  refine zk_if_eq (pc := 8) 13 dX7_ask_8 (by decide) (fun h8 => ?_) (fun h8 => ?_)
  · exact absurd h8 hrf --
  · skip
    refine zk_iload_n (pc := 11) 3 dX7_ask_11 rfl rfl ?_
    exact zk_ireturn (pc := 12) dX7_ask_12 (Or.inl rfl) (zk_ri rfl)
theorem zor_0 (x : Int32) : x ||| 0 = x := Int32.or_zero
/-- the bits of those with p -/
def zbt (p : Nat → Bool) : Nat → Int32 := fun n => zor n (fun k => if p k then 1 <<< (nI k &&& 31) else 0)
theorem zbt_s (p : Nat → Bool) (k : Nat) : zbt p (k + 1) = zbt p k ||| (if p k then 1 <<< (nI k &&& 31) else 0) := rfl
theorem zbt_t {p : Nat → Bool} {k : Nat} (h : p k = true) : zbt p (k + 1) = zbt p k ||| 1 <<< (nI k &&& 31) := by rw [zbt_s, h, if_pos rfl]
theorem zbt_f {p : Nat → Bool} {k : Nat} (h : p k = false) : zbt p (k + 1) = zbt p k := by rw [zbt_s, h, if_neg (by decide), zor_0]
def cSure (mu : Mem) (M : Nat) (v b : Int32) : Int32 × Mem := if sWith (wghM mu v M) M 0 b = 0 then (-3, fndM (wghM mu v M) 4) else (zbt (fun i => decide (sWith (wghM mu v M) M (1 <<< (nI i &&& 31)) b = sWith (wghM mu v M) M 0 b)) M, zk_up (wghM mu v M) 0 10 (zbt (fun i => decide (sWith (wghM mu v M) M (1 <<< (nI i &&& 31)) b = 0)) M))
theorem sp_X7_sure {C M : Nat} (hC : mu 23 5 = nI C) (hC8 : C ≤ 8) (hM : mu 23 6 = nI M) (hM6 : M ≤ 6) {v b : Int32} (hrf : rfSets mu v b = 0) : zk_M (d + 4) RX7 cX7_sure 9 (some .int) none 0 (zk_loc [.ref 0, .int v, .int b] 9) [] mu lm (zk_R (some (.int (cSure mu M v b).1)) (cSure mu M v b).2 lm) := by
  have loop : ∀ nu : Mem, nu 23 6 = nI M → ∀ k, k ≤ M → ∀ b8 : Value, zk_M (d + 4) RX7 cX7_sure 9 (some .int) none 46 [.ref 0, .int v, .int b, .int 0, .int (sWith nu M 0 b), .int (zbt (fun i => decide (sWith nu M (1 <<< (nI i &&& 31)) b = sWith nu M 0 b)) k), .int (zbt (fun i => decide (sWith nu M (1 <<< (nI i &&& 31)) b = 0)) k), .int (nI k), b8] [] nu lm (zk_R (some (.int (zbt (fun i => decide (sWith nu M (1 <<< (nI i &&& 31)) b = sWith nu M 0 b)) M))) (zk_up nu 0 10 (zbt (fun i => decide (sWith nu M (1 <<< (nI i &&& 31)) b = 0)) M)) lm) := by
    intro nu nM
    refine zk_ind M (fun k hk ih => ?_)
    intro b8
    refine zk_iload (pc := 46) dX7_sure_46 rfl ?_
    refine zk_aload_n (pc := 48) 0 dX7_sure_48 rfl rfl ?_
    refine zk_getR (pc := 49) dX7_sure_49 flX7_23 rfl rfl ?_
    refine zk_getI (pc := 52) dX7_sure_52 flX7_123 rfl rfl ?_
    refine zk_icmp_ge (pc := 55) 105 dX7_sure_55 (by decide) (fun h55 => ?_) (fun h55 => ?_)
    · rw [nM, nIle (by omega) (by omega)] at h55
      refine zk_aload_n (pc := 105) 0 dX7_sure_105 rfl rfl ?_
      refine zk_iload (pc := 106) dX7_sure_106 rfl ?_
      refine zk_putI (pc := 108) dX7_sure_108 flX7_82 rfl rfl ?_
      refine zk_iload (pc := 111) dX7_sure_111 rfl ?_
      rw [show M = k by omega]
      exact zk_ireturn (pc := 113) dX7_sure_113 (Or.inl rfl) ⟨rfl, rfl, rfl⟩
    · rw [nM, nIle (by omega) (by omega)] at h55
      refine zk_aload_n (pc := 58) 0 dX7_sure_58 rfl rfl ?_
      refine zk_iconst (pc := 59) (v := 1) dX7_sure_59 (by decide) ?_
      refine zk_iload (pc := 60) dX7_sure_60 rfl ?_
      refine zk_ishl (pc := 62) dX7_sure_62 ?_
      refine zk_iload_n (pc := 63) 2 dX7_sure_63 rfl rfl ?_
      refine zk_callVI (pc := 64) dX7_sure_64 mtX7_setsWith lkX7_232 stX7_setsWith (by rfl) (by rfl) [_, _] _ rfl rfl (Nat.le_of_ble_eq_true rfl) (Nat.le_of_ble_eq_true rfl) (sp_X7_setsWith nM hM6 _ b) ?_
      refine zs_istore (pc := 67) (ls' := [_, _, _, _, _, _, _, _, _]) 8 dX7_sure_67 (by decide) rfl ?_
      refine zk_iload (pc := 69) dX7_sure_69 rfl ?_
      refine zk_iload (pc := 71) dX7_sure_71 rfl ?_
      refine zk_icmp_ne (pc := 73) 85 dX7_sure_73 (by decide) (fun h73 => ?_) (fun h73 => ?_)
      · skip
        refine zk_iload (pc := 85) dX7_sure_85 rfl ?_
        refine zk_if_ne (pc := 87) 99 dX7_sure_87 (by decide) (fun h87 => ?_) (fun h87 => ?_)
        · skip
          refine zs_iinc (pc := 99) (ls' := [_, _, _, _, _, _, _, _, _]) dX7_sure_99 rfl (nI_1 k) (by decide) rfl ?_
          refine zk_goto (pc := 102) 46 dX7_sure_102 (by decide) ?_
          have e := ih (by omega)
          first
            | (rw [zbt_t (p := fun i => decide (sWith nu M (1 <<< (nI i &&& 31)) b = sWith nu M 0 b)) (decide_eq_true h73), zbt_t (p := fun i => decide (sWith nu M (1 <<< (nI i &&& 31)) b = 0)) (decide_eq_true h87)] at e; exact e _)
            | (rw [zbt_t (p := fun i => decide (sWith nu M (1 <<< (nI i &&& 31)) b = sWith nu M 0 b)) (decide_eq_true h73), zbt_f (p := fun i => decide (sWith nu M (1 <<< (nI i &&& 31)) b = 0)) (decide_eq_false h87)] at e; exact e _)
            | (rw [zbt_f (p := fun i => decide (sWith nu M (1 <<< (nI i &&& 31)) b = sWith nu M 0 b)) (decide_eq_false h73), zbt_t (p := fun i => decide (sWith nu M (1 <<< (nI i &&& 31)) b = 0)) (decide_eq_true h87)] at e; exact e _)
            | (rw [zbt_f (p := fun i => decide (sWith nu M (1 <<< (nI i &&& 31)) b = sWith nu M 0 b)) (decide_eq_false h73), zbt_f (p := fun i => decide (sWith nu M (1 <<< (nI i &&& 31)) b = 0)) (decide_eq_false h87)] at e; exact e _)
        · skip
          refine zk_iload (pc := 90) dX7_sure_90 rfl ?_
          refine zk_iconst (pc := 92) (v := 1) dX7_sure_92 (by decide) ?_
          refine zk_iload (pc := 93) dX7_sure_93 rfl ?_
          refine zk_ishl (pc := 95) dX7_sure_95 ?_
          refine zk_ior (pc := 96) dX7_sure_96 ?_
          refine zs_istore (pc := 97) (ls' := [_, _, _, _, _, _, _, _, _]) 6 dX7_sure_97 (by decide) rfl ?_
          refine zs_iinc (pc := 99) (ls' := [_, _, _, _, _, _, _, _, _]) dX7_sure_99 rfl (nI_1 k) (by decide) rfl ?_
          refine zk_goto (pc := 102) 46 dX7_sure_102 (by decide) ?_
          have e := ih (by omega)
          first
            | (rw [zbt_t (p := fun i => decide (sWith nu M (1 <<< (nI i &&& 31)) b = sWith nu M 0 b)) (decide_eq_true h73), zbt_t (p := fun i => decide (sWith nu M (1 <<< (nI i &&& 31)) b = 0)) (decide_eq_true h87)] at e; exact e _)
            | (rw [zbt_t (p := fun i => decide (sWith nu M (1 <<< (nI i &&& 31)) b = sWith nu M 0 b)) (decide_eq_true h73), zbt_f (p := fun i => decide (sWith nu M (1 <<< (nI i &&& 31)) b = 0)) (decide_eq_false h87)] at e; exact e _)
            | (rw [zbt_f (p := fun i => decide (sWith nu M (1 <<< (nI i &&& 31)) b = sWith nu M 0 b)) (decide_eq_false h73), zbt_t (p := fun i => decide (sWith nu M (1 <<< (nI i &&& 31)) b = 0)) (decide_eq_true h87)] at e; exact e _)
            | (rw [zbt_f (p := fun i => decide (sWith nu M (1 <<< (nI i &&& 31)) b = sWith nu M 0 b)) (decide_eq_false h73), zbt_f (p := fun i => decide (sWith nu M (1 <<< (nI i &&& 31)) b = 0)) (decide_eq_false h87)] at e; exact e _)
      · skip
        refine zk_iload (pc := 76) dX7_sure_76 rfl ?_
        refine zk_iconst (pc := 78) (v := 1) dX7_sure_78 (by decide) ?_
        refine zk_iload (pc := 79) dX7_sure_79 rfl ?_
        refine zk_ishl (pc := 81) dX7_sure_81 ?_
        refine zk_ior (pc := 82) dX7_sure_82 ?_
        refine zs_istore (pc := 83) (ls' := [_, _, _, _, _, _, _, _, _]) 5 dX7_sure_83 (by decide) rfl ?_
        refine zk_iload (pc := 85) dX7_sure_85 rfl ?_
        refine zk_if_ne (pc := 87) 99 dX7_sure_87 (by decide) (fun h87 => ?_) (fun h87 => ?_)
        · skip
          refine zs_iinc (pc := 99) (ls' := [_, _, _, _, _, _, _, _, _]) dX7_sure_99 rfl (nI_1 k) (by decide) rfl ?_
          refine zk_goto (pc := 102) 46 dX7_sure_102 (by decide) ?_
          have e := ih (by omega)
          first
            | (rw [zbt_t (p := fun i => decide (sWith nu M (1 <<< (nI i &&& 31)) b = sWith nu M 0 b)) (decide_eq_true h73), zbt_t (p := fun i => decide (sWith nu M (1 <<< (nI i &&& 31)) b = 0)) (decide_eq_true h87)] at e; exact e _)
            | (rw [zbt_t (p := fun i => decide (sWith nu M (1 <<< (nI i &&& 31)) b = sWith nu M 0 b)) (decide_eq_true h73), zbt_f (p := fun i => decide (sWith nu M (1 <<< (nI i &&& 31)) b = 0)) (decide_eq_false h87)] at e; exact e _)
            | (rw [zbt_f (p := fun i => decide (sWith nu M (1 <<< (nI i &&& 31)) b = sWith nu M 0 b)) (decide_eq_false h73), zbt_t (p := fun i => decide (sWith nu M (1 <<< (nI i &&& 31)) b = 0)) (decide_eq_true h87)] at e; exact e _)
            | (rw [zbt_f (p := fun i => decide (sWith nu M (1 <<< (nI i &&& 31)) b = sWith nu M 0 b)) (decide_eq_false h73), zbt_f (p := fun i => decide (sWith nu M (1 <<< (nI i &&& 31)) b = 0)) (decide_eq_false h87)] at e; exact e _)
        · skip
          refine zk_iload (pc := 90) dX7_sure_90 rfl ?_
          refine zk_iconst (pc := 92) (v := 1) dX7_sure_92 (by decide) ?_
          refine zk_iload (pc := 93) dX7_sure_93 rfl ?_
          refine zk_ishl (pc := 95) dX7_sure_95 ?_
          refine zk_ior (pc := 96) dX7_sure_96 ?_
          refine zs_istore (pc := 97) (ls' := [_, _, _, _, _, _, _, _, _]) 6 dX7_sure_97 (by decide) rfl ?_
          refine zs_iinc (pc := 99) (ls' := [_, _, _, _, _, _, _, _, _]) dX7_sure_99 rfl (nI_1 k) (by decide) rfl ?_
          refine zk_goto (pc := 102) 46 dX7_sure_102 (by decide) ?_
          have e := ih (by omega)
          first
            | (rw [zbt_t (p := fun i => decide (sWith nu M (1 <<< (nI i &&& 31)) b = sWith nu M 0 b)) (decide_eq_true h73), zbt_t (p := fun i => decide (sWith nu M (1 <<< (nI i &&& 31)) b = 0)) (decide_eq_true h87)] at e; exact e _)
            | (rw [zbt_t (p := fun i => decide (sWith nu M (1 <<< (nI i &&& 31)) b = sWith nu M 0 b)) (decide_eq_true h73), zbt_f (p := fun i => decide (sWith nu M (1 <<< (nI i &&& 31)) b = 0)) (decide_eq_false h87)] at e; exact e _)
            | (rw [zbt_f (p := fun i => decide (sWith nu M (1 <<< (nI i &&& 31)) b = sWith nu M 0 b)) (decide_eq_false h73), zbt_t (p := fun i => decide (sWith nu M (1 <<< (nI i &&& 31)) b = 0)) (decide_eq_true h87)] at e; exact e _)
            | (rw [zbt_f (p := fun i => decide (sWith nu M (1 <<< (nI i &&& 31)) b = sWith nu M 0 b)) (decide_eq_false h73), zbt_f (p := fun i => decide (sWith nu M (1 <<< (nI i &&& 31)) b = 0)) (decide_eq_false h87)] at e; exact e _)
  have hM2 : wghM mu v M 23 6 = nI M := by rw [wghM_c _ _ _ (by decide)]; exact hM
  refine zk_aload_n (pc := 0) 0 dX7_sure_0 rfl rfl ?_
  refine zk_iload_n (pc := 1) 1 dX7_sure_1 rfl rfl ?_
  refine zk_iload_n (pc := 2) 2 dX7_sure_2 rfl rfl ?_
  refine zk_callVI (pc := 3) dX7_sure_3 mtX7_refusedSets lkX7_225 stX7_refusedSets (by rfl) (by rfl) [_, _] _ rfl rfl (Nat.le_of_ble_eq_true rfl) (Nat.le_of_ble_eq_true rfl) (by have q := sp_X7_refusedSets (d := d + 1) (mu := mu) (lm := lm) v b; rw [hrf] at q; exact q) ?_
  refine zs_istore_n (pc := 6) (ls' := [_, _, _, _, _, _, _, _, _]) 3 dX7_sure_6 rfl (by decide) rfl ?_
  refine zk_iload_n (pc := 7) 3 dX7_sure_7 rfl rfl ?_
  refine zk_if_eq (pc := 8) 13 dX7_sure_8 (by decide) (fun h8 => ?_) (fun h8 => ?_)
  · skip
    refine zk_aload_n (pc := 13) 0 dX7_sure_13 rfl rfl ?_
    refine zk_iload_n (pc := 14) 1 dX7_sure_14 rfl rfl ?_
    refine zk_callVV (pc := 15) dX7_sure_15 mtX7_weighBreaths lkX7_228 stX7_weighBreaths (by rfl) (by rfl) [_] _ rfl rfl (Nat.le_of_ble_eq_true rfl) (Nat.le_of_ble_eq_true rfl) (sp_X7_weighBreaths hM hM6 v) ?_
    refine zk_aload_n (pc := 18) 0 dX7_sure_18 rfl rfl ?_
    refine zk_iconst (pc := 19) (v := 0) dX7_sure_19 (by decide) ?_
    refine zk_iload_n (pc := 20) 2 dX7_sure_20 rfl rfl ?_
    refine zk_callVI (pc := 21) dX7_sure_21 mtX7_setsWith lkX7_232 stX7_setsWith (by rfl) (by rfl) [_, _] _ rfl rfl (Nat.le_of_ble_eq_true rfl) (Nat.le_of_ble_eq_true rfl) (sp_X7_setsWith hM2 hM6 0 b) ?_
    refine zs_istore (pc := 24) (ls' := [_, _, _, _, _, _, _, _, _]) 4 dX7_sure_24 (by decide) rfl ?_
    refine zk_iload (pc := 26) dX7_sure_26 rfl ?_
    refine zk_if_ne (pc := 28) 37 dX7_sure_28 (by decide) (fun h28 => ?_) (fun h28 => ?_)
    · skip
      refine zk_iconst (pc := 37) (v := 0) dX7_sure_37 (by decide) ?_
      refine zs_istore (pc := 38) (ls' := [_, _, _, _, _, _, _, _, _]) 5 dX7_sure_38 (by decide) rfl ?_
      refine zk_iconst (pc := 40) (v := 0) dX7_sure_40 (by decide) ?_
      refine zs_istore (pc := 41) (ls' := [_, _, _, _, _, _, _, _, _]) 6 dX7_sure_41 (by decide) rfl ?_
      refine zk_iconst (pc := 43) (v := 0) dX7_sure_43 (by decide) ?_
      refine zs_istore (pc := 44) (ls' := [_, _, _, _, _, _, _, _, _]) 7 dX7_sure_44 (by decide) rfl ?_
      have hf : cSure mu M v b = (zbt (fun i => decide (sWith (wghM mu v M) M (1 <<< (nI i &&& 31)) b = sWith (wghM mu v M) M 0 b)) M, zk_up (wghM mu v M) 0 10 (zbt (fun i => decide (sWith (wghM mu v M) M (1 <<< (nI i &&& 31)) b = 0)) M)) := by unfold cSure; rw [if_neg h28]
      rw [hf]
      exact loop _ hM2 0 (Nat.zero_le _) _
    · skip
      refine zk_aload_n (pc := 31) 0 dX7_sure_31 rfl rfl ?_
      refine zk_iconst (pc := 32) (v := 4) dX7_sure_32 (by decide) ?_
      refine zk_callVI (pc := 33) dX7_sure_33 mtX7_found lkX7_93 stX7_found (by rfl) (by rfl) [_] _ rfl rfl (Nat.le_of_ble_eq_true rfl) (Nat.le_of_ble_eq_true rfl) (sp_X7_found (f := 4) (by decide)) ?_
      exact zk_ireturn (pc := 36) dX7_sure_36 (Or.inl rfl) (zk_pr (by unfold cSure; rw [if_pos h28]))
  · exact absurd rfl h8 --
/-- whom to ask: the best so far, and what is left then -/
def askR (g : Nat → Int32) (all : Int32) : Nat → Int32 × Int32
  | 0 => (0, all + 1)
  | k + 1 => if zmax (g k) (all - g k) < (askR g all k).2 then (nI k, zmax (g k) (all - g k)) else askR g all k
theorem askR_s (g : Nat → Int32) (all : Int32) (k : Nat) : askR g all (k + 1) = if zmax (g k) (all - g k) < (askR g all k).2 then (nI k, zmax (g k) (all - g k)) else askR g all k := rfl
def cAsk (mu : Mem) (M : Nat) (v b : Int32) : Int32 × Mem := if sWith (wghM mu v M) M 0 b = 0 then (-3, fndM (wghM mu v M) 4) else ((askR (fun i => sWith (wghM mu v M) M (1 <<< (nI i &&& 31)) b) (sWith (wghM mu v M) M 0 b) M).1, zk_up (wghM mu v M) 0 10 (askR (fun i => sWith (wghM mu v M) M (1 <<< (nI i &&& 31)) b) (sWith (wghM mu v M) M 0 b) M).2)
theorem sp_X7_ask {C M : Nat} (hC : mu 23 5 = nI C) (hC8 : C ≤ 8) (hM : mu 23 6 = nI M) (hM6 : M ≤ 6) {v b : Int32} (hrf : rfSets mu v b = 0) : zk_M (d + 4) RX7 cX7_ask 10 (some .int) none 0 (zk_loc [.ref 0, .int v, .int b] 10) [] mu lm (zk_R (some (.int (cAsk mu M v b).1)) (cAsk mu M v b).2 lm) := by
  have loop : ∀ nu : Mem, nu 23 6 = nI M → ∀ k, k ≤ M → ∀ b8 b9 : Value, zk_M (d + 4) RX7 cX7_ask 10 (some .int) none 49 [.ref 0, .int v, .int b, .int 0, .int (sWith nu M 0 b), .int (askR (fun i => sWith nu M (1 <<< (nI i &&& 31)) b) (sWith nu M 0 b) k).1, .int (askR (fun i => sWith nu M (1 <<< (nI i &&& 31)) b) (sWith nu M 0 b) k).2, .int (nI k), b8, b9] [] nu lm (zk_R (some (.int (askR (fun i => sWith nu M (1 <<< (nI i &&& 31)) b) (sWith nu M 0 b) M).1)) (zk_up nu 0 10 (askR (fun i => sWith nu M (1 <<< (nI i &&& 31)) b) (sWith nu M 0 b) M).2) lm) := by
    intro nu nM
    refine zk_ind M (fun k hk ih => ?_)
    intro b8 b9
    refine zk_iload (pc := 49) dX7_ask_49 rfl ?_
    refine zk_aload_n (pc := 51) 0 dX7_ask_51 rfl rfl ?_
    refine zk_getR (pc := 52) dX7_ask_52 flX7_23 rfl rfl ?_
    refine zk_getI (pc := 55) dX7_ask_55 flX7_123 rfl rfl ?_
    refine zk_icmp_ge (pc := 58) 105 dX7_ask_58 (by decide) (fun h58 => ?_) (fun h58 => ?_)
    · rw [nM, nIle (by omega) (by omega)] at h58
      refine zk_aload_n (pc := 105) 0 dX7_ask_105 rfl rfl ?_
      refine zk_iload (pc := 106) dX7_ask_106 rfl ?_
      refine zk_putI (pc := 108) dX7_ask_108 flX7_82 rfl rfl ?_
      refine zk_iload (pc := 111) dX7_ask_111 rfl ?_
      rw [show M = k by omega]
      exact zk_ireturn (pc := 113) dX7_ask_113 (Or.inl rfl) ⟨rfl, rfl, rfl⟩
    · rw [nM, nIle (by omega) (by omega)] at h58
      refine zk_aload_n (pc := 61) 0 dX7_ask_61 rfl rfl ?_
      refine zk_iconst (pc := 62) (v := 1) dX7_ask_62 (by decide) ?_
      refine zk_iload (pc := 63) dX7_ask_63 rfl ?_
      refine zk_ishl (pc := 65) dX7_ask_65 ?_
      refine zk_iload_n (pc := 66) 2 dX7_ask_66 rfl rfl ?_
      refine zk_callVI (pc := 67) dX7_ask_67 mtX7_setsWith lkX7_232 stX7_setsWith (by rfl) (by rfl) [_, _] _ rfl rfl (Nat.le_of_ble_eq_true rfl) (Nat.le_of_ble_eq_true rfl) (sp_X7_setsWith nM hM6 _ b) ?_
      refine zs_istore (pc := 70) (ls' := [_, _, _, _, _, _, _, _, _, _]) 8 dX7_ask_70 (by decide) rfl ?_
      refine zk_iload (pc := 72) dX7_ask_72 rfl ?_
      refine zk_iload (pc := 74) dX7_ask_74 rfl ?_
      refine zk_iload (pc := 76) dX7_ask_76 rfl ?_
      refine zk_isub (pc := 78) dX7_ask_78 ?_
      refine zk_mmax (pc := 79) dX7_ask_79 lkX7_242 (Nat.le_of_ble_eq_true rfl) ?_
      refine zs_istore (pc := 82) (ls' := [_, _, _, _, _, _, _, _, _, _]) 9 dX7_ask_82 (by decide) rfl ?_
      refine zk_iload (pc := 84) dX7_ask_84 rfl ?_
      refine zk_iload (pc := 86) dX7_ask_86 rfl ?_
      refine zk_icmp_ge (pc := 88) 99 dX7_ask_88 (by decide) (fun h88 => ?_) (fun h88 => ?_)
      · skip
        refine zs_iinc (pc := 99) (ls' := [_, _, _, _, _, _, _, _, _, _]) dX7_ask_99 rfl (nI_1 k) (by decide) rfl ?_
        refine zk_goto (pc := 102) 49 dX7_ask_102 (by decide) ?_
        have e := ih (by omega)
        rw [askR_s] at e
        first
          | (rw [if_neg (by simp only [zlt, zle] at *; unfold zmax; simp only [zlt]; omega)] at e; exact e _ _)
          | (rw [if_pos (by simp only [zlt, zle] at *; unfold zmax; simp only [zlt]; omega)] at e; exact e _ _)
      · skip
        refine zk_iload (pc := 91) dX7_ask_91 rfl ?_
        refine zs_istore (pc := 93) (ls' := [_, _, _, _, _, _, _, _, _, _]) 6 dX7_ask_93 (by decide) rfl ?_
        refine zk_iload (pc := 95) dX7_ask_95 rfl ?_
        refine zs_istore (pc := 97) (ls' := [_, _, _, _, _, _, _, _, _, _]) 5 dX7_ask_97 (by decide) rfl ?_
        refine zs_iinc (pc := 99) (ls' := [_, _, _, _, _, _, _, _, _, _]) dX7_ask_99 rfl (nI_1 k) (by decide) rfl ?_
        refine zk_goto (pc := 102) 49 dX7_ask_102 (by decide) ?_
        have e := ih (by omega)
        rw [askR_s] at e
        first
          | (rw [if_neg (by simp only [zlt, zle] at *; unfold zmax; simp only [zlt]; omega)] at e; exact e _ _)
          | (rw [if_pos (by simp only [zlt, zle] at *; unfold zmax; simp only [zlt]; omega)] at e; exact e _ _)
  have hM2 : wghM mu v M 23 6 = nI M := by rw [wghM_c _ _ _ (by decide)]; exact hM
  refine zk_aload_n (pc := 0) 0 dX7_ask_0 rfl rfl ?_
  refine zk_iload_n (pc := 1) 1 dX7_ask_1 rfl rfl ?_
  refine zk_iload_n (pc := 2) 2 dX7_ask_2 rfl rfl ?_
  refine zk_callVI (pc := 3) dX7_ask_3 mtX7_refusedSets lkX7_225 stX7_refusedSets (by rfl) (by rfl) [_, _] _ rfl rfl (Nat.le_of_ble_eq_true rfl) (Nat.le_of_ble_eq_true rfl) (by have q := sp_X7_refusedSets (d := d + 1) (mu := mu) (lm := lm) v b; rw [hrf] at q; exact q) ?_
  refine zs_istore_n (pc := 6) (ls' := [_, _, _, _, _, _, _, _, _, _]) 3 dX7_ask_6 rfl (by decide) rfl ?_
  refine zk_iload_n (pc := 7) 3 dX7_ask_7 rfl rfl ?_
  refine zk_if_eq (pc := 8) 13 dX7_ask_8 (by decide) (fun h8 => ?_) (fun h8 => ?_)
  · skip
    refine zk_aload_n (pc := 13) 0 dX7_ask_13 rfl rfl ?_
    refine zk_iload_n (pc := 14) 1 dX7_ask_14 rfl rfl ?_
    refine zk_callVV (pc := 15) dX7_ask_15 mtX7_weighBreaths lkX7_228 stX7_weighBreaths (by rfl) (by rfl) [_] _ rfl rfl (Nat.le_of_ble_eq_true rfl) (Nat.le_of_ble_eq_true rfl) (sp_X7_weighBreaths hM hM6 v) ?_
    refine zk_aload_n (pc := 18) 0 dX7_ask_18 rfl rfl ?_
    refine zk_iconst (pc := 19) (v := 0) dX7_ask_19 (by decide) ?_
    refine zk_iload_n (pc := 20) 2 dX7_ask_20 rfl rfl ?_
    refine zk_callVI (pc := 21) dX7_ask_21 mtX7_setsWith lkX7_232 stX7_setsWith (by rfl) (by rfl) [_, _] _ rfl rfl (Nat.le_of_ble_eq_true rfl) (Nat.le_of_ble_eq_true rfl) (sp_X7_setsWith hM2 hM6 0 b) ?_
    refine zs_istore (pc := 24) (ls' := [_, _, _, _, _, _, _, _, _, _]) 4 dX7_ask_24 (by decide) rfl ?_
    refine zk_iload (pc := 26) dX7_ask_26 rfl ?_
    refine zk_if_ne (pc := 28) 37 dX7_ask_28 (by decide) (fun h28 => ?_) (fun h28 => ?_)
    · skip
      refine zk_iconst (pc := 37) (v := 0) dX7_ask_37 (by decide) ?_
      refine zs_istore (pc := 38) (ls' := [_, _, _, _, _, _, _, _, _, _]) 5 dX7_ask_38 (by decide) rfl ?_
      refine zk_iload (pc := 40) dX7_ask_40 rfl ?_
      refine zk_iconst (pc := 42) (v := 1) dX7_ask_42 (by decide) ?_
      refine zk_iadd (pc := 43) dX7_ask_43 ?_
      refine zs_istore (pc := 44) (ls' := [_, _, _, _, _, _, _, _, _, _]) 6 dX7_ask_44 (by decide) rfl ?_
      refine zk_iconst (pc := 46) (v := 0) dX7_ask_46 (by decide) ?_
      refine zs_istore (pc := 47) (ls' := [_, _, _, _, _, _, _, _, _, _]) 7 dX7_ask_47 (by decide) rfl ?_
      have hf : cAsk mu M v b = ((askR (fun i => sWith (wghM mu v M) M (1 <<< (nI i &&& 31)) b) (sWith (wghM mu v M) M 0 b) M).1, zk_up (wghM mu v M) 0 10 (askR (fun i => sWith (wghM mu v M) M (1 <<< (nI i &&& 31)) b) (sWith (wghM mu v M) M 0 b) M).2) := by unfold cAsk; rw [if_neg h28]
      rw [hf]
      exact loop _ hM2 0 (Nat.zero_le _) _ _
    · skip
      refine zk_aload_n (pc := 31) 0 dX7_ask_31 rfl rfl ?_
      refine zk_iconst (pc := 32) (v := 4) dX7_ask_32 (by decide) ?_
      refine zk_callVI (pc := 33) dX7_ask_33 mtX7_found lkX7_93 stX7_found (by rfl) (by rfl) [_] _ rfl rfl (Nat.le_of_ble_eq_true rfl) (Nat.le_of_ble_eq_true rfl) (sp_X7_found (f := 4) (by decide)) ?_
      exact zk_ireturn (pc := 36) dX7_ask_36 (Or.inl rfl) (zk_pr (by unfold cAsk; rw [if_pos h28]))
  · exact absurd rfl h8 --
end M35
