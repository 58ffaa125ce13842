section M29
variable {d : Nat} {mu : Mem} {lm : MemL}
def lBr (mu : Mem) (M ln t : Nat) : Int32 := zsum t (fun q => mu 43 (ln / M ^ q % M))
theorem sp_X7_lineBreath {M ln t : Nat} (hM : mu 23 6 = nI M) (hM0 : 0 < M) (hM6 : M ≤ 6) (hl : ln < 1000) (ht : t < 1000) : zk_M d RX7 cX7_lineBreath 6 (some .int) none 0 (zk_loc [.ref 0, .int (nI ln), .int (nI t)] 6) [] mu lm (zk_R (some (.int (lBr mu M ln t))) mu lm) := by
  have hd : ∀ k, ln / M ^ k < 1000 := fun k => Nat.lt_of_le_of_lt (Nat.div_le_self _ _) hl
  have loop : ∀ k, k ≤ t → zk_M d RX7 cX7_lineBreath 6 (some .int) none 8 [.ref 0, .int (nI ln), .int (nI t), .int (zsum k (fun q => mu 43 (ln / M ^ q % M))), .int (nI (ln / M ^ k)), .int (nI k)] [] mu lm (zk_R (some (.int (lBr mu M ln t))) mu lm) := by
    refine zk_ind t (fun k hk ih => ?_)
    have hdk := hd k
    refine zk_iload (pc := 8) dX7_lineBreath_8 rfl ?_
    refine zk_iload_n (pc := 10) 2 dX7_lineBreath_10 rfl rfl ?_
    refine zk_icmp_ge (pc := 11) 60 dX7_lineBreath_11 (by decide) (fun h11 => ?_) (fun h11 => ?_)
    · rw [nIle (by omega) (by omega)] at h11
      refine zk_iload_n (pc := 60) 3 dX7_lineBreath_60 rfl rfl ?_
      refine zk_ireturn (pc := 61) dX7_lineBreath_61 (Or.inl rfl) (zk_ri ?_)
      rw [show k = t by omega]; rfl
    · rw [nIle (by omega) (by omega)] at h11
      refine zk_aload_n (pc := 14) 0 dX7_lineBreath_14 rfl rfl ?_
      refine zk_getR (pc := 15) dX7_lineBreath_15 flX7_23 rfl rfl ?_
      refine zk_getI (pc := 18) dX7_lineBreath_18 flX7_123 rfl rfl ?_
      refine zk_if_le (pc := 21) 60 dX7_lineBreath_21 (by decide) (fun h21 => ?_) (fun h21 => ?_)
      · rw [hM, show (0 : Int32) = nI 0 from rfl, nIle (by omega) (by omega)] at h21
        omega --
      · skip
        refine zk_iload_n (pc := 24) 3 dX7_lineBreath_24 rfl rfl ?_
        refine zk_aload_n (pc := 25) 0 dX7_lineBreath_25 rfl rfl ?_
        refine zk_getR (pc := 26) dX7_lineBreath_26 flX7_49 rfl rfl ?_
        refine zk_iload (pc := 29) dX7_lineBreath_29 rfl ?_
        refine zk_aload_n (pc := 31) 0 dX7_lineBreath_31 rfl rfl ?_
        refine zk_getR (pc := 32) dX7_lineBreath_32 flX7_23 rfl rfl ?_
        refine zk_getI (pc := 35) dX7_lineBreath_35 flX7_123 rfl rfl ?_
        refine zk_irem (pc := 38) dX7_lineBreath_38 (by rw [hM]; exact nI_ne0 hM0 (by omega)) ?_
        refine zk_iaload (pc := 39) (ln / M ^ k % M) dX7_lineBreath_39 rfl (by rw [hM]; exact pk_rem (by omega) hM0 (by omega)) (Nat.lt_of_lt_of_le (Nat.mod_lt _ hM0) hM6) ?_
        refine zk_iadd (pc := 40) dX7_lineBreath_40 ?_
        refine zs_istore_n (pc := 41) (ls' := [_, _, _, _, _, _]) 3 dX7_lineBreath_41 rfl (by decide) rfl ?_
        refine zk_iload (pc := 42) dX7_lineBreath_42 rfl ?_
        refine zk_aload_n (pc := 44) 0 dX7_lineBreath_44 rfl rfl ?_
        refine zk_getR (pc := 45) dX7_lineBreath_45 flX7_23 rfl rfl ?_
        refine zk_getI (pc := 48) dX7_lineBreath_48 flX7_123 rfl rfl ?_
        refine zk_idiv (pc := 51) dX7_lineBreath_51 (by rw [hM]; exact nI_ne0 hM0 (by omega)) ?_
        refine zs_istore (pc := 52) (ls' := [_, _, _, _, _, _]) 4 dX7_lineBreath_52 (by decide) rfl ?_
        refine zs_iinc (pc := 54) (ls' := [_, _, _, _, _, _]) dX7_lineBreath_54 rfl (nI_1 k) (by decide) rfl ?_
        refine zk_goto (pc := 57) 8 dX7_lineBreath_57 (by decide) ?_
        rw [hM, pk_div (by omega) hM0 (by omega), Nat.div_div_eq_div_mul, ← Nat.pow_succ]
        exact ih (by omega)
  have e0 := loop 0 (Nat.zero_le _)
  rw [Nat.pow_zero, Nat.div_one] at e0
  refine zk_iconst (pc := 0) (v := 0) dX7_lineBreath_0 (by decide) ?_
  refine zs_istore_n (pc := 1) (ls' := [_, _, _, _, _, _]) 3 dX7_lineBreath_1 rfl (by decide) rfl ?_
  refine zk_iload_n (pc := 2) 1 dX7_lineBreath_2 rfl rfl ?_
  refine zs_istore (pc := 3) (ls' := [_, _, _, _, _, _]) 4 dX7_lineBreath_3 (by decide) rfl ?_
  refine zk_iconst (pc := 5) (v := 0) dX7_lineBreath_5 (by decide) ?_
  refine zs_istore (pc := 6) (ls' := [_, _, _, _, _, _]) 5 dX7_lineBreath_6 (by decide) rfl ?_
  exact e0
/-- the first line of t members: places q of p, from the last one back; k are still to be written -/
def wlM (mu : Mem) (c p M ln t k : Nat) : Mem := zk_uc (zk_up mu c 1 (nI t)) p (fun q => if q < k then 0 else if q < t then nI (ln / M ^ (t - 1 - q) % M) else mu p q)
theorem wlM_s {mu : Mem} {c p M ln t k : Nat} (hk : k < t) : zk_up (wlM mu c p M ln t (k + 1)) p k (nI (ln / M ^ (t - 1 - k) % M)) = wlM mu c p M ln t k := by
  funext c' q
  unfold wlM zk_up zk_uc
  by_cases hc : c' = p
  · subst hc
    by_cases hq : q = k
    · subst hq; simp [hk]
    · by_cases h2 : q < k
      · have : q < k + 1 := by omega
        simp [hq, h2, this]
      · have : ¬ q < k + 1 := by omega
        simp [hq, h2, this]
  · simp [hc]
theorem wlM_t {mu : Mem} {c p M ln t : Nat} (hcp : c ≠ p) : zfill (zk_up mu c 1 (nI t)) p t 0 = wlM mu c p M ln t t := by
  unfold wlM zfill
  congr 1
  funext q
  by_cases h : q < t
  · simp [h]
  · simp only [h, if_false]
    rw [zup_c _ _ _ (fun e => hcp e.symm)]
theorem wlM_c {mu : Mem} {c p M ln t k c' : Nat} (k' : Nat) (h : c' ≠ p) (h2 : c' ≠ c) : wlM mu c p M ln t k c' k' = mu c' k' := by
  unfold wlM; rw [zuc_c _ _ h, zup_c _ _ _ h2]
theorem wlM_1 {mu : Mem} {c p M ln t k : Nat} (h : c ≠ p) : wlM mu c p M ln t k c 1 = nI t := by
  unfold wlM; rw [zuc_c _ _ h, zup_s]
theorem sp_X7_writeLine {c p n M ln t : Nat} (hr : zRow c p n) (hp23 : 23 ≠ p) (hc23 : 23 ≠ c) (hM : mu 23 6 = nI M) (hM0 : 0 < M) (hM6 : M ≤ 6) (hl : ln < 1000) (ht : t ≤ n) (ht2 : t < 1000) : zk_M (d + 2) RX7 cX7_writeLine 6 (none) none 0 (zk_loc [.ref 0, .ref c, .int (nI ln), .int (nI t)] 6) [] mu lm (zk_R none (wlM mu c p M ln t 0) lm) := by
  have hcp := zrow_ne hr.1 hr.2.1
  have hn := hr.2.2
  have hd : ∀ k, ln / M ^ k < 1000 := fun k => Nat.lt_of_le_of_lt (Nat.div_le_self _ _) hl
  have loop : ∀ k, k ≤ t → zk_M (d + 2) RX7 cX7_writeLine 6 (none) none 14 [.ref 0, .ref c, .int (nI ln), .int (nI t), .int (nI (ln / M ^ (t - k))), .int (nI k - 1)] [] (wlM mu c p M ln t k) lm (zk_R none (wlM mu c p M ln t 0) lm) := by
    refine zk_dn (fun k ih => ?_)
    intro hk
    have hdk := hd (t - k)
    refine zk_iload (pc := 14) dX7_writeLine_14 rfl ?_
    refine zk_if_lt (pc := 16) 63 dX7_writeLine_16 (by decide) (fun h16 => ?_) (fun h16 => ?_)
    · rw [zm_lt (by omega)] at h16
      subst h16
      exact zk_return (pc := 63) dX7_writeLine_63 rfl (zk_rv0 rfl rfl)
    · rw [zm_lt (by omega)] at h16
      obtain ⟨j, rfl⟩ : ∃ j, k = j + 1 := ⟨k - 1, by omega⟩
      rw [nI_pred]
      refine zk_aload_n (pc := 19) 0 dX7_writeLine_19 rfl rfl ?_
      refine zk_getR (pc := 20) dX7_writeLine_20 flX7_23 rfl rfl ?_
      refine zk_getI (pc := 23) dX7_writeLine_23 flX7_123 rfl rfl ?_
      refine zk_if_le (pc := 26) 63 dX7_writeLine_26 (by decide) (fun h26 => ?_) (fun h26 => ?_)
      · rw [wlM_c _ hp23 hc23, hM, show (0 : Int32) = nI 0 from rfl, nIle (by omega) (by omega)] at h26
        omega --
      · skip
        refine zk_aload_n (pc := 29) 1 dX7_writeLine_29 rfl rfl ?_
        refine zk_iload (pc := 30) dX7_writeLine_30 rfl ?_
        refine zk_iload (pc := 32) dX7_writeLine_32 rfl ?_
        refine zk_aload_n (pc := 34) 0 dX7_writeLine_34 rfl rfl ?_
        refine zk_getR (pc := 35) dX7_writeLine_35 flX7_23 rfl rfl ?_
        refine zk_getI (pc := 38) dX7_writeLine_38 flX7_123 rfl rfl ?_
        refine zk_irem (pc := 41) dX7_writeLine_41 (by rw [wlM_c _ hp23 hc23, hM]; exact nI_ne0 hM0 (by omega)) ?_
        refine zk_callVV (pc := 42) dX7_writeLine_42 mtX4_write lkX7_85 stX4_write hr.1 (by rfl) [_, _] _ rfl rfl (Nat.le_of_ble_eq_true rfl) (Nat.le_of_ble_eq_true rfl) (by
          have e := sp_X4_write (d := d) (mu := wlM mu c p M ln t (j + 1)) (lm := lm) hr (nI j) (nI (ln / M ^ (t - (j + 1)) % M))
          rw [if_pos ⟨nI_pos' (by omega), by rw [wlM_1 hcp, nIlt (by omega) (by omega)]; omega, by rw [nIlt (by omega) (by omega)]; omega⟩, nI_clamp (by omega), show t - (j + 1) = t - 1 - j by omega, wlM_s (by omega)] at e
          rw [wlM_c _ hp23 hc23, hM, pk_rem (by omega) hM0 (by omega), show t - (j + 1) = t - 1 - j by omega]
          exact e) ?_
        refine zk_iload (pc := 45) dX7_writeLine_45 rfl ?_
        refine zk_aload_n (pc := 47) 0 dX7_writeLine_47 rfl rfl ?_
        refine zk_getR (pc := 48) dX7_writeLine_48 flX7_23 rfl rfl ?_
        refine zk_getI (pc := 51) dX7_writeLine_51 flX7_123 rfl rfl ?_
        refine zk_idiv (pc := 54) dX7_writeLine_54 (by rw [wlM_c _ hp23 hc23, hM]; exact nI_ne0 hM0 (by omega)) ?_
        refine zs_istore (pc := 55) (ls' := [_, _, _, _, _, _]) 4 dX7_writeLine_55 (by decide) rfl ?_
        refine zs_iinc (pc := 57) (ls' := [_, _, _, _, _, _]) dX7_writeLine_57 rfl (show nI j + Int32.ofInt (-1) = nI j - 1 from by rw [Int32.sub_eq_add_neg]; rfl) (by decide) rfl ?_
        refine zk_goto (pc := 60) 14 dX7_writeLine_60 (by decide) ?_
        rw [wlM_c _ hp23 hc23, hM, pk_div (by omega) hM0 (by omega), Nat.div_div_eq_div_mul, ← Nat.pow_succ, show (t - (j + 1)).succ = t - j by omega]
        exact ih j rfl (by omega)
  have e0 := loop t (Nat.le_refl _)
  rw [Nat.sub_self, Nat.pow_zero, Nat.div_one, ← wlM_t hcp] at e0
  refine zk_aload_n (pc := 0) 1 dX7_writeLine_0 rfl rfl ?_
  refine zk_iload_n (pc := 1) 3 dX7_writeLine_1 rfl rfl ?_
  refine zk_iconst (pc := 2) (v := 0) dX7_writeLine_2 (by decide) ?_
  refine zk_callVV (pc := 3) dX7_writeLine_3 mtX4_renew lkX7_330 stX4_renew hr.1 (by rfl) [_, _] _ rfl rfl (Nat.le_of_ble_eq_true rfl) (Nat.le_of_ble_eq_true rfl) (sp_X4_renew hr ht 0) ?_
  refine zk_iload_n (pc := 6) 2 dX7_writeLine_6 rfl rfl ?_
  refine zs_istore (pc := 7) (ls' := [_, _, _, _, _, _]) 4 dX7_writeLine_7 (by decide) rfl ?_
  refine zk_iload_n (pc := 9) 3 dX7_writeLine_9 rfl rfl ?_
  refine zk_iconst (pc := 10) (v := 1) dX7_writeLine_10 (by decide) ?_
  refine zk_isub (pc := 11) dX7_writeLine_11 ?_
  refine zs_istore (pc := 12) (ls' := [_, _, _, _, _, _]) 5 dX7_writeLine_12 (by decide) rfl ?_
  exact e0
/-- Euclid, n steps at most -/
def eu : Nat → Nat → Nat → Nat
  | 0, a, _ => a
  | n + 1, a, b => if b = 0 then a else eu n b (a % b)
theorem eu_s (n a b : Nat) : eu (n + 1) a b = if b = 0 then a else eu n b (a % b) := rfl
theorem lN_eq0 {y : Nat} (hy : y < 2 ^ 63) : (lg_cmp (lN y) 0 = 0) = (y = 0) := by
  have : lg_cmp (lN y) 0 = 0 ↔ lN y = 0 := by
    unfold lg_cmp
    by_cases h : lN y > 0
    · rw [if_pos h]
      constructor
      · intro q; exact absurd q (by decide)
      · intro q; rw [q] at h; exact absurd h (by decide)
    · rw [if_neg h]
      by_cases h2 : lN y = 0
      · rw [if_pos h2]; exact ⟨fun _ => h2, fun _ => rfl⟩
      · rw [if_neg h2]; exact ⟨fun q => absurd q (by decide), fun q => absurd q h2⟩
  rw [propext this, show (0 : Int64) = lN 0 from rfl, propext (pk_lEQ hy (by decide))]
theorem sp_X7_commonDivisor {x0 y0 : Nat} (hx0 : x0 < 2 ^ 63) (hy0 : y0 < 2 ^ 63) : zk_M d RX7 cX7_commonDivisor 11 (some .long) none 0 (zk_loc [.long (lN x0), .long (lN y0)] 11) [] mu lm (zk_R (some (.long (lN (eu 200 x0 y0)))) mu lm) := by
  have loop : ∀ k, k ≤ 200 → ∀ (x y : Nat) (b1 : Value), x < 2 ^ 63 → y < 2 ^ 63 → zk_M d RX7 cX7_commonDivisor 11 (some .long) none 9 [.long (lN x0), .retAddr 0, .long (lN y0), .retAddr 0, .long (lN x), .retAddr 0, .long (lN y), .retAddr 0, .int (nI k), b1, .retAddr 0] [] mu lm (zk_R (some (.long (lN (eu (200 - k) x y)))) mu lm) := by
    refine zk_ind 200 (fun k hk ih => ?_)
    intro x y b1 hx hy
    refine zk_iload (pc := 9) dX7_commonDivisor_9 rfl ?_
    refine zk_sipush (pc := 11) (v := 200) dX7_commonDivisor_11 (by decide) ?_
    refine zk_icmp_ge (pc := 14) 45 dX7_commonDivisor_14 (by decide) (fun h14 => ?_) (fun h14 => ?_)
    · rw [show (200 : Int32) = nI 200 from rfl, nIle (by omega) (by omega)] at h14
      refine zk_lload (pc := 45) dX7_commonDivisor_45 rfl ?_
      refine zk_lreturn (pc := 47) dX7_commonDivisor_47 rfl (zk_rl ?_)
      first
        | (rw [show 200 - k = 0 by omega]; rfl)
        | (rw [show 200 - k = (200 - (k + 1)) + 1 by omega, eu_s, if_pos h21])
    · rw [show (200 : Int32) = nI 200 from rfl, nIle (by omega) (by omega)] at h14
      refine zk_lload (pc := 17) dX7_commonDivisor_17 rfl ?_
      refine zk_lconst (pc := 19) (v := 0) dX7_commonDivisor_19 (by decide) ?_
      refine zk_lcmp (pc := 20) dX7_commonDivisor_20 ?_
      refine zk_if_eq (pc := 21) 45 dX7_commonDivisor_21 (by decide) (fun h21 => ?_) (fun h21 => ?_)
      · rw [lN_eq0 hy] at h21
        refine zk_lload (pc := 45) dX7_commonDivisor_45 rfl ?_
        refine zk_lreturn (pc := 47) dX7_commonDivisor_47 rfl (zk_rl ?_)
        first
          | (rw [show 200 - k = 0 by omega]; rfl)
          | (rw [show 200 - k = (200 - (k + 1)) + 1 by omega, eu_s, if_pos h21])
      · rw [lN_eq0 hy] at h21
        refine zk_lload (pc := 24) dX7_commonDivisor_24 rfl ?_
        refine zk_lload (pc := 26) dX7_commonDivisor_26 rfl ?_
        refine zk_lrem (pc := 28) dX7_commonDivisor_28 (by rw [show (0 : Int64) = lN 0 from rfl, propext (pk_lEQ hy (by decide))]; exact h21) ?_
        rw [pk_lRem hx (by omega) hy]
        refine zs_lstore (pc := 29) (ls' := [_, _, _, _, _, _, _, _, _, _, _]) 9 dX7_commonDivisor_29 (by decide) rfl ?_
        refine zk_lload (pc := 31) dX7_commonDivisor_31 rfl ?_
        refine zs_lstore (pc := 33) (ls' := [_, _, _, _, _, _, _, _, _, _, _]) 4 dX7_commonDivisor_33 (by decide) rfl ?_
        refine zk_lload (pc := 35) dX7_commonDivisor_35 rfl ?_
        refine zs_lstore (pc := 37) (ls' := [_, _, _, _, _, _, _, _, _, _, _]) 6 dX7_commonDivisor_37 (by decide) rfl ?_
        refine zs_iinc (pc := 39) (ls' := [_, _, _, _, _, _, _, _, _, _, _]) dX7_commonDivisor_39 rfl (nI_1 k) (by decide) rfl ?_
        refine zk_goto (pc := 42) 9 dX7_commonDivisor_42 (by decide) ?_
        rw [show 200 - k = (200 - (k + 1)) + 1 by omega, eu_s, if_neg h21]
        exact ih (by omega) _ _ _ hy (Nat.lt_trans (Nat.mod_lt _ (by omega)) hy)
  refine zk_lload_n (pc := 0) 0 dX7_commonDivisor_0 rfl rfl ?_
  refine zs_lstore (pc := 1) (ls' := [_, _, _, _, _, _, _, _, _, _, _]) 4 dX7_commonDivisor_1 (by decide) rfl ?_
  refine zk_lload_n (pc := 3) 2 dX7_commonDivisor_3 rfl rfl ?_
  refine zs_lstore (pc := 4) (ls' := [_, _, _, _, _, _, _, _, _, _, _]) 6 dX7_commonDivisor_4 (by decide) rfl ?_
  refine zk_iconst (pc := 6) (v := 0) dX7_commonDivisor_6 (by decide) ?_
  refine zs_istore (pc := 7) (ls' := [_, _, _, _, _, _, _, _, _, _, _]) 8 dX7_commonDivisor_7 (by decide) rfl ?_
  exact loop 0 (by omega) _ _ _ hx0 hy0
end M29
