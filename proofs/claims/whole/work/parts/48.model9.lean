section M48
variable {d : Nat} {mu : Mem} {lm : MemL}
theorem zgetb {x : Int32} {b : Nat} (hb : b < 2147483647) (h : 0 ≤ x ∧ x ≤ nI b) : ∃ X, X ≤ b ∧ x = nI X := zgetl h hb
theorem hm_n {X L k : Nat} (hX : X ≤ 999) (hL : L ≤ 9) (hk : k ≤ 2000) : zmax 0 (nI X - nI L * nI k) = nI (X - L * k) := by
  have hb : L * k ≤ 9 * 2000 := Nat.mul_le_mul hL hk
  rw [pk_mul]
  unfold zmax
  by_cases h : L * k ≤ X
  · rw [pk_sub h]
    by_cases g : 0 < X - L * k
    · rw [if_pos (show (0 : Int32) < nI (X - L * k) from (show nI 0 < nI (X - L * k) from nI_lt g (by omega)))]
    · rw [if_neg (show ¬ (0 : Int32) < nI (X - L * k) from (show ¬ nI 0 < nI (X - L * k) from nI_nlt (by omega) (by omega))), show X - L * k = 0 by omega]; rfl
  · rw [if_neg, show X - L * k = 0 by omega]
    · rfl
    · have := pk_sneg (a := X) (b := L * k) (by omega) (by omega)
      intro q
      simp only [zlt] at *
      omega
/-- tried, after k hours -/
def trH (mu : Mem) (C k : Nat) (m : Mem) : Prop := (∀ c, c ≠ 56 → m c = mu c) ∧ ∀ q, q < C → m 56 q = zmax 0 (mu 55 q - mu 46 16 * nI k)
theorem trH_0 {mu : Mem} {C : Nat} (hC8 : C ≤ 8) (hA : ∀ q, q < C → 0 ≤ mu 55 q ∧ mu 55 q ≤ 999) : trH mu C 0 (bgM mu) := by
  refine ⟨fun c hc => by unfold bgM; rw [zuc_c _ _ hc], fun q hq => ?_⟩
  unfold bgM
  rw [zuc_s, pk_cpy_in (Nat.zero_le _) (by omega), show (0 + (q - 0)) = q by omega, show nI 0 = 0 from rfl, Int32.mul_zero, Int32.sub_zero]
  unfold zmax
  have := hA q hq
  by_cases h : 0 < mu 55 q
  · rw [if_pos h]
  · rw [if_neg h]
    simp only [zeq, zlt, zle] at *
    omega
theorem trH_b {mu : Mem} {C k : Nat} {m : Mem} (h : trH mu C k m) (hk : k ≤ 1500) (hA : ∀ q, q < C → 0 ≤ mu 55 q ∧ mu 55 q ≤ 999) (hL : 0 ≤ mu 46 16 ∧ mu 46 16 ≤ 9) : ∀ q, q < C → 0 ≤ m 56 q ∧ m 56 q ≤ 999 := by
  intro q hq
  obtain ⟨L, hL9, eL⟩ := zgetb (b := 9) (by decide) hL
  obtain ⟨X, hX, eX⟩ := zgetb (b := 999) (by decide) (hA q hq)
  rw [h.2 q hq, eL, eX, hm_n hX hL9 (by omega)]
  exact ⟨nI_pos' (by omega), show nI _ ≤ nI 999 from nI_le (by omega) (by decide)⟩
theorem trH_s {mu : Mem} {C k : Nat} {m : Mem} (h : trH mu C k m) (hC8 : C ≤ 8) (hk : k ≤ 1500) (hA : ∀ q, q < C → 0 ≤ mu 55 q ∧ mu 55 q ≤ 999) (hL : 0 ≤ mu 46 16 ∧ mu 46 16 ≤ 9) : trH mu C (k + 1) (hrS m 56 C) := by
  refine ⟨fun c hc => by unfold hrS; funext z; rw [zup_c _ _ _ hc, hrA_c _ _ hc, h.1 c hc], fun q hq => ?_⟩
  unfold hrS
  rw [zup_k _ _ _ (by omega)]
  unfold hrA
  rw [zuc_s, if_pos hq, h.2 q hq, h.1 46 (by decide)]
  obtain ⟨L, hL9, eL⟩ := zgetb (b := 9) (by decide) hL
  obtain ⟨X, hX, eX⟩ := zgetb (b := 999) (by decide) (hA q hq)
  unfold hrV
  rw [eL, eX, hm_n hX hL9 (by omega), hm_n hX hL9 (by omega), show (1 : Int32) = nI 1 from rfl, hm_n (by omega) hL9 (by decide), show L * (k + 1) = L * k + L from Nat.mul_succ _ _, Nat.mul_one]
  congr 1
  omega
def kQ (x : Int32) (mu : Mem) (lm : MemL) : Option Value → Mem → MemL → Prop := fun r m l => r = some (.int x) ∧ l = lm ∧ ∀ c, c ≠ 56 → m c = mu c
theorem sp_X8_hangs {C M : Nat} (hC : mu 46 17 = nI C) (hC8 : C ≤ 8) (hM : mu 46 18 = nI M) (hM6 : M ≤ 6) (hA : ∀ q, q < C → 0 ≤ mu 55 q ∧ mu 55 q ≤ 999) (hL : 0 ≤ mu 46 16 ∧ mu 46 16 ≤ 9) {c n : Nat} (hc : c < C) (hn : n ≤ 60) : zk_M (d + 2) RX8 cX8_hangs 4 (some .int) none 0 (zk_loc [.ref 46, .int (nI c), .int (nI n)] 4) [] mu lm (kQ (zmax 0 (mu 55 c - mu 46 16 * nI n)) mu lm) := by
  have hm : 0 ≤ nI c ∧ nI c < mu 46 17 := ⟨nI_pos' (by omega), by rw [hC, nIlt (by omega) (by omega)]; exact hc⟩
  have hm2 : (0 : Int32) ≤ nI n ∧ nI n ≤ 60 := ⟨nI_pos' (by omega), show nI n ≤ nI 60 from nI_le hn (by decide)⟩
  have loop : ∀ k, k ≤ n → ∀ nu : Mem, trH mu C k nu → zk_M (d + 2) RX8 cX8_hangs 4 (some .int) none 26 [.ref 46, .int (nI c), .int (nI n), .int (nI k)] [] nu lm (kQ (zmax 0 (mu 55 c - mu 46 16 * nI n)) mu lm) := by
    refine zk_ind n (fun k hk ih => ?_)
    intro nu ht
    refine zk_iload_n (pc := 26) 3 dX8_hangs_26 rfl rfl ?_
    refine zk_iload_n (pc := 27) 2 dX8_hangs_27 rfl rfl ?_
    refine zk_icmp_ge (pc := 28) 46 dX8_hangs_28 (by decide) (fun h28 => ?_) (fun h28 => ?_)
    · rw [nIle (by omega) (by omega)] at h28
      refine zk_aload_n (pc := 46) 0 dX8_hangs_46 rfl rfl ?_
      refine zk_getR (pc := 47) dX8_hangs_47 flX8_41 rfl rfl ?_
      refine zk_iload_n (pc := 50) 1 dX8_hangs_50 rfl rfl ?_
      refine zk_iaload (pc := 51) c dX8_hangs_51 rfl rfl (by omega) ?_
      refine zk_ireturn (pc := 52) dX8_hangs_52 (Or.inl rfl) ⟨?_, rfl, ht.1⟩
      rw [ht.2 c hc, show k = n by omega]
    · rw [nIle (by omega) (by omega)] at h28
      refine zk_aload_n (pc := 31) 0 dX8_hangs_31 rfl rfl ?_
      refine zk_aload_n (pc := 32) 0 dX8_hangs_32 rfl rfl ?_
      refine zk_getR (pc := 33) dX8_hangs_33 flX8_41 rfl rfl ?_
      refine zk_callVI (pc := 36) dX8_hangs_36 mtX8_hourIn lkX8_177 stX8_hourIn (by rfl) (by rfl) [_] _ rfl rfl (Nat.le_of_ble_eq_true rfl) (Nat.le_of_ble_eq_true rfl) (sp_X8_hourIn (s := 56) rfl (by decide) (by decide) (by decide) (by rw [ht.1 46 (by decide)]; exact hC) hC8 (by rw [ht.1 46 (by decide)]; exact hL.1) (by rw [ht.1 46 (by decide)]; exact hL.2) (trH_b ht (by omega) hA hL)) ?_
      refine zk_pop (pc := 39) dX8_hangs_39 rfl ?_
      refine zs_iinc (pc := 40) (ls' := [_, _, _, _]) dX8_hangs_40 rfl (nI_1 k) (by decide) rfl ?_
      refine zk_goto (pc := 43) 26 dX8_hangs_43 (by decide) ?_
      exact ih (by omega) _ (trH_s ht hC8 (by omega) hA hL)
  refine zk_aload_n (pc := 0) 0 dX8_hangs_0 rfl rfl ?_
  refine zk_iload_n (pc := 1) 1 dX8_hangs_1 rfl rfl ?_
  refine zk_callVI (pc := 2) dX8_hangs_2 mtX8_isCell lkX8_156 stX8_isCell (by rfl) (by rfl) [_] _ rfl rfl (Nat.le_of_ble_eq_true rfl) (Nat.le_of_ble_eq_true rfl) (sp_X8_isCell hC hC8 _) ?_
  refine zk_if_eq (pc := 5) 18 dX8_hangs_5 (by decide) (fun h5 => ?_) (fun h5 => ?_)
  · rw [zb_e] at h5
    exact absurd hm h5 --
  · skip
    refine zk_iload_n (pc := 8) 2 dX8_hangs_8 rfl rfl ?_
    refine zk_iconst (pc := 9) (v := 0) dX8_hangs_9 (by decide) ?_
    refine zk_bipush (pc := 10) (v := 60) dX8_hangs_10 (by decide) ?_
    refine zk_callSI (pc := 12) dX8_hangs_12 mtX8_in lkX8_66 stX8_in [_, _, _] _ rfl rfl (Nat.le_of_ble_eq_true rfl) (Nat.le_of_ble_eq_true rfl) (sp_X8_in _ _ _) ?_
    refine zk_if_ne (pc := 15) 20 dX8_hangs_15 (by decide) (fun h15 => ?_) (fun h15 => ?_)
    · skip
      refine zk_aload_n (pc := 20) 0 dX8_hangs_20 rfl rfl ?_
      refine zk_callVV (pc := 21) dX8_hangs_21 mtX8_begin lkX8_184 stX8_begin (by rfl) (by rfl) [] _ rfl rfl (Nat.le_of_ble_eq_true rfl) (Nat.le_of_ble_eq_true rfl) (sp_X8_begin) ?_
      refine zk_iconst (pc := 24) (v := 0) dX8_hangs_24 (by decide) ?_
      refine zs_istore_n (pc := 25) (ls' := [_, _, _, _]) 3 dX8_hangs_25 rfl (by decide) rfl ?_
      exact loop 0 (Nat.zero_le _) _ (trH_0 hC8 hA)
    · rw [zb_e] at h15
      exact absurd hm2 h15 --
theorem sp_X8_hangs_n {C M : Nat} (hC : mu 46 17 = nI C) (hC8 : C ≤ 8) (hM : mu 46 18 = nI M) (hM6 : M ≤ 6) (c n : Int32) (hb : ¬ ((0 ≤ c ∧ c < mu 46 17) ∧ (0 ≤ n ∧ n ≤ 60))) : zk_M (d + 2) RX8 cX8_hangs 4 (some .int) none 0 (zk_loc [.ref 46, .int c, .int n] 4) [] mu lm (zk_R (some (.int (-1))) mu lm) := by
  refine zk_aload_n (pc := 0) 0 dX8_hangs_0 rfl rfl ?_
  refine zk_iload_n (pc := 1) 1 dX8_hangs_1 rfl rfl ?_
  refine zk_callVI (pc := 2) dX8_hangs_2 mtX8_isCell lkX8_156 stX8_isCell (by rfl) (by rfl) [_] _ rfl rfl (Nat.le_of_ble_eq_true rfl) (Nat.le_of_ble_eq_true rfl) (sp_X8_isCell hC hC8 _) ?_
  refine zk_if_eq (pc := 5) 18 dX8_hangs_5 (by decide) (fun h5 => ?_) (fun h5 => ?_)
  · rw [zb_e] at h5
    refine zk_iconst (pc := 18) (v := -1) dX8_hangs_18 (by decide) ?_
    exact zk_ireturn (pc := 19) dX8_hangs_19 (Or.inl rfl) (zk_ri rfl)
  · rw [zb_n] at h5
    refine zk_iload_n (pc := 8) 2 dX8_hangs_8 rfl rfl ?_
    refine zk_iconst (pc := 9) (v := 0) dX8_hangs_9 (by decide) ?_
    refine zk_bipush (pc := 10) (v := 60) dX8_hangs_10 (by decide) ?_
    refine zk_callSI (pc := 12) dX8_hangs_12 mtX8_in lkX8_66 stX8_in [_, _, _] _ rfl rfl (Nat.le_of_ble_eq_true rfl) (Nat.le_of_ble_eq_true rfl) (sp_X8_in _ _ _) ?_
    refine zk_if_ne (pc := 15) 20 dX8_hangs_15 (by decide) (fun h15 => ?_) (fun h15 => ?_)
    · rw [zb_n] at h15
      exact absurd ⟨h5, h15⟩ hb --
    · rw [zb_e] at h15
      refine zk_iconst (pc := 18) (v := -1) dX8_hangs_18 (by decide) ?_
      exact zk_ireturn (pc := 19) dX8_hangs_19 (Or.inl rfl) (zk_ri rfl)
def clP (mu : Mem) (C : Nat) (n : Nat) : Bool := decide (zsum C (fun q => zmax 0 (mu 55 q - mu 46 16 * nI n)) = 0)
theorem sp_X8_clear {C M : Nat} (hC : mu 46 17 = nI C) (hC8 : C ≤ 8) (hM : mu 46 18 = nI M) (hM6 : M ≤ 6) (hA : ∀ q, q < C → 0 ≤ mu 55 q ∧ mu 55 q ≤ 999) (hL : 0 ≤ mu 46 16 ∧ mu 46 16 ≤ 9) (hM0 : 0 < M) : zk_M (d + 2) RX8 cX8_clear 2 (some .int) none 0 (zk_loc [.ref 46] 2) [] mu lm (kQ (zfst (clP mu C) (-9) 1001 0) mu lm) := by
  have loop : ∀ k, k ≤ 1001 → ∀ nu : Mem, trH mu C k nu → zk_M (d + 2) RX8 cX8_clear 2 (some .int) none 16 [.ref 46, .int (nI k)] [] nu lm (kQ (zfst (clP mu C) (-9) (1001 - k) k) mu lm) := by
    refine zk_ind 1001 (fun k hk ih => ?_)
    intro nu ht
    have es : zsum C (nu 56) = zsum C (fun q => zmax 0 (mu 55 q - mu 46 16 * nI k)) := zsum_cong (fun q hq => ht.2 q hq)
    refine zk_iload_n (pc := 16) 1 dX8_clear_16 rfl rfl ?_
    refine zk_sipush (pc := 17) (v := 1000) dX8_clear_17 (by decide) ?_
    refine zk_icmp_gt (pc := 20) 51 dX8_clear_20 (by decide) (fun h20 => ?_) (fun h20 => ?_)
    · rw [show (1000 : Int32) = nI 1000 from rfl, nIlt (by omega) (by omega)] at h20
      refine zk_bipush (pc := 51) (v := -9) dX8_clear_51 (by decide) ?_
      refine zk_ireturn (pc := 53) dX8_clear_53 (Or.inl rfl) ⟨?_, rfl, ht.1⟩
      rw [show 1001 - k = 0 by omega]; rfl
    · rw [show (1000 : Int32) = nI 1000 from rfl, nIlt (by omega) (by omega)] at h20
      refine zk_aload_n (pc := 23) 0 dX8_clear_23 rfl rfl ?_
      refine zk_aload_n (pc := 24) 0 dX8_clear_24 rfl rfl ?_
      refine zk_getR (pc := 25) dX8_clear_25 flX8_41 rfl rfl ?_
      refine zk_callVI (pc := 28) dX8_clear_28 mtX8_allIn lkX8_167 stX8_allIn (by rfl) (by rfl) [_] _ rfl rfl (Nat.le_of_ble_eq_true rfl) (Nat.le_of_ble_eq_true rfl) (sp_X8_allIn (c := 56) (n := 17) rfl (by rw [ht.1 46 (by decide)]; exact hC) hC8 (by decide)) ?_
      refine zk_if_ne (pc := 31) 36 dX8_clear_31 (by decide) (fun h31 => ?_) (fun h31 => ?_)
      · skip
        refine zk_aload_n (pc := 36) 0 dX8_clear_36 rfl rfl ?_
        refine zk_aload_n (pc := 37) 0 dX8_clear_37 rfl rfl ?_
        refine zk_getR (pc := 38) dX8_clear_38 flX8_41 rfl rfl ?_
        refine zk_callVI (pc := 41) dX8_clear_41 mtX8_hourIn lkX8_177 stX8_hourIn (by rfl) (by rfl) [_] _ rfl rfl (Nat.le_of_ble_eq_true rfl) (Nat.le_of_ble_eq_true rfl) (sp_X8_hourIn (s := 56) rfl (by decide) (by decide) (by decide) (by rw [ht.1 46 (by decide)]; exact hC) hC8 (by rw [ht.1 46 (by decide)]; exact hL.1) (by rw [ht.1 46 (by decide)]; exact hL.2) (trH_b ht (by omega) hA hL)) ?_
        refine zk_pop (pc := 44) dX8_clear_44 rfl ?_
        refine zs_iinc (pc := 45) (ls' := [_, _]) dX8_clear_45 rfl (nI_1 k) (by decide) rfl ?_
        refine zk_goto (pc := 48) 16 dX8_clear_48 (by decide) ?_
        rw [show 1001 - k = (1001 - (k + 1)) + 1 by omega, zfst_f (p := clP mu C) (decide_eq_false (by rw [← es]; exact h31))]
        exact ih (by omega) _ (trH_s ht hC8 (by omega) hA hL)
      · skip
        refine zk_iload_n (pc := 34) 1 dX8_clear_34 rfl rfl ?_
        refine zk_ireturn (pc := 35) dX8_clear_35 (Or.inl rfl) ⟨?_, rfl, ht.1⟩
        rw [show 1001 - k = (1001 - (k + 1)) + 1 by omega, zfst_t (p := clP mu C) (decide_eq_true (by rw [← es]; exact h31))]
  refine zk_aload_n (pc := 0) 0 dX8_clear_0 rfl rfl ?_
  refine zk_getI (pc := 1) dX8_clear_1 flX8_63 rfl rfl ?_
  refine zk_if_ne (pc := 4) 10 dX8_clear_4 (by decide) (fun h4 => ?_) (fun h4 => ?_)
  · skip
    refine zk_aload_n (pc := 10) 0 dX8_clear_10 rfl rfl ?_
    refine zk_callVV (pc := 11) dX8_clear_11 mtX8_begin lkX8_184 stX8_begin (by rfl) (by rfl) [] _ rfl rfl (Nat.le_of_ble_eq_true rfl) (Nat.le_of_ble_eq_true rfl) (sp_X8_begin) ?_
    refine zk_iconst (pc := 14) (v := 0) dX8_clear_14 (by decide) ?_
    refine zs_istore_n (pc := 15) (ls' := [_, _]) 1 dX8_clear_15 rfl (by decide) rfl ?_
    exact loop 0 (Nat.zero_le _) _ (trH_0 hC8 hA)
  · rw [hM, show (0 : Int32) = nI 0 from rfl, nIeq (by omega) (by omega)] at h4
    exact absurd h4 (by omega) --
theorem sp_X8_clear_0 (hM : mu 46 18 = 0) : zk_M (d + 2) RX8 cX8_clear 2 (some .int) none 0 (zk_loc [.ref 46] 2) [] mu lm (zk_R (some (.int (-4))) mu lm) := by
  refine zk_aload_n (pc := 0) 0 dX8_clear_0 rfl rfl ?_
  refine zk_getI (pc := 1) dX8_clear_1 flX8_63 rfl rfl ?_
  refine zk_if_ne (pc := 4) 10 dX8_clear_4 (by decide) (fun h4 => ?_) (fun h4 => ?_)
  · exact absurd hM h4 --
  · skip
    refine zk_bipush (pc := 7) (v := -4) dX8_clear_7 (by decide) ?_
    exact zk_ireturn (pc := 9) dX8_clear_9 (Or.inl rfl) (zk_ri rfl)
def bts (x : Int32) : Int32 := zsum 10 (fun k => (x >>> (nI k &&& 31)) &&& 1)
def lftS (mu : Mem) (C : Nat) (o : Int32) : Int32 := zsum C (fun k => if (o >>> (nI k &&& 31)) &&& 1 = 1 then 0 else mu 55 k)
def wR (mu : Mem) (C : Nat) (w : Int32) : Nat → Int32
  | 0 => -9
  | k + 1 => if lftS mu C (nI k) ≤ w ∧ (wR mu C w k = -9 ∨ bts (nI k) < bts (wR mu C w k)) then nI k else wR mu C w k
theorem wR_s (mu : Mem) (C : Nat) (w : Int32) (k : Nat) : wR mu C w (k + 1) = if lftS mu C (nI k) ≤ w ∧ (wR mu C w k = -9 ∨ bts (nI k) < bts (wR mu C w k)) then nI k else wR mu C w k := rfl
theorem sp_X8_window {C M : Nat} (hC : mu 46 17 = nI C) (hC8 : C ≤ 8) (hM : mu 46 18 = nI M) (hM6 : M ≤ 6) (hM0 : 0 < M) {w : Int32} (hw : 0 ≤ w ∧ w ≤ 7992) : zk_M (d + 1) RX8 cX8_window 6 (some .int) none 0 (zk_loc [.ref 46, .int w] 6) [] mu lm (zk_R (some (.int (bts (wR mu C w (2 ^ C))))) (zk_up mu 46 6 (wR mu C w (2 ^ C))) lm) := by
  have hp : 2 ^ C ≤ 256 := zpow hC8
  have loop : ∀ k, k ≤ 2 ^ C → ∀ b4 b5, zk_M (d + 1) RX8 cX8_window 6 (some .int) none 28 [.ref 46, .int w, .int (wR mu C w k), .int (nI k), b4, b5] [] mu lm (zk_R (some (.int (bts (wR mu C w (2 ^ C))))) (zk_up mu 46 6 (wR mu C w (2 ^ C))) lm) := by
    refine zk_ind (2 ^ C) (fun k hk ih => ?_)
    intro b4 b5
    have inner : k < 2 ^ C → ∀ c, c ≤ C → zk_M (d + 1) RX8 cX8_window 6 (some .int) none 44 [.ref 46, .int w, .int (wR mu C w k), .int (nI k), .int (zsum c (fun q => if (nI k >>> (nI q &&& 31)) &&& 1 = 1 then 0 else mu 55 q)), .int (nI c)] [] mu lm (zk_R (some (.int (bts (wR mu C w (2 ^ C))))) (zk_up mu 46 6 (wR mu C w (2 ^ C))) lm) := by
      intro hk2
      refine zk_ind C (fun c hc ihc => ?_)
      refine zk_iload (pc := 44) dX8_window_44 rfl ?_
      refine zk_aload_n (pc := 46) 0 dX8_window_46 rfl rfl ?_
      refine zk_getI (pc := 47) dX8_window_47 flX8_70 rfl rfl ?_
      refine zk_icmp_ge (pc := 50) 84 dX8_window_50 (by decide) (fun h50 => ?_) (fun h50 => ?_)
      · rw [hC, nIle (by omega) (by omega)] at h50
        obtain rfl : c = C := by omega
        refine zk_iload (pc := 84) dX8_window_84 rfl ?_
        refine zk_iload_n (pc := 86) 1 dX8_window_86 rfl rfl ?_
        refine zk_icmp_gt (pc := 87) 111 dX8_window_87 (by decide) (fun h87 => ?_) (fun h87 => ?_)
        · rw [zltn] at h87
          replace h87 : ¬ lftS mu c (nI k) ≤ w := h87
          refine zk_iload_n (pc := 111) 2 dX8_window_111 rfl rfl ?_
          refine zs_istore_n (pc := 112) (ls' := [_, _, _, _, _, _]) 2 dX8_window_112 rfl (by decide) rfl ?_
          refine zs_iinc (pc := 113) (ls' := [_, _, _, _, _, _]) dX8_window_113 rfl (nI_1 k) (by decide) rfl ?_
          refine zk_goto (pc := 116) 28 dX8_window_116 (by decide) ?_
          have e := ih hk2 (.int (zsum c (fun q => if (nI k >>> (nI q &&& 31)) &&& 1 = 1 then 0 else mu 55 q))) (.int (nI c))
          rw [wR_s] at e
          first
            | (rw [if_neg (fun z => h87 z.1)] at e; exact e)
            | (have hz : lftS mu c (nI k) ≤ w ∧ (wR mu c w k = -9 ∨ bts (nI k) < bts (wR mu c w k)) := ⟨h87, Or.inl h93⟩
               rw [if_pos hz] at e; exact e)
            | (have hz : lftS mu c (nI k) ≤ w ∧ (wR mu c w k = -9 ∨ bts (nI k) < bts (wR mu c w k)) := ⟨h87, Or.inr h104⟩
               rw [if_pos hz] at e; exact e)
            | (have hz : ¬ (lftS mu c (nI k) ≤ w ∧ (wR mu c w k = -9 ∨ bts (nI k) < bts (wR mu c w k))) := fun z => z.2.elim h93 (fun y => h104 y)
               rw [if_neg hz] at e; exact e)
        · rw [znl] at h87
          replace h87 : lftS mu c (nI k) ≤ w := h87
          refine zk_iload_n (pc := 90) 2 dX8_window_90 rfl rfl ?_
          refine zk_bipush (pc := 91) (v := -9) dX8_window_91 (by decide) ?_
          refine zk_icmp_eq (pc := 93) 107 dX8_window_93 (by decide) (fun h93 => ?_) (fun h93 => ?_)
          · skip
            refine zk_iload_n (pc := 107) 3 dX8_window_107 rfl rfl ?_
            refine zk_goto (pc := 108) 112 dX8_window_108 (by decide) ?_
            refine zs_istore_n (pc := 112) (ls' := [_, _, _, _, _, _]) 2 dX8_window_112 rfl (by decide) rfl ?_
            refine zs_iinc (pc := 113) (ls' := [_, _, _, _, _, _]) dX8_window_113 rfl (nI_1 k) (by decide) rfl ?_
            refine zk_goto (pc := 116) 28 dX8_window_116 (by decide) ?_
            have e := ih hk2 (.int (zsum c (fun q => if (nI k >>> (nI q &&& 31)) &&& 1 = 1 then 0 else mu 55 q))) (.int (nI c))
            rw [wR_s] at e
            first
              | (rw [if_neg (fun z => h87 z.1)] at e; exact e)
              | (have hz : lftS mu c (nI k) ≤ w ∧ (wR mu c w k = -9 ∨ bts (nI k) < bts (wR mu c w k)) := ⟨h87, Or.inl h93⟩
                 rw [if_pos hz] at e; exact e)
              | (have hz : lftS mu c (nI k) ≤ w ∧ (wR mu c w k = -9 ∨ bts (nI k) < bts (wR mu c w k)) := ⟨h87, Or.inr h104⟩
                 rw [if_pos hz] at e; exact e)
              | (have hz : ¬ (lftS mu c (nI k) ≤ w ∧ (wR mu c w k = -9 ∨ bts (nI k) < bts (wR mu c w k))) := fun z => z.2.elim h93 (fun y => h104 y)
                 rw [if_neg hz] at e; exact e)
          · skip
            refine zk_iload_n (pc := 96) 3 dX8_window_96 rfl rfl ?_
            refine zk_callSI (pc := 97) dX8_window_97 mtX8_bits lkX8_190 stX8_bits [_] _ rfl rfl (Nat.le_of_ble_eq_true rfl) (Nat.le_of_ble_eq_true rfl) (sp_X8_bits _) ?_
            refine zk_iload_n (pc := 100) 2 dX8_window_100 rfl rfl ?_
            refine zk_callSI (pc := 101) dX8_window_101 mtX8_bits lkX8_190 stX8_bits [_] _ rfl rfl (Nat.le_of_ble_eq_true rfl) (Nat.le_of_ble_eq_true rfl) (sp_X8_bits _) ?_
            refine zk_icmp_ge (pc := 104) 111 dX8_window_104 (by decide) (fun h104 => ?_) (fun h104 => ?_)
            · rw [← znl] at h104
              replace h104 : ¬ bts (nI k) < bts (wR mu c w k) := h104
              refine zk_iload_n (pc := 111) 2 dX8_window_111 rfl rfl ?_
              refine zs_istore_n (pc := 112) (ls' := [_, _, _, _, _, _]) 2 dX8_window_112 rfl (by decide) rfl ?_
              refine zs_iinc (pc := 113) (ls' := [_, _, _, _, _, _]) dX8_window_113 rfl (nI_1 k) (by decide) rfl ?_
              refine zk_goto (pc := 116) 28 dX8_window_116 (by decide) ?_
              have e := ih hk2 (.int (zsum c (fun q => if (nI k >>> (nI q &&& 31)) &&& 1 = 1 then 0 else mu 55 q))) (.int (nI c))
              rw [wR_s] at e
              first
                | (rw [if_neg (fun z => h87 z.1)] at e; exact e)
                | (have hz : lftS mu c (nI k) ≤ w ∧ (wR mu c w k = -9 ∨ bts (nI k) < bts (wR mu c w k)) := ⟨h87, Or.inl h93⟩
                   rw [if_pos hz] at e; exact e)
                | (have hz : lftS mu c (nI k) ≤ w ∧ (wR mu c w k = -9 ∨ bts (nI k) < bts (wR mu c w k)) := ⟨h87, Or.inr h104⟩
                   rw [if_pos hz] at e; exact e)
                | (have hz : ¬ (lftS mu c (nI k) ≤ w ∧ (wR mu c w k = -9 ∨ bts (nI k) < bts (wR mu c w k))) := fun z => z.2.elim h93 (fun y => h104 y)
                   rw [if_neg hz] at e; exact e)
            · rw [← zltn] at h104
              replace h104 : bts (nI k) < bts (wR mu c w k) := h104
              refine zk_iload_n (pc := 107) 3 dX8_window_107 rfl rfl ?_
              refine zk_goto (pc := 108) 112 dX8_window_108 (by decide) ?_
              refine zs_istore_n (pc := 112) (ls' := [_, _, _, _, _, _]) 2 dX8_window_112 rfl (by decide) rfl ?_
              refine zs_iinc (pc := 113) (ls' := [_, _, _, _, _, _]) dX8_window_113 rfl (nI_1 k) (by decide) rfl ?_
              refine zk_goto (pc := 116) 28 dX8_window_116 (by decide) ?_
              have e := ih hk2 (.int (zsum c (fun q => if (nI k >>> (nI q &&& 31)) &&& 1 = 1 then 0 else mu 55 q))) (.int (nI c))
              rw [wR_s] at e
              first
                | (rw [if_neg (fun z => h87 z.1)] at e; exact e)
                | (have hz : lftS mu c (nI k) ≤ w ∧ (wR mu c w k = -9 ∨ bts (nI k) < bts (wR mu c w k)) := ⟨h87, Or.inl h93⟩
                   rw [if_pos hz] at e; exact e)
                | (have hz : lftS mu c (nI k) ≤ w ∧ (wR mu c w k = -9 ∨ bts (nI k) < bts (wR mu c w k)) := ⟨h87, Or.inr h104⟩
                   rw [if_pos hz] at e; exact e)
                | (have hz : ¬ (lftS mu c (nI k) ≤ w ∧ (wR mu c w k = -9 ∨ bts (nI k) < bts (wR mu c w k))) := fun z => z.2.elim h93 (fun y => h104 y)
                   rw [if_neg hz] at e; exact e)
      · rw [hC, nIle (by omega) (by omega)] at h50
        refine zk_iload (pc := 53) dX8_window_53 rfl ?_
        refine zk_iload_n (pc := 55) 3 dX8_window_55 rfl rfl ?_
        refine zk_iload (pc := 56) dX8_window_56 rfl ?_
        refine zk_callSI (pc := 58) dX8_window_58 mtX8_has lkX8_187 stX8_has [_, _] _ rfl rfl (Nat.le_of_ble_eq_true rfl) (Nat.le_of_ble_eq_true rfl) (sp_X8_has _ _) ?_
        refine zk_if_eq (pc := 61) 68 dX8_window_61 (by decide) (fun h61 => ?_) (fun h61 => ?_)
        · rw [zb_e] at h61
          refine zk_aload_n (pc := 68) 0 dX8_window_68 rfl rfl ?_
          refine zk_getR (pc := 69) dX8_window_69 flX8_38 rfl rfl ?_
          refine zk_iload (pc := 72) dX8_window_72 rfl ?_
          refine zk_iaload (pc := 74) c dX8_window_74 rfl rfl (by omega) ?_
          refine zk_iadd (pc := 75) dX8_window_75 ?_
          refine zs_istore (pc := 76) (ls' := [_, _, _, _, _, _]) 4 dX8_window_76 (by decide) rfl ?_
          refine zs_iinc (pc := 78) (ls' := [_, _, _, _, _, _]) dX8_window_78 rfl (nI_1 c) (by decide) rfl ?_
          refine zk_goto (pc := 81) 44 dX8_window_81 (by decide) ?_
          have e := ihc (by omega)
          rw [zsum_s] at e
          first | (rw [if_pos h61] at e; exact e) | (rw [if_neg h61] at e; exact e)
        · rw [zb_n] at h61
          refine zk_iconst (pc := 64) (v := 0) dX8_window_64 (by decide) ?_
          refine zk_goto (pc := 65) 75 dX8_window_65 (by decide) ?_
          refine zk_iadd (pc := 75) dX8_window_75 ?_
          refine zs_istore (pc := 76) (ls' := [_, _, _, _, _, _]) 4 dX8_window_76 (by decide) rfl ?_
          refine zs_iinc (pc := 78) (ls' := [_, _, _, _, _, _]) dX8_window_78 rfl (nI_1 c) (by decide) rfl ?_
          refine zk_goto (pc := 81) 44 dX8_window_81 (by decide) ?_
          have e := ihc (by omega)
          rw [zsum_s] at e
          first | (rw [if_pos h61] at e; exact e) | (rw [if_neg h61] at e; exact e)
    refine zk_iload_n (pc := 28) 3 dX8_window_28 rfl rfl ?_
    refine zk_iconst (pc := 29) (v := 1) dX8_window_29 (by decide) ?_
    refine zk_aload_n (pc := 30) 0 dX8_window_30 rfl rfl ?_
    refine zk_getI (pc := 31) dX8_window_31 flX8_70 rfl rfl ?_
    refine zk_ishl (pc := 34) dX8_window_34 ?_
    refine zk_icmp_ge (pc := 35) 119 dX8_window_35 (by decide) (fun h35 => ?_) (fun h35 => ?_)
    · rw [hC, zshl hC8, nIle (by omega) (by omega)] at h35
      refine zk_aload_n (pc := 119) 0 dX8_window_119 rfl rfl ?_
      refine zk_iload_n (pc := 120) 2 dX8_window_120 rfl rfl ?_
      refine zk_callVI (pc := 121) dX8_window_121 mtX8_tells lkX8_81 stX8_tells (by rfl) (by rfl) [_] _ rfl rfl (Nat.le_of_ble_eq_true rfl) (Nat.le_of_ble_eq_true rfl) (sp_X8_tells _) ?_
      refine zk_pop (pc := 124) dX8_window_124 rfl ?_
      refine zk_iload_n (pc := 125) 2 dX8_window_125 rfl rfl ?_
      refine zk_callSI (pc := 126) dX8_window_126 mtX8_bits lkX8_190 stX8_bits [_] _ rfl rfl (Nat.le_of_ble_eq_true rfl) (Nat.le_of_ble_eq_true rfl) (sp_X8_bits _) ?_
      refine zk_ireturn (pc := 129) dX8_window_129 (Or.inl rfl) (zk_rm ?_ ?_ rfl)
      · rw [show k = 2 ^ C by omega]; rfl
      · rw [show k = 2 ^ C by omega]
    · rw [hC, zshl hC8, nIle (by omega) (by omega)] at h35
      refine zk_iconst (pc := 38) (v := 0) dX8_window_38 (by decide) ?_
      refine zs_istore (pc := 39) (ls' := [_, _, _, _, _, _]) 4 dX8_window_39 (by decide) rfl ?_
      refine zk_iconst (pc := 41) (v := 0) dX8_window_41 (by decide) ?_
      refine zs_istore (pc := 42) (ls' := [_, _, _, _, _, _]) 5 dX8_window_42 (by decide) rfl ?_
      exact inner (by omega) 0 (Nat.zero_le _)
  refine zk_iload_n (pc := 0) 1 dX8_window_0 rfl rfl ?_
  refine zk_iconst (pc := 1) (v := 0) dX8_window_1 (by decide) ?_
  refine zk_sipush (pc := 2) (v := 7992) dX8_window_2 (by decide) ?_
  refine zk_callSI (pc := 5) dX8_window_5 mtX8_in lkX8_66 stX8_in [_, _, _] _ rfl rfl (Nat.le_of_ble_eq_true rfl) (Nat.le_of_ble_eq_true rfl) (sp_X8_in _ _ _) ?_
  refine zk_if_ne (pc := 8) 13 dX8_window_8 (by decide) (fun h8 => ?_) (fun h8 => ?_)
  · skip
    refine zk_aload_n (pc := 13) 0 dX8_window_13 rfl rfl ?_
    refine zk_getI (pc := 14) dX8_window_14 flX8_63 rfl rfl ?_
    refine zk_if_ne (pc := 17) 23 dX8_window_17 (by decide) (fun h17 => ?_) (fun h17 => ?_)
    · skip
      refine zk_bipush (pc := 23) (v := -9) dX8_window_23 (by decide) ?_
      refine zs_istore_n (pc := 25) (ls' := [_, _, _, _, _, _]) 2 dX8_window_25 rfl (by decide) rfl ?_
      refine zk_iconst (pc := 26) (v := 0) dX8_window_26 (by decide) ?_
      refine zs_istore_n (pc := 27) (ls' := [_, _, _, _, _, _]) 3 dX8_window_27 rfl (by decide) rfl ?_
      exact loop 0 (Nat.zero_le _) _ _
    · rw [hM, show (0 : Int32) = nI 0 from rfl, nIeq (by omega) (by omega)] at h17
      exact absurd h17 (by omega) --
  · rw [zb_e] at h8
    exact absurd hw h8 --
theorem sp_X8_window_n {w : Int32} (hw : ¬ (0 ≤ w ∧ w ≤ 7992)) : zk_M (d + 1) RX8 cX8_window 6 (some .int) none 0 (zk_loc [.ref 46, .int w] 6) [] mu lm (zk_R (some (.int (-1))) mu lm) := by
  refine zk_iload_n (pc := 0) 1 dX8_window_0 rfl rfl ?_
  refine zk_iconst (pc := 1) (v := 0) dX8_window_1 (by decide) ?_
  refine zk_sipush (pc := 2) (v := 7992) dX8_window_2 (by decide) ?_
  refine zk_callSI (pc := 5) dX8_window_5 mtX8_in lkX8_66 stX8_in [_, _, _] _ rfl rfl (Nat.le_of_ble_eq_true rfl) (Nat.le_of_ble_eq_true rfl) (sp_X8_in _ _ _) ?_
  refine zk_if_ne (pc := 8) 13 dX8_window_8 (by decide) (fun h8 => ?_) (fun h8 => ?_)
  · rw [zb_n] at h8
    exact absurd h8 hw --
  · rw [zb_e] at h8
    refine zk_iconst (pc := 11) (v := -1) dX8_window_11 (by decide) ?_
    exact zk_ireturn (pc := 12) dX8_window_12 (Or.inl rfl) (zk_ri rfl)
theorem sp_X8_window_0 {w : Int32} (hw : 0 ≤ w ∧ w ≤ 7992) (hM : mu 46 18 = 0) : zk_M (d + 1) RX8 cX8_window 6 (some .int) none 0 (zk_loc [.ref 46, .int w] 6) [] mu lm (zk_R (some (.int (-4))) mu lm) := by
  refine zk_iload_n (pc := 0) 1 dX8_window_0 rfl rfl ?_
  refine zk_iconst (pc := 1) (v := 0) dX8_window_1 (by decide) ?_
  refine zk_sipush (pc := 2) (v := 7992) dX8_window_2 (by decide) ?_
  refine zk_callSI (pc := 5) dX8_window_5 mtX8_in lkX8_66 stX8_in [_, _, _] _ rfl rfl (Nat.le_of_ble_eq_true rfl) (Nat.le_of_ble_eq_true rfl) (sp_X8_in _ _ _) ?_
  refine zk_if_ne (pc := 8) 13 dX8_window_8 (by decide) (fun h8 => ?_) (fun h8 => ?_)
  · skip
    refine zk_aload_n (pc := 13) 0 dX8_window_13 rfl rfl ?_
    refine zk_getI (pc := 14) dX8_window_14 flX8_63 rfl rfl ?_
    refine zk_if_ne (pc := 17) 23 dX8_window_17 (by decide) (fun h17 => ?_) (fun h17 => ?_)
    · exact absurd hM h17 --
    · skip
      refine zk_bipush (pc := 20) (v := -4) dX8_window_20 (by decide) ?_
      exact zk_ireturn (pc := 22) dX8_window_22 (Or.inl rfl) (zk_ri rfl)
  · rw [zb_e] at h8
    exact absurd hw h8 --
end M48
