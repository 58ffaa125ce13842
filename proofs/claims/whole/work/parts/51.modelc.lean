section M51
variable {d : Nat} {mu : Mem} {lm : MemL}
theorem zall_sn (p : Nat → Bool) (k : Nat) : (zall p (k + 1) 0 = true) ↔ (zall p k 0 = true ∧ p k = true) := by
  rw [zall_iff, zall_iff]
  constructor
  · intro h
    exact ⟨fun i hi => h i (by omega), by have := h k (by omega); rwa [Nat.zero_add] at this⟩
  · rintro ⟨h1, h2⟩ i hi
    by_cases e : i = k
    · subst e; rw [Nat.zero_add]; exact h2
    · exact h1 i (by omega)
theorem zal_1 {p : Nat → Bool} {k : Nat} (h : ¬ zall p k 0 = true) : zb (zall p (k + 1) 0 = true) = 0 := zb_f (fun q => h ((zall_sn p k).mp q).1)
theorem zal_2 {p : Nat → Bool} {k : Nat} (h : ¬ p k = true) : zb (zall p (k + 1) 0 = true) = 0 := zb_f (fun q => h ((zall_sn p k).mp q).2)
theorem zal_3 {p : Nat → Bool} {k : Nat} (h : zall p k 0 = true) (h2 : p k = true) : zb (zall p (k + 1) 0 = true) = 1 := zb_t ((zall_sn p k).mpr ⟨h, h2⟩)
theorem zall_z (p : Nat → Bool) : zb (zall p 0 0 = true) = 1 := zb_t rfl
def itF (mu : Mem) (k : Nat) : Nat → Int32 := fun q => mu 48 (40 * k + q)
def inP (f : Nat → Int32) (b : Int32) : Nat → Bool := fun i => decide (0 ≤ f i ∧ f i ≤ b)
def fitP (f : Nat → Int32) (kind : Int32) : Nat → Bool := fun t => decide (kSay kind (f (2 * t)) = f (2 * t + 1))
def mrfN (mu : Mem) (k : Nat) : Int32 × Mem := if 0 ≤ mu 47 k then (if (mu 47 k).toNatClampNeg % 2 = 0 ∧ (mu 47 k).toNatClampNeg ≤ 16 then (if zall (inP (itF mu k) 99) (mu 47 k).toNatClampNeg 0 = true then (0, mu) else (-3, fndD mu 3)) else (-3, fndD mu 5)) else (-3, fndD mu 1)
theorem sp_X8_wrongPairs {k : Nat} (hk : k < 6) (hz : zSz (mu 47 k) 40) : zk_M (d + 1) RX8 cX8_wrongPairs 4 (some .int) none 0 (zk_loc [.ref 46, .int (nI k)] 4) [] mu lm (zk_R (some (.int (mrfN mu k).1)) (mrfN mu k).2 lm) := by
  have loop : ∀ n, n ≤ 16 → n % 2 = 0 → mu 47 k = nI n → ∀ i, i ≤ n → zk_M (d + 1) RX8 cX8_wrongPairs 4 (some .int) none 48 [.ref 46, .int (nI k), .int (zb (zall (inP (itF mu k) 99) i 0 = true)), .int (nI i)] [] mu lm (zk_R (some (.int (mrfN mu k).1)) (mrfN mu k).2 lm) := by
    intro n hn hn2 hs
    refine zk_ind n (fun i hi ih => ?_)
    refine zk_iload_n (pc := 48) 3 dX8_wrongPairs_48 rfl rfl ?_
    refine zk_aload_n (pc := 49) 0 dX8_wrongPairs_49 rfl rfl ?_
    refine zk_getR (pc := 50) dX8_wrongPairs_50 flX8_7 rfl rfl ?_
    refine zk_iload_n (pc := 53) 1 dX8_wrongPairs_53 rfl rfl ?_
    refine zk_iaload (pc := 54) k dX8_wrongPairs_54 rfl rfl hk ?_
    refine zk_icmp_ge (pc := 55) 94 dX8_wrongPairs_55 (by decide) (fun h55 => ?_) (fun h55 => ?_)
    · rw [hs, nIle (by omega) (by omega)] at h55
      refine zk_iload_n (pc := 94) 2 dX8_wrongPairs_94 rfl rfl ?_
      refine zk_if_eq (pc := 95) 102 dX8_wrongPairs_95 (by decide) (fun h95 => ?_) (fun h95 => ?_)
      · rw [zb_e] at h95
        refine zk_aload_n (pc := 102) 0 dX8_wrongPairs_102 rfl rfl ?_
        refine zk_iconst (pc := 103) (v := 3) dX8_wrongPairs_103 (by decide) ?_
        refine zk_callVI (pc := 104) dX8_wrongPairs_104 mtX8_finds lkX8_73 stX8_finds (by rfl) (by rfl) [_] _ rfl rfl (Nat.le_of_ble_eq_true rfl) (Nat.le_of_ble_eq_true rfl) (sp_X8_finds (f := 3) (by decide)) ?_
        refine zk_ireturn (pc := 107) dX8_wrongPairs_107 (Or.inl rfl) (zk_pr ?_)
        obtain rfl : i = n := by omega
        unfold mrfN
        rw [if_pos (by rw [hs]; exact nI_pos' (by omega)), hs, nI_clamp (by omega), if_pos ⟨hn2, hn⟩]
        first | rw [if_neg h95] | rw [if_pos h95]
      · rw [zb_n] at h95
        refine zk_iconst (pc := 98) (v := 0) dX8_wrongPairs_98 (by decide) ?_
        refine zk_goto (pc := 99) 107 dX8_wrongPairs_99 (by decide) ?_
        refine zk_ireturn (pc := 107) dX8_wrongPairs_107 (Or.inl rfl) (zk_pr ?_)
        obtain rfl : i = n := by omega
        unfold mrfN
        rw [if_pos (by rw [hs]; exact nI_pos' (by omega)), hs, nI_clamp (by omega), if_pos ⟨hn2, hn⟩]
        first | rw [if_neg h95] | rw [if_pos h95]
    · rw [hs, nIle (by omega) (by omega)] at h55
      refine zk_iload_n (pc := 58) 2 dX8_wrongPairs_58 rfl rfl ?_
      refine zk_if_eq (pc := 59) 86 dX8_wrongPairs_59 (by decide) (fun h59 => ?_) (fun h59 => ?_)
      · rw [zb_e] at h59
        refine zk_iconst (pc := 86) (v := 0) dX8_wrongPairs_86 (by decide) ?_
        refine zs_istore_n (pc := 87) (ls' := [_, _, _, _]) 2 dX8_wrongPairs_87 rfl (by decide) rfl ?_
        refine zs_iinc (pc := 88) (ls' := [_, _, _, _]) dX8_wrongPairs_88 rfl (nI_1 i) (by decide) rfl ?_
        refine zk_goto (pc := 91) 48 dX8_wrongPairs_91 (by decide) ?_
        have e := ih (by omega)
        first
          | (rw [zal_1 h59] at e; exact e)
          | (rw [zal_2 (fun z => h79 (of_decide_eq_true z))] at e; exact e)
          | (rw [zal_3 h59 (decide_eq_true h79)] at e; exact e)
      · rw [zb_n] at h59
        refine zk_aload_n (pc := 62) 0 dX8_wrongPairs_62 rfl rfl ?_
        refine zk_getR (pc := 63) dX8_wrongPairs_63 flX8_13 rfl rfl ?_
        refine zk_bipush (pc := 66) (v := 40) dX8_wrongPairs_66 (by decide) ?_
        refine zk_iload_n (pc := 68) 1 dX8_wrongPairs_68 rfl rfl ?_
        refine zk_imul (pc := 69) dX8_wrongPairs_69 ?_
        refine zk_iload_n (pc := 70) 3 dX8_wrongPairs_70 rfl rfl ?_
        refine zk_iadd (pc := 71) dX8_wrongPairs_71 ?_
        refine zk_iaload (pc := 72) (40 * k + i) dX8_wrongPairs_72 rfl (by rw [show (40 : Int32) = nI 40 from rfl, pk_mul, nI_add]) (by omega) ?_
        refine zk_iconst (pc := 73) (v := 0) dX8_wrongPairs_73 (by decide) ?_
        refine zk_bipush (pc := 74) (v := 99) dX8_wrongPairs_74 (by decide) ?_
        refine zk_callSI (pc := 76) dX8_wrongPairs_76 mtX8_in lkX8_66 stX8_in [_, _, _] _ rfl rfl (Nat.le_of_ble_eq_true rfl) (Nat.le_of_ble_eq_true rfl) (sp_X8_in _ _ _) ?_
        refine zk_if_eq (pc := 79) 86 dX8_wrongPairs_79 (by decide) (fun h79 => ?_) (fun h79 => ?_)
        · rw [zb_e] at h79
          refine zk_iconst (pc := 86) (v := 0) dX8_wrongPairs_86 (by decide) ?_
          refine zs_istore_n (pc := 87) (ls' := [_, _, _, _]) 2 dX8_wrongPairs_87 rfl (by decide) rfl ?_
          refine zs_iinc (pc := 88) (ls' := [_, _, _, _]) dX8_wrongPairs_88 rfl (nI_1 i) (by decide) rfl ?_
          refine zk_goto (pc := 91) 48 dX8_wrongPairs_91 (by decide) ?_
          have e := ih (by omega)
          first
            | (rw [zal_1 h59] at e; exact e)
            | (rw [zal_2 (fun z => h79 (of_decide_eq_true z))] at e; exact e)
            | (rw [zal_3 h59 (decide_eq_true h79)] at e; exact e)
        · rw [zb_n] at h79
          refine zk_iconst (pc := 82) (v := 1) dX8_wrongPairs_82 (by decide) ?_
          refine zk_goto (pc := 83) 87 dX8_wrongPairs_83 (by decide) ?_
          refine zs_istore_n (pc := 87) (ls' := [_, _, _, _]) 2 dX8_wrongPairs_87 rfl (by decide) rfl ?_
          refine zs_iinc (pc := 88) (ls' := [_, _, _, _]) dX8_wrongPairs_88 rfl (nI_1 i) (by decide) rfl ?_
          refine zk_goto (pc := 91) 48 dX8_wrongPairs_91 (by decide) ?_
          have e := ih (by omega)
          first
            | (rw [zal_1 h59] at e; exact e)
            | (rw [zal_2 (fun z => h79 (of_decide_eq_true z))] at e; exact e)
            | (rw [zal_3 h59 (decide_eq_true h79)] at e; exact e)
  refine zk_aload_n (pc := 0) 0 dX8_wrongPairs_0 rfl rfl ?_
  refine zk_getR (pc := 1) dX8_wrongPairs_1 flX8_7 rfl rfl ?_
  refine zk_iload_n (pc := 4) 1 dX8_wrongPairs_4 rfl rfl ?_
  refine zk_iaload (pc := 5) k dX8_wrongPairs_5 rfl rfl hk ?_
  refine zk_if_ge (pc := 6) 15 dX8_wrongPairs_6 (by decide) (fun h6 => ?_) (fun h6 => ?_)
  · obtain ⟨n, hn, hs⟩ : ∃ n, n ≤ 40 ∧ mu 47 k = nI n := by
      rcases hz with z | z
      · rw [z] at h6; exact absurd h6 (by decide)
      · exact z
    refine zk_aload_n (pc := 15) 0 dX8_wrongPairs_15 rfl rfl ?_
    refine zk_getR (pc := 16) dX8_wrongPairs_16 flX8_7 rfl rfl ?_
    refine zk_iload_n (pc := 19) 1 dX8_wrongPairs_19 rfl rfl ?_
    refine zk_iaload (pc := 20) k dX8_wrongPairs_20 rfl rfl hk ?_
    refine zk_iconst (pc := 21) (v := 2) dX8_wrongPairs_21 (by decide) ?_
    refine zk_irem (pc := 22) dX8_wrongPairs_22 (by decide) ?_
    rw [hs, show (2 : Int32) = nI 2 from rfl, pk_rem (by omega) (by decide) (by decide)]
    refine zk_iconst (pc := 23) (v := 1) dX8_wrongPairs_23 (by decide) ?_
    refine zk_icmp_eq (pc := 24) 38 dX8_wrongPairs_24 (by decide) (fun h24 => ?_) (fun h24 => ?_)
    · rw [show (1 : Int32) = nI 1 from rfl, nIeq (by omega) (by decide)] at h24
      refine zk_aload_n (pc := 38) 0 dX8_wrongPairs_38 rfl rfl ?_
      refine zk_iconst (pc := 39) (v := 5) dX8_wrongPairs_39 (by decide) ?_
      refine zk_callVI (pc := 40) dX8_wrongPairs_40 mtX8_finds lkX8_73 stX8_finds (by rfl) (by rfl) [_] _ rfl rfl (Nat.le_of_ble_eq_true rfl) (Nat.le_of_ble_eq_true rfl) (sp_X8_finds (f := 5) (by decide)) ?_
      refine zk_ireturn (pc := 43) dX8_wrongPairs_43 (Or.inl rfl) (zk_pr ?_)
      unfold mrfN
      rw [if_pos h6, hs, nI_clamp (by omega), if_neg (by omega)]
    · rw [show (1 : Int32) = nI 1 from rfl, nIeq (by omega) (by decide)] at h24
      refine zk_aload_n (pc := 27) 0 dX8_wrongPairs_27 rfl rfl ?_
      refine zk_getR (pc := 28) dX8_wrongPairs_28 flX8_7 rfl rfl ?_
      refine zk_iload_n (pc := 31) 1 dX8_wrongPairs_31 rfl rfl ?_
      refine zk_iaload (pc := 32) k dX8_wrongPairs_32 rfl rfl hk ?_
      refine zk_bipush (pc := 33) (v := 16) dX8_wrongPairs_33 (by decide) ?_
      refine zk_icmp_le (pc := 35) 44 dX8_wrongPairs_35 (by decide) (fun h35 => ?_) (fun h35 => ?_)
      · rw [hs, show (16 : Int32) = nI 16 from rfl, nIle (by omega) (by omega)] at h35
        refine zk_iconst (pc := 44) (v := 1) dX8_wrongPairs_44 (by decide) ?_
        refine zs_istore_n (pc := 45) (ls' := [_, _, _, _]) 2 dX8_wrongPairs_45 rfl (by decide) rfl ?_
        refine zk_iconst (pc := 46) (v := 0) dX8_wrongPairs_46 (by decide) ?_
        refine zs_istore_n (pc := 47) (ls' := [_, _, _, _]) 3 dX8_wrongPairs_47 rfl (by decide) rfl ?_
        have e := loop n h35 (by omega) hs 0 (Nat.zero_le _)
        rw [zall_z] at e
        exact e
      · rw [hs, show (16 : Int32) = nI 16 from rfl, nIle (by omega) (by omega)] at h35
        refine zk_aload_n (pc := 38) 0 dX8_wrongPairs_38 rfl rfl ?_
        refine zk_iconst (pc := 39) (v := 5) dX8_wrongPairs_39 (by decide) ?_
        refine zk_callVI (pc := 40) dX8_wrongPairs_40 mtX8_finds lkX8_73 stX8_finds (by rfl) (by rfl) [_] _ rfl rfl (Nat.le_of_ble_eq_true rfl) (Nat.le_of_ble_eq_true rfl) (sp_X8_finds (f := 5) (by decide)) ?_
        refine zk_ireturn (pc := 43) dX8_wrongPairs_43 (Or.inl rfl) (zk_pr ?_)
        unfold mrfN
        rw [if_pos h6, hs, nI_clamp (by omega), if_neg (by omega)]
  · skip
    refine zk_aload_n (pc := 9) 0 dX8_wrongPairs_9 rfl rfl ?_
    refine zk_iconst (pc := 10) (v := 1) dX8_wrongPairs_10 (by decide) ?_
    refine zk_callVI (pc := 11) dX8_wrongPairs_11 mtX8_finds lkX8_73 stX8_finds (by rfl) (by rfl) [_] _ rfl rfl (Nat.le_of_ble_eq_true rfl) (Nat.le_of_ble_eq_true rfl) (sp_X8_finds (f := 1) (by decide)) ?_
    refine zk_ireturn (pc := 14) dX8_wrongPairs_14 (Or.inl rfl) (zk_pr ?_)
    unfold mrfN
    rw [if_neg h6]
def mtOk (mu : Mem) (k h : Nat) : Prop := mu 47 k = nI (2 * h) ∧ h ≤ 8 ∧ zall (inP (itF mu k) 99) (2 * h) 0 = true
theorem mtOk_of {mu : Mem} {k : Nat} (hz : zSz (mu 47 k) 40) (h : (mrfN mu k).1 = 0) : ∃ h, mtOk mu k h := by
  unfold mrfN at h
  split at h
  · next h0 =>
    rcases hz with z | ⟨n, hn, hs⟩
    · rw [z] at h0; exact absurd h0 (by decide)
    · rw [hs, nI_clamp (by omega)] at h
      split at h
      · next h1 =>
        split at h
        · next h2 => exact ⟨n / 2, by rw [show 2 * (n / 2) = n by omega]; exact hs, by omega, by rw [show 2 * (n / 2) = n by omega]; exact h2⟩
        · exact absurd h (show ¬ (-3 : Int32) = 0 by decide)
      · exact absurd h (show ¬ (-3 : Int32) = 0 by decide)
  · exact absurd h (show ¬ (-3 : Int32) = 0 by decide)
theorem mtOk_rf {mu : Mem} {k h : Nat} (ho : mtOk mu k h) : mrfN mu k = (0, mu) := by
  obtain ⟨h1, h2, h3⟩ := ho
  unfold mrfN
  rw [if_pos (by rw [h1]; exact nI_pos' (by omega)), h1, nI_clamp (by omega), if_pos (by omega), if_pos h3]
theorem sp_X8_saidSo {k h : Nat} (hk : k < 6) (ho : mtOk mu k h) (kd : Int32) : zk_M (d + 1) RX8 cX8_saidSo 5 (some .boolean) none 0 (zk_loc [.ref 46, .int (nI k), .int kd] 5) [] mu lm (zk_R (some (.int (zb (zall (fitP (itF mu k) kd) h 0 = true)))) mu lm) := by
  obtain ⟨hs, h8, -⟩ := ho
  have loop : ∀ t, t ≤ h → zk_M (d + 1) RX8 cX8_saidSo 5 (some .boolean) none 5 [.ref 46, .int (nI k), .int kd, .int (zb (zall (fitP (itF mu k) kd) t 0 = true)), .int (nI (2 * t))] [] mu lm (zk_R (some (.int (zb (zall (fitP (itF mu k) kd) h 0 = true)))) mu lm) := by
    refine zk_ind h (fun t ht ih => ?_)
    refine zk_iload (pc := 5) dX8_saidSo_5 rfl ?_
    refine zk_aload_n (pc := 7) 0 dX8_saidSo_7 rfl rfl ?_
    refine zk_getR (pc := 8) dX8_saidSo_8 flX8_7 rfl rfl ?_
    refine zk_iload_n (pc := 11) 1 dX8_saidSo_11 rfl rfl ?_
    refine zk_iaload (pc := 12) k dX8_saidSo_12 rfl rfl hk ?_
    refine zk_icmp_ge (pc := 13) 65 dX8_saidSo_13 (by decide) (fun h13 => ?_) (fun h13 => ?_)
    · rw [hs, nIle (by omega) (by omega)] at h13
      refine zk_iload_n (pc := 65) 3 dX8_saidSo_65 rfl rfl ?_
      refine zk_ireturn (pc := 66) dX8_saidSo_66 (Or.inr ⟨rfl, zb_01⟩) (zk_ri ?_)
      rw [show t = h by omega]
    · rw [hs, nIle (by omega) (by omega)] at h13
      refine zk_iload_n (pc := 16) 3 dX8_saidSo_16 rfl rfl ?_
      refine zk_if_eq (pc := 17) 57 dX8_saidSo_17 (by decide) (fun h17 => ?_) (fun h17 => ?_)
      · rw [zb_e] at h17
        refine zk_iconst (pc := 57) (v := 0) dX8_saidSo_57 (by decide) ?_
        refine zs_istore_n (pc := 58) (ls' := [_, _, _, _, _]) 3 dX8_saidSo_58 rfl (by decide) rfl ?_
        refine zs_iinc (pc := 59) (ls' := [_, _, _, _, _]) dX8_saidSo_59 rfl (show nI (2 * t) + Int32.ofInt 2 = nI (2 * (t + 1)) from nI_add _ 2) (by decide) rfl ?_
        refine zk_goto (pc := 62) 5 dX8_saidSo_62 (by decide) ?_
        have e := ih (by omega)
        first
          | (rw [zal_1 h17] at e; exact e)
          | (rw [zal_2 (fun z => h50 (of_decide_eq_true z))] at e; exact e)
          | (rw [zal_3 h17 (decide_eq_true h50)] at e; exact e)
      · rw [zb_n] at h17
        refine zk_iload_n (pc := 20) 2 dX8_saidSo_20 rfl rfl ?_
        refine zk_aload_n (pc := 21) 0 dX8_saidSo_21 rfl rfl ?_
        refine zk_getR (pc := 22) dX8_saidSo_22 flX8_13 rfl rfl ?_
        refine zk_bipush (pc := 25) (v := 40) dX8_saidSo_25 (by decide) ?_
        refine zk_iload_n (pc := 27) 1 dX8_saidSo_27 rfl rfl ?_
        refine zk_imul (pc := 28) dX8_saidSo_28 ?_
        refine zk_iload (pc := 29) dX8_saidSo_29 rfl ?_
        refine zk_iadd (pc := 31) dX8_saidSo_31 ?_
        refine zk_iaload (pc := 32) (40 * k + 2 * t) dX8_saidSo_32 rfl (by rw [show (40 : Int32) = nI 40 from rfl, pk_mul, nI_add]) (by omega) ?_
        refine zk_callSI (pc := 33) dX8_saidSo_33 mtX8_saysBy lkX8_140 stX8_saysBy [_, _] _ rfl rfl (Nat.le_of_ble_eq_true rfl) (Nat.le_of_ble_eq_true rfl) (sp_X8_saysBy _ _) ?_
        refine zk_aload_n (pc := 36) 0 dX8_saidSo_36 rfl rfl ?_
        refine zk_getR (pc := 37) dX8_saidSo_37 flX8_13 rfl rfl ?_
        refine zk_bipush (pc := 40) (v := 40) dX8_saidSo_40 (by decide) ?_
        refine zk_iload_n (pc := 42) 1 dX8_saidSo_42 rfl rfl ?_
        refine zk_imul (pc := 43) dX8_saidSo_43 ?_
        refine zk_iload (pc := 44) dX8_saidSo_44 rfl ?_
        refine zk_iadd (pc := 46) dX8_saidSo_46 ?_
        refine zk_iconst (pc := 47) (v := 1) dX8_saidSo_47 (by decide) ?_
        refine zk_iadd (pc := 48) dX8_saidSo_48 ?_
        refine zk_iaload (pc := 49) (40 * k + (2 * t + 1)) dX8_saidSo_49 rfl (by rw [show (40 : Int32) = nI 40 from rfl, pk_mul, nI_add, nI_1]; rfl) (by omega) ?_
        refine zk_icmp_ne (pc := 50) 57 dX8_saidSo_50 (by decide) (fun h50 => ?_) (fun h50 => ?_)
        · skip
          refine zk_iconst (pc := 57) (v := 0) dX8_saidSo_57 (by decide) ?_
          refine zs_istore_n (pc := 58) (ls' := [_, _, _, _, _]) 3 dX8_saidSo_58 rfl (by decide) rfl ?_
          refine zs_iinc (pc := 59) (ls' := [_, _, _, _, _]) dX8_saidSo_59 rfl (show nI (2 * t) + Int32.ofInt 2 = nI (2 * (t + 1)) from nI_add _ 2) (by decide) rfl ?_
          refine zk_goto (pc := 62) 5 dX8_saidSo_62 (by decide) ?_
          have e := ih (by omega)
          first
            | (rw [zal_1 h17] at e; exact e)
            | (rw [zal_2 (fun z => h50 (of_decide_eq_true z))] at e; exact e)
            | (rw [zal_3 h17 (decide_eq_true h50)] at e; exact e)
        · skip
          refine zk_iconst (pc := 53) (v := 1) dX8_saidSo_53 (by decide) ?_
          refine zk_goto (pc := 54) 58 dX8_saidSo_54 (by decide) ?_
          refine zs_istore_n (pc := 58) (ls' := [_, _, _, _, _]) 3 dX8_saidSo_58 rfl (by decide) rfl ?_
          refine zs_iinc (pc := 59) (ls' := [_, _, _, _, _]) dX8_saidSo_59 rfl (show nI (2 * t) + Int32.ofInt 2 = nI (2 * (t + 1)) from nI_add _ 2) (by decide) rfl ?_
          refine zk_goto (pc := 62) 5 dX8_saidSo_62 (by decide) ?_
          have e := ih (by omega)
          first
            | (rw [zal_1 h17] at e; exact e)
            | (rw [zal_2 (fun z => h50 (of_decide_eq_true z))] at e; exact e)
            | (rw [zal_3 h17 (decide_eq_true h50)] at e; exact e)
  refine zk_iconst (pc := 0) (v := 1) dX8_saidSo_0 (by decide) ?_
  refine zs_istore_n (pc := 1) (ls' := [_, _, _, _, _]) 3 dX8_saidSo_1 rfl (by decide) rfl ?_
  refine zk_iconst (pc := 2) (v := 0) dX8_saidSo_2 (by decide) ?_
  refine zs_istore (pc := 3) (ls' := [_, _, _, _, _]) 4 dX8_saidSo_3 (by decide) rfl ?_
  have e := loop 0 (Nat.zero_le _)
  rw [zall_z] at e
  exact e
def kFitG (f : Nat → Int32) (h : Nat) : Int32 := zor 6 (fun k => if zall (fitP f (nI k)) h 0 = true then 1 <<< (nI k &&& 31) else 0)
theorem kFit_G (mu : Mem) (p h : Nat) : kFit mu p h = kFitG (mu p) h := rfl
theorem sp_X8_kindsBy {k h : Nat} (hk : k < 6) (ho : mtOk mu k h) : zk_M (d + 2) RX8 cX8_kindsBy 4 (some .int) none 0 (zk_loc [.ref 46, .int (nI k)] 4) [] mu lm (zk_R (some (.int (kFitG (itF mu k) h))) mu lm) := by
  have loop : ∀ q, q ≤ 6 → zk_M (d + 2) RX8 cX8_kindsBy 4 (some .int) none 4 [.ref 46, .int (nI k), .int (zor q (fun k1 => if zall (fitP (itF mu k) (nI k1)) h 0 = true then 1 <<< (nI k1 &&& 31) else 0)), .int (nI q)] [] mu lm (zk_R (some (.int (kFitG (itF mu k) h))) mu lm) := by
    refine zk_ind 6 (fun q hq ih => ?_)
    refine zk_iload_n (pc := 4) 3 dX8_kindsBy_4 rfl rfl ?_
    refine zk_bipush (pc := 5) (v := 6) dX8_kindsBy_5 (by decide) ?_
    refine zk_icmp_ge (pc := 7) 35 dX8_kindsBy_7 (by decide) (fun h7 => ?_) (fun h7 => ?_)
    · rw [show (6 : Int32) = nI 6 from rfl, nIle (by omega) (by omega)] at h7
      refine zk_iload_n (pc := 35) 2 dX8_kindsBy_35 rfl rfl ?_
      refine zk_ireturn (pc := 36) dX8_kindsBy_36 (Or.inl rfl) (zk_ri ?_)
      rw [show q = 6 by omega]; rfl
    · rw [show (6 : Int32) = nI 6 from rfl, nIle (by omega) (by omega)] at h7
      refine zk_iload_n (pc := 10) 2 dX8_kindsBy_10 rfl rfl ?_
      refine zk_aload_n (pc := 11) 0 dX8_kindsBy_11 rfl rfl ?_
      refine zk_iload_n (pc := 12) 1 dX8_kindsBy_12 rfl rfl ?_
      refine zk_iload_n (pc := 13) 3 dX8_kindsBy_13 rfl rfl ?_
      refine zk_callVI (pc := 14) dX8_kindsBy_14 mtX8_saidSo lkX8_210 stX8_saidSo (by rfl) (by rfl) [_, _] _ rfl rfl (Nat.le_of_ble_eq_true rfl) (Nat.le_of_ble_eq_true rfl) (sp_X8_saidSo hk ho _) ?_
      refine zk_if_eq (pc := 17) 26 dX8_kindsBy_17 (by decide) (fun h17 => ?_) (fun h17 => ?_)
      · rw [zb_e] at h17
        refine zk_iconst (pc := 26) (v := 0) dX8_kindsBy_26 (by decide) ?_
        refine zk_ior (pc := 27) dX8_kindsBy_27 ?_
        refine zs_istore_n (pc := 28) (ls' := [_, _, _, _]) 2 dX8_kindsBy_28 rfl (by decide) rfl ?_
        refine zs_iinc (pc := 29) (ls' := [_, _, _, _]) dX8_kindsBy_29 rfl (nI_1 q) (by decide) rfl ?_
        refine zk_goto (pc := 32) 4 dX8_kindsBy_32 (by decide) ?_
        have e := ih (by omega)
        rw [zor_s] at e
        first | (rw [if_neg h17] at e; exact e) | (rw [if_pos h17] at e; exact e)
      · rw [zb_n] at h17
        refine zk_iconst (pc := 20) (v := 1) dX8_kindsBy_20 (by decide) ?_
        refine zk_iload_n (pc := 21) 3 dX8_kindsBy_21 rfl rfl ?_
        refine zk_ishl (pc := 22) dX8_kindsBy_22 ?_
        refine zk_goto (pc := 23) 27 dX8_kindsBy_23 (by decide) ?_
        refine zk_ior (pc := 27) dX8_kindsBy_27 ?_
        refine zs_istore_n (pc := 28) (ls' := [_, _, _, _]) 2 dX8_kindsBy_28 rfl (by decide) rfl ?_
        refine zs_iinc (pc := 29) (ls' := [_, _, _, _]) dX8_kindsBy_29 rfl (nI_1 q) (by decide) rfl ?_
        refine zk_goto (pc := 32) 4 dX8_kindsBy_32 (by decide) ?_
        have e := ih (by omega)
        rw [zor_s] at e
        first | (rw [if_neg h17] at e; exact e) | (rw [if_pos h17] at e; exact e)
  refine zk_iconst (pc := 0) (v := 0) dX8_kindsBy_0 (by decide) ?_
  refine zs_istore_n (pc := 1) (ls' := [_, _, _, _]) 2 dX8_kindsBy_1 rfl (by decide) rfl ?_
  refine zk_iconst (pc := 2) (v := 0) dX8_kindsBy_2 (by decide) ?_
  refine zs_istore_n (pc := 3) (ls' := [_, _, _, _]) 3 dX8_kindsBy_3 rfl (by decide) rfl ?_
  exact loop 0 (Nat.zero_le _)
theorem sp_X8_who_f {k : Nat} (hk : k < 6) (hz : zSz (mu 47 k) 40) (hrf : ¬ (mrfN mu k).1 = 0) : zk_M (d + 2) RX8 cX8_who 4 (some .int) none 0 (zk_loc [.ref 46, .int (nI k)] 4) [] mu lm (zk_R (some (.int (-3))) (mrfN mu k).2 lm) := by
  refine zk_iload_n (pc := 0) 1 dX8_who_0 rfl rfl ?_
  refine zk_iconst (pc := 1) (v := 0) dX8_who_1 (by decide) ?_
  refine zk_iconst (pc := 2) (v := 5) dX8_who_2 (by decide) ?_
  refine zk_callSI (pc := 3) dX8_who_3 mtX8_in lkX8_66 stX8_in [_, _, _] _ rfl rfl (Nat.le_of_ble_eq_true rfl) (Nat.le_of_ble_eq_true rfl) (sp_X8_in _ _ _) ?_
  refine zk_if_ne (pc := 6) 11 dX8_who_6 (by decide) (fun h6 => ?_) (fun h6 => ?_)
  · skip
    refine zk_aload_n (pc := 11) 0 dX8_who_11 rfl rfl ?_
    refine zk_iload_n (pc := 12) 1 dX8_who_12 rfl rfl ?_
    refine zk_callVI (pc := 13) dX8_who_13 mtX8_wrongPairs lkX8_213 stX8_wrongPairs (by rfl) (by rfl) [_] _ rfl rfl (Nat.le_of_ble_eq_true rfl) (Nat.le_of_ble_eq_true rfl) (sp_X8_wrongPairs hk hz) ?_
    refine zk_if_eq (pc := 16) 22 dX8_who_16 (by decide) (fun h16 => ?_) (fun h16 => ?_)
    · exact absurd h16 hrf --
    · skip
      refine zk_bipush (pc := 19) (v := -3) dX8_who_19 (by decide) ?_
      exact zk_ireturn (pc := 21) dX8_who_21 (Or.inl rfl) ⟨rfl, rfl, rfl⟩
  · rw [zb_e] at h6
    exact absurd (show (0 : Int32) ≤ nI k ∧ nI k ≤ 5 from ⟨nI_pos' (by omega), show nI k ≤ nI 5 from nI_le (by omega) (by decide)⟩) h6 --
theorem sp_X8_kinds_f {k : Nat} (hk : k < 6) (hz : zSz (mu 47 k) 40) (hrf : ¬ (mrfN mu k).1 = 0) : zk_M (d + 2) RX8 cX8_kinds 2 (some .int) none 0 (zk_loc [.ref 46, .int (nI k)] 2) [] mu lm (zk_R (some (.int (-3))) (mrfN mu k).2 lm) := by
  refine zk_iload_n (pc := 0) 1 dX8_kinds_0 rfl rfl ?_
  refine zk_iconst (pc := 1) (v := 0) dX8_kinds_1 (by decide) ?_
  refine zk_iconst (pc := 2) (v := 5) dX8_kinds_2 (by decide) ?_
  refine zk_callSI (pc := 3) dX8_kinds_3 mtX8_in lkX8_66 stX8_in [_, _, _] _ rfl rfl (Nat.le_of_ble_eq_true rfl) (Nat.le_of_ble_eq_true rfl) (sp_X8_in _ _ _) ?_
  refine zk_if_ne (pc := 6) 11 dX8_kinds_6 (by decide) (fun h6 => ?_) (fun h6 => ?_)
  · skip
    refine zk_aload_n (pc := 11) 0 dX8_kinds_11 rfl rfl ?_
    refine zk_iload_n (pc := 12) 1 dX8_kinds_12 rfl rfl ?_
    refine zk_callVI (pc := 13) dX8_kinds_13 mtX8_wrongPairs lkX8_213 stX8_wrongPairs (by rfl) (by rfl) [_] _ rfl rfl (Nat.le_of_ble_eq_true rfl) (Nat.le_of_ble_eq_true rfl) (sp_X8_wrongPairs hk hz) ?_
    refine zk_if_eq (pc := 16) 24 dX8_kinds_16 (by decide) (fun h16 => ?_) (fun h16 => ?_)
    · exact absurd h16 hrf --
    · skip
      refine zk_bipush (pc := 19) (v := -3) dX8_kinds_19 (by decide) ?_
      refine zk_goto (pc := 21) 29 dX8_kinds_21 (by decide) ?_
      exact zk_ireturn (pc := 29) dX8_kinds_29 (Or.inl rfl) ⟨rfl, rfl, rfl⟩
  · rw [zb_e] at h6
    exact absurd (show (0 : Int32) ≤ nI k ∧ nI k ≤ 5 from ⟨nI_pos' (by omega), show nI k ≤ nI 5 from nI_le (by omega) (by decide)⟩) h6 --
theorem sp_X8_test_f {k : Nat} (hk : k < 6) (hz : zSz (mu 47 k) 40) (hrf : ¬ (mrfN mu k).1 = 0) : zk_M (d + 2) RX8 cX8_test 10 (some .int) none 0 (zk_loc [.ref 46, .int (nI k)] 10) [] mu lm (zk_R (some (.int (-3))) (mrfN mu k).2 lm) := by
  refine zk_iload_n (pc := 0) 1 dX8_test_0 rfl rfl ?_
  refine zk_iconst (pc := 1) (v := 0) dX8_test_1 (by decide) ?_
  refine zk_iconst (pc := 2) (v := 5) dX8_test_2 (by decide) ?_
  refine zk_callSI (pc := 3) dX8_test_3 mtX8_in lkX8_66 stX8_in [_, _, _] _ rfl rfl (Nat.le_of_ble_eq_true rfl) (Nat.le_of_ble_eq_true rfl) (sp_X8_in _ _ _) ?_
  refine zk_if_ne (pc := 6) 11 dX8_test_6 (by decide) (fun h6 => ?_) (fun h6 => ?_)
  · skip
    refine zk_aload_n (pc := 11) 0 dX8_test_11 rfl rfl ?_
    refine zk_iload_n (pc := 12) 1 dX8_test_12 rfl rfl ?_
    refine zk_callVI (pc := 13) dX8_test_13 mtX8_wrongPairs lkX8_213 stX8_wrongPairs (by rfl) (by rfl) [_] _ rfl rfl (Nat.le_of_ble_eq_true rfl) (Nat.le_of_ble_eq_true rfl) (sp_X8_wrongPairs hk hz) ?_
    refine zk_if_eq (pc := 16) 22 dX8_test_16 (by decide) (fun h16 => ?_) (fun h16 => ?_)
    · exact absurd h16 hrf --
    · skip
      refine zk_bipush (pc := 19) (v := -3) dX8_test_19 (by decide) ?_
      exact zk_ireturn (pc := 21) dX8_test_21 (Or.inl rfl) ⟨rfl, rfl, rfl⟩
  · rw [zb_e] at h6
    exact absurd (show (0 : Int32) ≤ nI k ∧ nI k ≤ 5 from ⟨nI_pos' (by omega), show nI k ≤ nI 5 from nI_le (by omega) (by decide)⟩) h6 --
theorem sp_X8_who {C M : Nat} (hC : mu 46 17 = nI C) (hC8 : C ≤ 8) (hM : mu 46 18 = nI M) (hM6 : M ≤ 6) {k h : Nat} (hk : k < 6) (hz : zSz (mu 47 k) 40) (ho : mtOk mu k h) : zk_M (d + 3) RX8 cX8_who 4 (some .int) none 0 (zk_loc [.ref 46, .int (nI k)] 4) [] mu lm (zk_R (some (.int (zbt (fun i => zall (fitP (itF mu k) (mu 53 i)) h 0) M))) mu lm) := by
  have loop : ∀ q, q ≤ M → zk_M (d + 3) RX8 cX8_who 4 (some .int) none 26 [.ref 46, .int (nI k), .int (zbt (fun i => zall (fitP (itF mu k) (mu 53 i)) h 0) q), .int (nI q)] [] mu lm (zk_R (some (.int (zbt (fun i => zall (fitP (itF mu k) (mu 53 i)) h 0) M))) mu lm) := by
    refine zk_ind M (fun q hq ih => ?_)
    refine zk_iload_n (pc := 26) 3 dX8_who_26 rfl rfl ?_
    refine zk_aload_n (pc := 27) 0 dX8_who_27 rfl rfl ?_
    refine zk_getI (pc := 28) dX8_who_28 flX8_63 rfl rfl ?_
    refine zk_icmp_ge (pc := 31) 64 dX8_who_31 (by decide) (fun h31 => ?_) (fun h31 => ?_)
    · rw [hM, nIle (by omega) (by omega)] at h31
      refine zk_iload_n (pc := 64) 2 dX8_who_64 rfl rfl ?_
      refine zk_ireturn (pc := 65) dX8_who_65 (Or.inl rfl) (zk_ri ?_)
      rw [show q = M by omega]
    · rw [hM, nIle (by omega) (by omega)] at h31
      refine zk_iload_n (pc := 34) 2 dX8_who_34 rfl rfl ?_
      refine zk_aload_n (pc := 35) 0 dX8_who_35 rfl rfl ?_
      refine zk_iload_n (pc := 36) 1 dX8_who_36 rfl rfl ?_
      refine zk_aload_n (pc := 37) 0 dX8_who_37 rfl rfl ?_
      refine zk_getR (pc := 38) dX8_who_38 flX8_32 rfl rfl ?_
      refine zk_iload_n (pc := 41) 3 dX8_who_41 rfl rfl ?_
      refine zk_iaload (pc := 42) q dX8_who_42 rfl rfl (by omega) ?_
      refine zk_callVI (pc := 43) dX8_who_43 mtX8_saidSo lkX8_210 stX8_saidSo (by rfl) (by rfl) [_, _] _ rfl rfl (Nat.le_of_ble_eq_true rfl) (Nat.le_of_ble_eq_true rfl) (sp_X8_saidSo hk ho _) ?_
      refine zk_if_eq (pc := 46) 55 dX8_who_46 (by decide) (fun h46 => ?_) (fun h46 => ?_)
      · rw [zb_e] at h46
        refine zk_iconst (pc := 55) (v := 0) dX8_who_55 (by decide) ?_
        refine zk_ior (pc := 56) dX8_who_56 ?_
        refine zs_istore_n (pc := 57) (ls' := [_, _, _, _]) 2 dX8_who_57 rfl (by decide) rfl ?_
        refine zs_iinc (pc := 58) (ls' := [_, _, _, _]) dX8_who_58 rfl (nI_1 q) (by decide) rfl ?_
        refine zk_goto (pc := 61) 26 dX8_who_61 (by decide) ?_
        have e := ih (by omega)
        rw [zbt_s] at e
        first | (rw [if_neg h46] at e; exact e) | (rw [if_pos h46] at e; exact e)
      · rw [zb_n] at h46
        refine zk_iconst (pc := 49) (v := 1) dX8_who_49 (by decide) ?_
        refine zk_iload_n (pc := 50) 3 dX8_who_50 rfl rfl ?_
        refine zk_ishl (pc := 51) dX8_who_51 ?_
        refine zk_goto (pc := 52) 56 dX8_who_52 (by decide) ?_
        refine zk_ior (pc := 56) dX8_who_56 ?_
        refine zs_istore_n (pc := 57) (ls' := [_, _, _, _]) 2 dX8_who_57 rfl (by decide) rfl ?_
        refine zs_iinc (pc := 58) (ls' := [_, _, _, _]) dX8_who_58 rfl (nI_1 q) (by decide) rfl ?_
        refine zk_goto (pc := 61) 26 dX8_who_61 (by decide) ?_
        have e := ih (by omega)
        rw [zbt_s] at e
        first | (rw [if_neg h46] at e; exact e) | (rw [if_pos h46] at e; exact e)
  refine zk_iload_n (pc := 0) 1 dX8_who_0 rfl rfl ?_
  refine zk_iconst (pc := 1) (v := 0) dX8_who_1 (by decide) ?_
  refine zk_iconst (pc := 2) (v := 5) dX8_who_2 (by decide) ?_
  refine zk_callSI (pc := 3) dX8_who_3 mtX8_in lkX8_66 stX8_in [_, _, _] _ rfl rfl (Nat.le_of_ble_eq_true rfl) (Nat.le_of_ble_eq_true rfl) (sp_X8_in _ _ _) ?_
  refine zk_if_ne (pc := 6) 11 dX8_who_6 (by decide) (fun h6 => ?_) (fun h6 => ?_)
  · skip
    refine zk_aload_n (pc := 11) 0 dX8_who_11 rfl rfl ?_
    refine zk_iload_n (pc := 12) 1 dX8_who_12 rfl rfl ?_
    refine zk_callVI (pc := 13) dX8_who_13 mtX8_wrongPairs lkX8_213 stX8_wrongPairs (by rfl) (by rfl) [_] _ rfl rfl (Nat.le_of_ble_eq_true rfl) (Nat.le_of_ble_eq_true rfl) (sp_X8_wrongPairs hk hz) ?_
    refine zk_if_eq (pc := 16) 22 dX8_who_16 (by decide) (fun h16 => ?_) (fun h16 => ?_)
    · rw [mtOk_rf ho]
      refine zk_iconst (pc := 22) (v := 0) dX8_who_22 (by decide) ?_
      refine zs_istore_n (pc := 23) (ls' := [_, _, _, _]) 2 dX8_who_23 rfl (by decide) rfl ?_
      refine zk_iconst (pc := 24) (v := 0) dX8_who_24 (by decide) ?_
      refine zs_istore_n (pc := 25) (ls' := [_, _, _, _]) 3 dX8_who_25 rfl (by decide) rfl ?_
      exact loop 0 (Nat.zero_le _)
    · exact absurd (by rw [mtOk_rf ho]) h16 --
  · rw [zb_e] at h6
    exact absurd (show (0 : Int32) ≤ nI k ∧ nI k ≤ 5 from ⟨nI_pos' (by omega), show nI k ≤ nI 5 from nI_le (by omega) (by decide)⟩) h6 --
theorem sp_X8_kinds {k h : Nat} (hk : k < 6) (hz : zSz (mu 47 k) 40) (ho : mtOk mu k h) : zk_M (d + 3) RX8 cX8_kinds 2 (some .int) none 0 (zk_loc [.ref 46, .int (nI k)] 2) [] mu lm (zk_R (some (.int (kFitG (itF mu k) h))) mu lm) := by
  refine zk_iload_n (pc := 0) 1 dX8_kinds_0 rfl rfl ?_
  refine zk_iconst (pc := 1) (v := 0) dX8_kinds_1 (by decide) ?_
  refine zk_iconst (pc := 2) (v := 5) dX8_kinds_2 (by decide) ?_
  refine zk_callSI (pc := 3) dX8_kinds_3 mtX8_in lkX8_66 stX8_in [_, _, _] _ rfl rfl (Nat.le_of_ble_eq_true rfl) (Nat.le_of_ble_eq_true rfl) (sp_X8_in _ _ _) ?_
  refine zk_if_ne (pc := 6) 11 dX8_kinds_6 (by decide) (fun h6 => ?_) (fun h6 => ?_)
  · skip
    refine zk_aload_n (pc := 11) 0 dX8_kinds_11 rfl rfl ?_
    refine zk_iload_n (pc := 12) 1 dX8_kinds_12 rfl rfl ?_
    refine zk_callVI (pc := 13) dX8_kinds_13 mtX8_wrongPairs lkX8_213 stX8_wrongPairs (by rfl) (by rfl) [_] _ rfl rfl (Nat.le_of_ble_eq_true rfl) (Nat.le_of_ble_eq_true rfl) (sp_X8_wrongPairs hk hz) ?_
    refine zk_if_eq (pc := 16) 24 dX8_kinds_16 (by decide) (fun h16 => ?_) (fun h16 => ?_)
    · rw [mtOk_rf ho]
      refine zk_aload_n (pc := 24) 0 dX8_kinds_24 rfl rfl ?_
      refine zk_iload_n (pc := 25) 1 dX8_kinds_25 rfl rfl ?_
      refine zk_callVI (pc := 26) dX8_kinds_26 mtX8_kindsBy lkX8_216 stX8_kindsBy (by rfl) (by rfl) [_] _ rfl rfl (Nat.le_of_ble_eq_true rfl) (Nat.le_of_ble_eq_true rfl) (sp_X8_kindsBy hk ho) ?_
      exact zk_ireturn (pc := 29) dX8_kinds_29 (Or.inl rfl) (zk_ri rfl)
    · exact absurd (by rw [mtOk_rf ho]) h16 --
  · rw [zb_e] at h6
    exact absurd (show (0 : Int32) ≤ nI k ∧ nI k ≤ 5 from ⟨nI_pos' (by omega), show nI k ≤ nI 5 from nI_le (by omega) (by decide)⟩) h6 --
end M51
