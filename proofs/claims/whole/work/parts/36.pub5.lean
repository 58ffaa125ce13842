section M36
variable {d : Nat} {mu : Mem} {lm : MemL}
theorem zsz_or {x : Int32} {N : Nat} (h : zSz x N) : ¬ 0 ≤ x ∨ ∃ j, j ≤ N ∧ x = nI j := by
  rcases h with h | h
  · left; rw [h]; decide
  · exact Or.inr h
theorem sp_X7_who_f {k : Nat} (hk : k < 6) (hz : zSz (mu (2 + 2 * k) 1) 40) (hrf : ¬ (rfNt mu (2 + 2 * k) (3 + 2 * k)).1 = 0) : zk_M (d + 4) RX7 cX7_who 6 (some .int) none 0 (zk_loc [.ref 0, .int (nI k)] 6) [] mu lm (zk_R (some (.int (rfNt mu (2 + 2 * k) (3 + 2 * k)).1)) (rfNt mu (2 + 2 * k) (3 + 2 * k)).2 lm) := by
  refine zk_aload_n (pc := 0) 0 dX7_who_0 rfl rfl ?_
  refine zk_getR (pc := 1) dX7_who_1 flX7_13 rfl rfl ?_
  refine zk_iload_n (pc := 4) 1 dX7_who_4 rfl rfl ?_
  refine zk_callSA (pc := 5) dX7_who_5 mtX7_lookUp lkX7_64 stX7_lookUp [_, _] _ rfl rfl (Nat.le_of_ble_eq_true rfl) (Nat.le_of_ble_eq_true rfl) (sp_row hk) ?_
  refine zs_astore_n (pc := 8) (ls' := [_, _, _, _, _, _]) 2 dX7_who_8 rfl (by decide) rfl ?_
  refine zk_aload_n (pc := 9) 2 dX7_who_9 rfl rfl ?_
  refine zk_ifnonnull (pc := 10) 15 dX7_who_10 (by decide) ?_
  refine zk_aload_n (pc := 15) 0 dX7_who_15 rfl rfl ?_
  refine zk_aload_n (pc := 16) 2 dX7_who_16 rfl rfl ?_
  refine zk_callVI (pc := 17) dX7_who_17 mtX7_refusedNotes lkX7_247 stX7_refusedNotes (by rfl) (by rfl) [_] _ rfl rfl (Nat.le_of_ble_eq_true rfl) (Nat.le_of_ble_eq_true rfl) (sp_X7_refusedNotes (zRows hk).1 (by decide) (zsz_or hz)) ?_
  refine zs_istore_n (pc := 20) (ls' := [_, _, _, _, _, _]) 3 dX7_who_20 rfl (by decide) rfl ?_
  refine zk_iload_n (pc := 21) 3 dX7_who_21 rfl rfl ?_
  refine zk_if_eq (pc := 22) 27 dX7_who_22 (by decide) (fun h22 => ?_) (fun h22 => ?_)
  · exact absurd h22 hrf --
  · skip
    refine zk_iload_n (pc := 25) 3 dX7_who_25 rfl rfl ?_
    exact zk_ireturn (pc := 26) dX7_who_26 (Or.inl rfl) ⟨rfl, rfl, rfl⟩
theorem sp_X7_kinds_f {k : Nat} (hk : k < 6) (hz : zSz (mu (2 + 2 * k) 1) 40) (hrf : ¬ (rfNt mu (2 + 2 * k) (3 + 2 * k)).1 = 0) : zk_M (d + 4) RX7 cX7_kinds 4 (some .int) none 0 (zk_loc [.ref 0, .int (nI k)] 4) [] mu lm (zk_R (some (.int (rfNt mu (2 + 2 * k) (3 + 2 * k)).1)) (rfNt mu (2 + 2 * k) (3 + 2 * k)).2 lm) := by
  refine zk_aload_n (pc := 0) 0 dX7_kinds_0 rfl rfl ?_
  refine zk_getR (pc := 1) dX7_kinds_1 flX7_13 rfl rfl ?_
  refine zk_iload_n (pc := 4) 1 dX7_kinds_4 rfl rfl ?_
  refine zk_callSA (pc := 5) dX7_kinds_5 mtX7_lookUp lkX7_64 stX7_lookUp [_, _] _ rfl rfl (Nat.le_of_ble_eq_true rfl) (Nat.le_of_ble_eq_true rfl) (sp_row hk) ?_
  refine zs_astore_n (pc := 8) (ls' := [_, _, _, _]) 2 dX7_kinds_8 rfl (by decide) rfl ?_
  refine zk_aload_n (pc := 9) 2 dX7_kinds_9 rfl rfl ?_
  refine zk_ifnonnull (pc := 10) 15 dX7_kinds_10 (by decide) ?_
  refine zk_aload_n (pc := 15) 0 dX7_kinds_15 rfl rfl ?_
  refine zk_aload_n (pc := 16) 2 dX7_kinds_16 rfl rfl ?_
  refine zk_callVI (pc := 17) dX7_kinds_17 mtX7_refusedNotes lkX7_247 stX7_refusedNotes (by rfl) (by rfl) [_] _ rfl rfl (Nat.le_of_ble_eq_true rfl) (Nat.le_of_ble_eq_true rfl) (sp_X7_refusedNotes (zRows hk).1 (by decide) (zsz_or hz)) ?_
  refine zs_istore_n (pc := 20) (ls' := [_, _, _, _]) 3 dX7_kinds_20 rfl (by decide) rfl ?_
  refine zk_iload_n (pc := 21) 3 dX7_kinds_21 rfl rfl ?_
  refine zk_if_eq (pc := 22) 29 dX7_kinds_22 (by decide) (fun h22 => ?_) (fun h22 => ?_)
  · exact absurd h22 hrf --
  · skip
    refine zk_iload_n (pc := 25) 3 dX7_kinds_25 rfl rfl ?_
    refine zk_goto (pc := 26) 33 dX7_kinds_26 (by decide) ?_
    exact zk_ireturn (pc := 33) dX7_kinds_33 (Or.inl rfl) ⟨rfl, rfl, rfl⟩
theorem sp_X7_test_f {k : Nat} (hk : k < 6) (hz : zSz (mu (2 + 2 * k) 1) 40) (hrf : ¬ (rfNt mu (2 + 2 * k) (3 + 2 * k)).1 = 0) : zk_M (d + 4) RX7 cX7_test 9 (some .int) none 0 (zk_loc [.ref 0, .int (nI k)] 9) [] mu lm (zk_R (some (.int (rfNt mu (2 + 2 * k) (3 + 2 * k)).1)) (rfNt mu (2 + 2 * k) (3 + 2 * k)).2 lm) := by
  refine zk_aload_n (pc := 0) 0 dX7_test_0 rfl rfl ?_
  refine zk_getR (pc := 1) dX7_test_1 flX7_13 rfl rfl ?_
  refine zk_iload_n (pc := 4) 1 dX7_test_4 rfl rfl ?_
  refine zk_callSA (pc := 5) dX7_test_5 mtX7_lookUp lkX7_64 stX7_lookUp [_, _] _ rfl rfl (Nat.le_of_ble_eq_true rfl) (Nat.le_of_ble_eq_true rfl) (sp_row hk) ?_
  refine zs_astore_n (pc := 8) (ls' := [_, _, _, _, _, _, _, _, _]) 2 dX7_test_8 rfl (by decide) rfl ?_
  refine zk_aload_n (pc := 9) 2 dX7_test_9 rfl rfl ?_
  refine zk_ifnonnull (pc := 10) 15 dX7_test_10 (by decide) ?_
  refine zk_aload_n (pc := 15) 0 dX7_test_15 rfl rfl ?_
  refine zk_aload_n (pc := 16) 2 dX7_test_16 rfl rfl ?_
  refine zk_callVI (pc := 17) dX7_test_17 mtX7_refusedNotes lkX7_247 stX7_refusedNotes (by rfl) (by rfl) [_] _ rfl rfl (Nat.le_of_ble_eq_true rfl) (Nat.le_of_ble_eq_true rfl) (sp_X7_refusedNotes (zRows hk).1 (by decide) (zsz_or hz)) ?_
  refine zs_istore_n (pc := 20) (ls' := [_, _, _, _, _, _, _, _, _]) 3 dX7_test_20 rfl (by decide) rfl ?_
  refine zk_iload_n (pc := 21) 3 dX7_test_21 rfl rfl ?_
  refine zk_if_eq (pc := 22) 27 dX7_test_22 (by decide) (fun h22 => ?_) (fun h22 => ?_)
  · exact absurd h22 hrf --
  · skip
    refine zk_iload_n (pc := 25) 3 dX7_test_25 rfl rfl ?_
    exact zk_ireturn (pc := 26) dX7_test_26 (Or.inl rfl) ⟨rfl, rfl, rfl⟩
/-- a row of pairs that is as due -/
def ntOk (mu : Mem) (c p h : Nat) : Prop := mu c 1 = nI (2 * h) ∧ h ≤ 8 ∧ zall (fun i => decide (0 ≤ mu p i ∧ mu p i ≤ 99)) (2 * h) 0 = true
theorem ntOk_rf {mu : Mem} {c p h : Nat} (hn : ntOk mu c p h) : rfNt mu c p = (0, mu) := by
  obtain ⟨h1, h2, h3⟩ := hn
  rw [rfNt_j h1 (by omega), if_pos ⟨by omega, by omega⟩, if_pos h3]
theorem ntOk_of {mu : Mem} {c p N : Nat} (hN : N ≤ 900) (hz : zSz (mu c 1) N) (h : (rfNt mu c p).1 = 0) : ∃ h, ntOk mu c p h := by
  by_cases h0 : 0 ≤ mu c 1
  · obtain ⟨j, hj, hs⟩ := zsz_pos hz (by omega) h0
    rw [rfNt_j hs (by omega)] at h
    by_cases q : j % 2 = 0 ∧ j ≤ 16
    · rw [if_pos q] at h
      by_cases q2 : zall (fun i => decide (0 ≤ mu p i ∧ mu p i ≤ 99)) j 0 = true
      · exact ⟨j / 2, by rw [hs, show 2 * (j / 2) = j by omega], by omega, by rw [show 2 * (j / 2) = j by omega]; exact q2⟩
      · rw [if_neg q2] at h; exact absurd h (show ¬ (-3 : Int32) = 0 by decide)
    · rw [if_neg q] at h; exact absurd h (show ¬ (-3 : Int32) = 0 by decide)
  · unfold rfNt at h; rw [if_neg h0] at h; exact absurd h (show ¬ (-3 : Int32) = 0 by decide)
theorem sp_X7_who {C M : Nat} (hC : mu 23 5 = nI C) (hC8 : C ≤ 8) (hM : mu 23 6 = nI M) (hM6 : M ≤ 6) {k h : Nat} (hk : k < 6) (ho : ntOk mu (2 + 2 * k) (3 + 2 * k) h) : zk_M (d + 4) RX7 cX7_who 6 (some .int) none 0 (zk_loc [.ref 0, .int (nI k)] 6) [] mu lm (zk_R (some (.int (zbt (fun i => zall (fun t => decide (kSay (mu 24 i) (mu (3 + 2 * k) (2 * t)) = mu (3 + 2 * k) (2 * t + 1))) h 0) M))) mu lm) := by
  have hh := ho.2.1
  have loop : ∀ i, i ≤ M → zk_M (d + 4) RX7 cX7_who 6 (some .int) none 33 [.ref 0, .int (nI k), .ref (2 + 2 * k), .int 0, .int (zbt (fun i => zall (fun t => decide (kSay (mu 24 i) (mu (3 + 2 * k) (2 * t)) = mu (3 + 2 * k) (2 * t + 1))) h 0) i), .int (nI i)] [] mu lm (zk_R (some (.int (zbt (fun i => zall (fun t => decide (kSay (mu 24 i) (mu (3 + 2 * k) (2 * t)) = mu (3 + 2 * k) (2 * t + 1))) h 0) M))) mu lm) := by
    refine zk_ind M (fun i hi ih => ?_)
    refine zk_iload (pc := 33) dX7_who_33 rfl ?_
    refine zk_aload_n (pc := 35) 0 dX7_who_35 rfl rfl ?_
    refine zk_getR (pc := 36) dX7_who_36 flX7_23 rfl rfl ?_
    refine zk_getI (pc := 39) dX7_who_39 flX7_123 rfl rfl ?_
    refine zk_icmp_ge (pc := 42) 77 dX7_who_42 (by decide) (fun h42 => ?_) (fun h42 => ?_)
    · rw [hM, nIle (by omega) (by omega)] at h42
      refine zk_iload (pc := 77) dX7_who_77 rfl ?_
      refine zk_ireturn (pc := 79) dX7_who_79 (Or.inl rfl) (zk_ri ?_)
      rw [show i = M by omega]
    · rw [hM, nIle (by omega) (by omega)] at h42
      refine zk_aload_n (pc := 45) 2 dX7_who_45 rfl rfl ?_
      refine zk_aload_n (pc := 46) 0 dX7_who_46 rfl rfl ?_
      refine zk_getR (pc := 47) dX7_who_47 flX7_23 rfl rfl ?_
      refine zk_getR (pc := 50) dX7_who_50 flX7_140 rfl rfl ?_
      refine zk_iload (pc := 53) dX7_who_53 rfl ?_
      refine zk_iaload (pc := 55) i dX7_who_55 rfl rfl (by omega) ?_
      refine zk_callSI (pc := 56) dX7_who_56 mtX3_fit lkX7_250 stX3_fit [_, _] _ rfl rfl (Nat.le_of_ble_eq_true rfl) (Nat.le_of_ble_eq_true rfl) (sp_X3_fit (zRows hk).1 ho.1 (by omega) _) ?_
      refine zk_if_eq (pc := 59) 71 dX7_who_59 (by decide) (fun h59 => ?_) (fun h59 => ?_)
      · rw [zb_e] at h59
        refine zs_iinc (pc := 71) (ls' := [_, _, _, _, _, _]) dX7_who_71 rfl (nI_1 i) (by decide) rfl ?_
        refine zk_goto (pc := 74) 33 dX7_who_74 (by decide) ?_
        have e := ih (by omega)
        first
          | (rw [zbt_t (p := (fun i => zall (fun t => decide (kSay (mu 24 i) (mu (3 + 2 * k) (2 * t)) = mu (3 + 2 * k) (2 * t + 1))) h 0)) (by simpa using h59)] at e; exact e)
          | (rw [zbt_f (p := (fun i => zall (fun t => decide (kSay (mu 24 i) (mu (3 + 2 * k) (2 * t)) = mu (3 + 2 * k) (2 * t + 1))) h 0)) (by simpa using h59)] at e; exact e)
      · rw [zb_n] at h59
        refine zk_iload (pc := 62) dX7_who_62 rfl ?_
        refine zk_iconst (pc := 64) (v := 1) dX7_who_64 (by decide) ?_
        refine zk_iload (pc := 65) dX7_who_65 rfl ?_
        refine zk_ishl (pc := 67) dX7_who_67 ?_
        refine zk_ior (pc := 68) dX7_who_68 ?_
        refine zs_istore (pc := 69) (ls' := [_, _, _, _, _, _]) 4 dX7_who_69 (by decide) rfl ?_
        refine zs_iinc (pc := 71) (ls' := [_, _, _, _, _, _]) dX7_who_71 rfl (nI_1 i) (by decide) rfl ?_
        refine zk_goto (pc := 74) 33 dX7_who_74 (by decide) ?_
        have e := ih (by omega)
        first
          | (rw [zbt_t (p := (fun i => zall (fun t => decide (kSay (mu 24 i) (mu (3 + 2 * k) (2 * t)) = mu (3 + 2 * k) (2 * t + 1))) h 0)) (by simpa using h59)] at e; exact e)
          | (rw [zbt_f (p := (fun i => zall (fun t => decide (kSay (mu 24 i) (mu (3 + 2 * k) (2 * t)) = mu (3 + 2 * k) (2 * t + 1))) h 0)) (by simpa using h59)] at e; exact e)
  refine zk_aload_n (pc := 0) 0 dX7_who_0 rfl rfl ?_
  refine zk_getR (pc := 1) dX7_who_1 flX7_13 rfl rfl ?_
  refine zk_iload_n (pc := 4) 1 dX7_who_4 rfl rfl ?_
  refine zk_callSA (pc := 5) dX7_who_5 mtX7_lookUp lkX7_64 stX7_lookUp [_, _] _ rfl rfl (Nat.le_of_ble_eq_true rfl) (Nat.le_of_ble_eq_true rfl) (sp_row hk) ?_
  refine zs_astore_n (pc := 8) (ls' := [_, _, _, _, _, _]) 2 dX7_who_8 rfl (by decide) rfl ?_
  refine zk_aload_n (pc := 9) 2 dX7_who_9 rfl rfl ?_
  refine zk_ifnonnull (pc := 10) 15 dX7_who_10 (by decide) ?_
  refine zk_aload_n (pc := 15) 0 dX7_who_15 rfl rfl ?_
  refine zk_aload_n (pc := 16) 2 dX7_who_16 rfl rfl ?_
  refine zk_callVI (pc := 17) dX7_who_17 mtX7_refusedNotes lkX7_247 stX7_refusedNotes (by rfl) (by rfl) [_] _ rfl rfl (Nat.le_of_ble_eq_true rfl) (Nat.le_of_ble_eq_true rfl) (by have q := sp_X7_refusedNotes (d := d + 0) (mu := mu) (lm := lm) (zRows hk).1 (by decide) (Or.inr ⟨2 * h, by have := ho.2.1; omega, ho.1⟩); rw [ntOk_rf ho] at q; exact q) ?_
  refine zs_istore_n (pc := 20) (ls' := [_, _, _, _, _, _]) 3 dX7_who_20 rfl (by decide) rfl ?_
  refine zk_iload_n (pc := 21) 3 dX7_who_21 rfl rfl ?_
  refine zk_if_eq (pc := 22) 27 dX7_who_22 (by decide) (fun h22 => ?_) (fun h22 => ?_)
  · skip
    refine zk_iconst (pc := 27) (v := 0) dX7_who_27 (by decide) ?_
    refine zs_istore (pc := 28) (ls' := [_, _, _, _, _, _]) 4 dX7_who_28 (by decide) rfl ?_
    refine zk_iconst (pc := 30) (v := 0) dX7_who_30 (by decide) ?_
    refine zs_istore (pc := 31) (ls' := [_, _, _, _, _, _]) 5 dX7_who_31 (by decide) rfl ?_
    exact loop 0 (Nat.zero_le _)
  · exact absurd rfl h22 --
theorem sp_X7_kinds {k h : Nat} (hk : k < 6) (ho : ntOk mu (2 + 2 * k) (3 + 2 * k) h) : zk_M (d + 4) RX7 cX7_kinds 4 (some .int) none 0 (zk_loc [.ref 0, .int (nI k)] 4) [] mu lm (zk_R (some (.int (kFit mu (3 + 2 * k) h))) mu lm) := by
  have hh := ho.2.1
  refine zk_aload_n (pc := 0) 0 dX7_kinds_0 rfl rfl ?_
  refine zk_getR (pc := 1) dX7_kinds_1 flX7_13 rfl rfl ?_
  refine zk_iload_n (pc := 4) 1 dX7_kinds_4 rfl rfl ?_
  refine zk_callSA (pc := 5) dX7_kinds_5 mtX7_lookUp lkX7_64 stX7_lookUp [_, _] _ rfl rfl (Nat.le_of_ble_eq_true rfl) (Nat.le_of_ble_eq_true rfl) (sp_row hk) ?_
  refine zs_astore_n (pc := 8) (ls' := [_, _, _, _]) 2 dX7_kinds_8 rfl (by decide) rfl ?_
  refine zk_aload_n (pc := 9) 2 dX7_kinds_9 rfl rfl ?_
  refine zk_ifnonnull (pc := 10) 15 dX7_kinds_10 (by decide) ?_
  refine zk_aload_n (pc := 15) 0 dX7_kinds_15 rfl rfl ?_
  refine zk_aload_n (pc := 16) 2 dX7_kinds_16 rfl rfl ?_
  refine zk_callVI (pc := 17) dX7_kinds_17 mtX7_refusedNotes lkX7_247 stX7_refusedNotes (by rfl) (by rfl) [_] _ rfl rfl (Nat.le_of_ble_eq_true rfl) (Nat.le_of_ble_eq_true rfl) (by have q := sp_X7_refusedNotes (d := d + 0) (mu := mu) (lm := lm) (zRows hk).1 (by decide) (Or.inr ⟨2 * h, by have := ho.2.1; omega, ho.1⟩); rw [ntOk_rf ho] at q; exact q) ?_
  refine zs_istore_n (pc := 20) (ls' := [_, _, _, _]) 3 dX7_kinds_20 rfl (by decide) rfl ?_
  refine zk_iload_n (pc := 21) 3 dX7_kinds_21 rfl rfl ?_
  refine zk_if_eq (pc := 22) 29 dX7_kinds_22 (by decide) (fun h22 => ?_) (fun h22 => ?_)
  · skip
    refine zk_aload_n (pc := 29) 2 dX7_kinds_29 rfl rfl ?_
    refine zk_callSI (pc := 30) dX7_kinds_30 mtX3_fittingKinds lkX7_256 stX3_fittingKinds [_] _ rfl rfl (Nat.le_of_ble_eq_true rfl) (Nat.le_of_ble_eq_true rfl) (sp_X3_fittingKinds (zRows hk).1 ho.1 (by omega)) ?_
    exact zk_ireturn (pc := 33) dX7_kinds_33 (Or.inl rfl) (zk_ri rfl)
  · exact absurd rfl h22 --
/-- the best so far, and its part -/
def tstR (g : Nat → Int32) (z : Int32) : Nat → Int32 × Int32
  | 0 => (0, z)
  | k + 1 => if g k < (tstR g z k).2 then (nI k, g k) else tstR g z k
theorem tstR_s (g : Nat → Int32) (z : Int32) (k : Nat) : tstR g z (k + 1) = if g k < (tstR g z k).2 then (nI k, g k) else tstR g z k := rfl
def cTst (mu : Mem) (p h : Nat) : Int32 × Mem := if kFit mu p h = 0 then (-9, mu) else ((tstR (fun v => gPart (kFit mu p h) (nI v) 6) 7 100).1, zk_up mu 0 10 (tstR (fun v => gPart (kFit mu p h) (nI v) 6) 7 100).2)
theorem sp_X7_test {k h : Nat} (hk : k < 6) (ho : ntOk mu (2 + 2 * k) (3 + 2 * k) h) : zk_M (d + 4) RX7 cX7_test 9 (some .int) none 0 (zk_loc [.ref 0, .int (nI k)] 9) [] mu lm (zk_R (some (.int (cTst mu (3 + 2 * k) h).1)) (cTst mu (3 + 2 * k) h).2 lm) := by
  have hh := ho.2.1
  have loop : ∀ x : Int32, ∀ i, i ≤ 100 → ∀ b8 : Value, zk_M (d + 4) RX7 cX7_test 9 (some .int) none 51 [.ref 0, .int (nI k), .ref (2 + 2 * k), .int 0, .int x, .int (tstR (fun v => gPart x (nI v) 6) 7 i).1, .int (tstR (fun v => gPart x (nI v) 6) 7 i).2, .int (nI i), b8] [] mu lm (zk_R (some (.int (tstR (fun v => gPart x (nI v) 6) 7 100).1)) (zk_up mu 0 10 (tstR (fun v => gPart x (nI v) 6) 7 100).2) lm) := by
    intro x
    refine zk_ind 100 (fun i hi ih => ?_)
    intro b8
    refine zk_iload (pc := 51) dX7_test_51 rfl ?_
    refine zk_bipush (pc := 53) (v := 99) dX7_test_53 (by decide) ?_
    refine zk_icmp_gt (pc := 55) 88 dX7_test_55 (by decide) (fun h55 => ?_) (fun h55 => ?_)
    · rw [show (99 : Int32) = nI 99 from rfl, nIlt (by omega) (by omega)] at h55
      refine zk_aload_n (pc := 88) 0 dX7_test_88 rfl rfl ?_
      refine zk_iload (pc := 89) dX7_test_89 rfl ?_
      refine zk_putI (pc := 91) dX7_test_91 flX7_82 rfl rfl ?_
      refine zk_iload (pc := 94) dX7_test_94 rfl ?_
      rw [show (100 : Nat) = i by omega]
      exact zk_ireturn (pc := 96) dX7_test_96 (Or.inl rfl) ⟨rfl, rfl, rfl⟩
    · rw [show (99 : Int32) = nI 99 from rfl, nIlt (by omega) (by omega)] at h55
      refine zk_iload (pc := 58) dX7_test_58 rfl ?_
      refine zk_iload (pc := 60) dX7_test_60 rfl ?_
      refine zk_callSI (pc := 62) dX7_test_62 mtX3_greatestPart lkX7_259 stX3_greatestPart [_, _] _ rfl rfl (Nat.le_of_ble_eq_true rfl) (Nat.le_of_ble_eq_true rfl) (sp_X3_greatestPart _ _) ?_
      refine zs_istore (pc := 65) (ls' := [_, _, _, _, _, _, _, _, _]) 8 dX7_test_65 (by decide) rfl ?_
      refine zk_iload (pc := 67) dX7_test_67 rfl ?_
      refine zk_iload (pc := 69) dX7_test_69 rfl ?_
      refine zk_icmp_ge (pc := 71) 82 dX7_test_71 (by decide) (fun h71 => ?_) (fun h71 => ?_)
      · skip
        refine zs_iinc (pc := 82) (ls' := [_, _, _, _, _, _, _, _, _]) dX7_test_82 rfl (nI_1 i) (by decide) rfl ?_
        refine zk_goto (pc := 85) 51 dX7_test_85 (by decide) ?_
        have e := ih (by omega)
        rw [tstR_s] at e
        first
          | (rw [if_neg (by simp only [zlt, zle] at *; omega)] at e; exact e _)
          | (rw [if_pos (by simp only [zlt, zle] at *; omega)] at e; exact e _)
      · skip
        refine zk_iload (pc := 74) dX7_test_74 rfl ?_
        refine zs_istore (pc := 76) (ls' := [_, _, _, _, _, _, _, _, _]) 6 dX7_test_76 (by decide) rfl ?_
        refine zk_iload (pc := 78) dX7_test_78 rfl ?_
        refine zs_istore (pc := 80) (ls' := [_, _, _, _, _, _, _, _, _]) 5 dX7_test_80 (by decide) rfl ?_
        refine zs_iinc (pc := 82) (ls' := [_, _, _, _, _, _, _, _, _]) dX7_test_82 rfl (nI_1 i) (by decide) rfl ?_
        refine zk_goto (pc := 85) 51 dX7_test_85 (by decide) ?_
        have e := ih (by omega)
        rw [tstR_s] at e
        first
          | (rw [if_neg (by simp only [zlt, zle] at *; omega)] at e; exact e _)
          | (rw [if_pos (by simp only [zlt, zle] at *; omega)] at e; exact e _)
  refine zk_aload_n (pc := 0) 0 dX7_test_0 rfl rfl ?_
  refine zk_getR (pc := 1) dX7_test_1 flX7_13 rfl rfl ?_
  refine zk_iload_n (pc := 4) 1 dX7_test_4 rfl rfl ?_
  refine zk_callSA (pc := 5) dX7_test_5 mtX7_lookUp lkX7_64 stX7_lookUp [_, _] _ rfl rfl (Nat.le_of_ble_eq_true rfl) (Nat.le_of_ble_eq_true rfl) (sp_row hk) ?_
  refine zs_astore_n (pc := 8) (ls' := [_, _, _, _, _, _, _, _, _]) 2 dX7_test_8 rfl (by decide) rfl ?_
  refine zk_aload_n (pc := 9) 2 dX7_test_9 rfl rfl ?_
  refine zk_ifnonnull (pc := 10) 15 dX7_test_10 (by decide) ?_
  refine zk_aload_n (pc := 15) 0 dX7_test_15 rfl rfl ?_
  refine zk_aload_n (pc := 16) 2 dX7_test_16 rfl rfl ?_
  refine zk_callVI (pc := 17) dX7_test_17 mtX7_refusedNotes lkX7_247 stX7_refusedNotes (by rfl) (by rfl) [_] _ rfl rfl (Nat.le_of_ble_eq_true rfl) (Nat.le_of_ble_eq_true rfl) (by have q := sp_X7_refusedNotes (d := d + 0) (mu := mu) (lm := lm) (zRows hk).1 (by decide) (Or.inr ⟨2 * h, by have := ho.2.1; omega, ho.1⟩); rw [ntOk_rf ho] at q; exact q) ?_
  refine zs_istore_n (pc := 20) (ls' := [_, _, _, _, _, _, _, _, _]) 3 dX7_test_20 rfl (by decide) rfl ?_
  refine zk_iload_n (pc := 21) 3 dX7_test_21 rfl rfl ?_
  refine zk_if_eq (pc := 22) 27 dX7_test_22 (by decide) (fun h22 => ?_) (fun h22 => ?_)
  · skip
    refine zk_aload_n (pc := 27) 2 dX7_test_27 rfl rfl ?_
    refine zk_callSI (pc := 28) dX7_test_28 mtX3_fittingKinds lkX7_256 stX3_fittingKinds [_] _ rfl rfl (Nat.le_of_ble_eq_true rfl) (Nat.le_of_ble_eq_true rfl) (sp_X3_fittingKinds (zRows hk).1 ho.1 (by omega)) ?_
    refine zs_istore (pc := 31) (ls' := [_, _, _, _, _, _, _, _, _]) 4 dX7_test_31 (by decide) rfl ?_
    refine zk_iload (pc := 33) dX7_test_33 rfl ?_
    refine zk_if_ne (pc := 35) 41 dX7_test_35 (by decide) (fun h35 => ?_) (fun h35 => ?_)
    · skip
      refine zk_iconst (pc := 41) (v := 0) dX7_test_41 (by decide) ?_
      refine zs_istore (pc := 42) (ls' := [_, _, _, _, _, _, _, _, _]) 5 dX7_test_42 (by decide) rfl ?_
      refine zk_bipush (pc := 44) (v := 7) dX7_test_44 (by decide) ?_
      refine zs_istore (pc := 46) (ls' := [_, _, _, _, _, _, _, _, _]) 6 dX7_test_46 (by decide) rfl ?_
      refine zk_iconst (pc := 48) (v := 0) dX7_test_48 (by decide) ?_
      refine zs_istore (pc := 49) (ls' := [_, _, _, _, _, _, _, _, _]) 7 dX7_test_49 (by decide) rfl ?_
      have hf : cTst mu (3 + 2 * k) h = ((tstR (fun v => gPart (kFit mu (3 + 2 * k) h) (nI v) 6) 7 100).1, zk_up mu 0 10 (tstR (fun v => gPart (kFit mu (3 + 2 * k) h) (nI v) 6) 7 100).2) := by unfold cTst; rw [if_neg h35]
      rw [hf]
      dsimp only
      exact loop (kFit mu (3 + 2 * k) h) 0 (Nat.zero_le _) _
    · skip
      refine zk_bipush (pc := 38) (v := -9) dX7_test_38 (by decide) ?_
      exact zk_ireturn (pc := 40) dX7_test_40 (Or.inl rfl) (zk_pr (by unfold cTst; rw [if_pos h35]))
  · exact absurd rfl h22 --
def lkB (mu : Mem) (p j : Nat) : Int32 := zbt (fun i => zall (fun t => decide (mu p (t + 1) = zmax 0 (mu p t - nI i))) j 0) 10
def cLk (mu : Mem) (c p : Nat) : Int32 × Mem := if 0 ≤ mu c 1 then (if mu c 1 = 0 then (-3, fndM mu 5) else if zall (fun i => decide (0 ≤ mu p i ∧ mu p i ≤ 999)) (mu c 1).toNatClampNeg 0 = true then (lkB mu p ((mu c 1).toNatClampNeg - 1), mu) else (-3, fndM mu 3)) else (-3, fndM mu 1)
theorem sp_X7_leaks {k : Nat} (hk : k < 6) (hz : zSz (mu (2 + 2 * k) 1) 40) : zk_M (d + 4) RX7 cX7_leaks 5 (some .int) none 0 (zk_loc [.ref 0, .int (nI k)] 5) [] mu lm (zk_R (some (.int (cLk mu (2 + 2 * k) (3 + 2 * k)).1)) (cLk mu (2 + 2 * k) (3 + 2 * k)).2 lm) := by
  have hr := (zRows hk).1
  refine zk_aload_n (pc := 0) 0 dX7_leaks_0 rfl rfl ?_
  refine zk_getR (pc := 1) dX7_leaks_1 flX7_13 rfl rfl ?_
  refine zk_iload_n (pc := 4) 1 dX7_leaks_4 rfl rfl ?_
  refine zk_callSA (pc := 5) dX7_leaks_5 mtX7_lookUp lkX7_64 stX7_lookUp [_, _] _ rfl rfl (Nat.le_of_ble_eq_true rfl) (Nat.le_of_ble_eq_true rfl) (sp_row hk) ?_
  refine zs_astore_n (pc := 8) (ls' := [_, _, _, _, _]) 2 dX7_leaks_8 rfl (by decide) rfl ?_
  refine zk_aload_n (pc := 9) 2 dX7_leaks_9 rfl rfl ?_
  refine zk_ifnonnull (pc := 10) 15 dX7_leaks_10 (by decide) ?_
  refine zk_aload_n (pc := 15) 2 dX7_leaks_15 rfl rfl ?_
  refine zk_callVI (pc := 16) dX7_leaks_16 mtX4_isThere lkX7_89 stX4_isThere hr.1 (by rfl) [] _ rfl rfl (Nat.le_of_ble_eq_true rfl) (Nat.le_of_ble_eq_true rfl) (sp_X4_isThere hr) ?_
  refine zk_if_ne (pc := 19) 28 dX7_leaks_19 (by decide) (fun h19 => ?_) (fun h19 => ?_)
  · rw [zb_n] at h19
    refine zk_aload_n (pc := 28) 2 dX7_leaks_28 rfl rfl ?_
    refine zk_getI (pc := 29) dX7_leaks_29 flX7_96 hr.1 rfl ?_
    refine zk_if_ne (pc := 32) 41 dX7_leaks_32 (by decide) (fun h32 => ?_) (fun h32 => ?_)
    · obtain ⟨j0, hj0, hs0⟩ := zsz_pos hz (by decide) h19
      have hj00 : ¬ j0 = 0 := fun q => h32 (by rw [hs0, q]; rfl)
      obtain ⟨j, rfl⟩ : ∃ j, j0 = j + 1 := ⟨j0 - 1, by omega⟩
      have hs := hs0
      have hj := hj0
      refine zk_aload_n (pc := 41) 2 dX7_leaks_41 rfl rfl ?_
      refine zk_iconst (pc := 42) (v := 0) dX7_leaks_42 (by decide) ?_
      refine zk_sipush (pc := 43) (v := 999) dX7_leaks_43 (by decide) ?_
      refine zk_callVI (pc := 46) dX7_leaks_46 mtX4_isAllWithin lkX7_262 stX4_isAllWithin hr.1 (by rfl) [_, _] _ rfl rfl (Nat.le_of_ble_eq_true rfl) (Nat.le_of_ble_eq_true rfl) (sp_X4_isAllWithin hr hs hj 0 999) ?_
      refine zk_if_ne (pc := 49) 58 dX7_leaks_49 (by decide) (fun h49 => ?_) (fun h49 => ?_)
      · rw [zb_n] at h49
        refine zk_iconst (pc := 58) (v := 0) dX7_leaks_58 (by decide) ?_
        refine zs_istore_n (pc := 59) (ls' := [_, _, _, _, _]) 3 dX7_leaks_59 rfl (by decide) rfl ?_
        refine zk_iconst (pc := 60) (v := 0) dX7_leaks_60 (by decide) ?_
        refine zs_istore (pc := 61) (ls' := [_, _, _, _, _]) 4 dX7_leaks_61 (by decide) rfl ?_
        have hf : cLk mu (2 + 2 * k) (3 + 2 * k) = (lkB mu (3 + 2 * k) j, mu) := by
          unfold cLk; rw [if_pos h19, if_neg h32, hs, nI_clamp (by omega), if_pos h49, Nat.add_sub_cancel]
        rw [hf]
        have loop : ∀ i, i ≤ 10 → zk_M (d + 4) RX7 cX7_leaks 5 (some .int) none 63 [.ref 0, .int (nI k), .ref (2 + 2 * k), .int (zbt (fun i => zall (fun t => decide (mu (3 + 2 * k) (t + 1) = zmax 0 (mu (3 + 2 * k) t - nI i))) j 0) i), .int (nI i)] [] mu lm (zk_R (some (.int (lkB mu (3 + 2 * k) j))) mu lm) := by
          refine zk_ind 10 (fun i hi ih => ?_)
          refine zk_iload (pc := 63) dX7_leaks_63 rfl ?_
          refine zk_bipush (pc := 65) (v := 9) dX7_leaks_65 (by decide) ?_
          refine zk_icmp_gt (pc := 67) 92 dX7_leaks_67 (by decide) (fun h67 => ?_) (fun h67 => ?_)
          · rw [show (9 : Int32) = nI 9 from rfl, nIlt (by omega) (by omega)] at h67
            refine zk_iload_n (pc := 92) 3 dX7_leaks_92 rfl rfl ?_
            refine zk_ireturn (pc := 93) dX7_leaks_93 (Or.inl rfl) (zk_ri ?_)
            rw [show i = 10 by omega]; rfl
          · rw [show (9 : Int32) = nI 9 from rfl, nIlt (by omega) (by omega)] at h67
            refine zk_aload_n (pc := 70) 2 dX7_leaks_70 rfl rfl ?_
            refine zk_iload (pc := 71) dX7_leaks_71 rfl ?_
            refine zk_callSI (pc := 73) dX7_leaks_73 mtX3_leaksBy lkX7_265 stX3_leaksBy [_, _] _ rfl rfl (Nat.le_of_ble_eq_true rfl) (Nat.le_of_ble_eq_true rfl) (sp_X3_leaksBy hr hs hj _) ?_
            refine zk_if_eq (pc := 76) 86 dX7_leaks_76 (by decide) (fun h76 => ?_) (fun h76 => ?_)
            · rw [zb_e] at h76
              refine zs_iinc (pc := 86) (ls' := [_, _, _, _, _]) dX7_leaks_86 rfl (nI_1 i) (by decide) rfl ?_
              refine zk_goto (pc := 89) 63 dX7_leaks_89 (by decide) ?_
              have e := ih (by omega)
              first
                | (rw [zbt_t (p := (fun i => zall (fun t => decide (mu (3 + 2 * k) (t + 1) = zmax 0 (mu (3 + 2 * k) t - nI i))) j 0)) (by simpa using h76)] at e; exact e)
                | (rw [zbt_f (p := (fun i => zall (fun t => decide (mu (3 + 2 * k) (t + 1) = zmax 0 (mu (3 + 2 * k) t - nI i))) j 0)) (by simpa using h76)] at e; exact e)
            · rw [zb_n] at h76
              refine zk_iload_n (pc := 79) 3 dX7_leaks_79 rfl rfl ?_
              refine zk_iconst (pc := 80) (v := 1) dX7_leaks_80 (by decide) ?_
              refine zk_iload (pc := 81) dX7_leaks_81 rfl ?_
              refine zk_ishl (pc := 83) dX7_leaks_83 ?_
              refine zk_ior (pc := 84) dX7_leaks_84 ?_
              refine zs_istore_n (pc := 85) (ls' := [_, _, _, _, _]) 3 dX7_leaks_85 rfl (by decide) rfl ?_
              refine zs_iinc (pc := 86) (ls' := [_, _, _, _, _]) dX7_leaks_86 rfl (nI_1 i) (by decide) rfl ?_
              refine zk_goto (pc := 89) 63 dX7_leaks_89 (by decide) ?_
              have e := ih (by omega)
              first
                | (rw [zbt_t (p := (fun i => zall (fun t => decide (mu (3 + 2 * k) (t + 1) = zmax 0 (mu (3 + 2 * k) t - nI i))) j 0)) (by simpa using h76)] at e; exact e)
                | (rw [zbt_f (p := (fun i => zall (fun t => decide (mu (3 + 2 * k) (t + 1) = zmax 0 (mu (3 + 2 * k) t - nI i))) j 0)) (by simpa using h76)] at e; exact e)
        exact loop 0 (Nat.zero_le _)
      · rw [zb_e] at h49
        refine zk_aload_n (pc := 52) 0 dX7_leaks_52 rfl rfl ?_
        refine zk_iconst (pc := 53) (v := 3) dX7_leaks_53 (by decide) ?_
        refine zk_callVI (pc := 54) dX7_leaks_54 mtX7_found lkX7_93 stX7_found (by rfl) (by rfl) [_] _ rfl rfl (Nat.le_of_ble_eq_true rfl) (Nat.le_of_ble_eq_true rfl) (sp_X7_found (f := 3) (by decide)) ?_
        exact zk_ireturn (pc := 57) dX7_leaks_57 (Or.inl rfl) (zk_pr (by unfold cLk; rw [if_pos h19, if_neg h32, hs, nI_clamp (by omega), if_neg h49]))
    · skip
      refine zk_aload_n (pc := 35) 0 dX7_leaks_35 rfl rfl ?_
      refine zk_iconst (pc := 36) (v := 5) dX7_leaks_36 (by decide) ?_
      refine zk_callVI (pc := 37) dX7_leaks_37 mtX7_found lkX7_93 stX7_found (by rfl) (by rfl) [_] _ rfl rfl (Nat.le_of_ble_eq_true rfl) (Nat.le_of_ble_eq_true rfl) (sp_X7_found (f := 5) (by decide)) ?_
      exact zk_ireturn (pc := 40) dX7_leaks_40 (Or.inl rfl) (zk_pr (by unfold cLk; rw [if_pos h19, if_pos h32]))
  · rw [zb_e] at h19
    refine zk_aload_n (pc := 22) 0 dX7_leaks_22 rfl rfl ?_
    refine zk_iconst (pc := 23) (v := 1) dX7_leaks_23 (by decide) ?_
    refine zk_callVI (pc := 24) dX7_leaks_24 mtX7_found lkX7_93 stX7_found (by rfl) (by rfl) [_] _ rfl rfl (Nat.le_of_ble_eq_true rfl) (Nat.le_of_ble_eq_true rfl) (sp_X7_found (f := 1) (by decide)) ?_
    exact zk_ireturn (pc := 27) dX7_leaks_27 (Or.inl rfl) (zk_pr (by unfold cLk; rw [if_neg h19]))
theorem sp_X7_evening_n (v n : Int32) (hb : ¬ ((0 ≤ v ∧ v ≤ 99) ∧ (0 ≤ n ∧ n ≤ 2))) : zk_M (d + 2) RX7 cX7_evening 3 (some .int) none 0 (zk_loc [.ref 0, .int v, .int n] 3) [] mu lm (zk_R (some (.int (-1))) mu lm) := by
  refine zk_iload_n (pc := 0) 1 dX7_evening_0 rfl rfl ?_
  refine zk_callSI (pc := 1) dX7_evening_1 mtX7_isMeaning lkX7_167 stX7_isMeaning [_] _ rfl rfl (Nat.le_of_ble_eq_true rfl) (Nat.le_of_ble_eq_true rfl) (sp_X7_isMeaning _) ?_
  refine zk_if_eq (pc := 4) 16 dX7_evening_4 (by decide) (fun h4 => ?_) (fun h4 => ?_)
  · rw [zb_e] at h4
    refine zk_iconst (pc := 16) (v := -1) dX7_evening_16 (by decide) ?_
    exact zk_ireturn (pc := 17) dX7_evening_17 (Or.inl rfl) (zk_ri rfl)
  · rw [zb_n] at h4
    refine zk_iload_n (pc := 7) 2 dX7_evening_7 rfl rfl ?_
    refine zk_iconst (pc := 8) (v := 0) dX7_evening_8 (by decide) ?_
    refine zk_iconst (pc := 9) (v := 2) dX7_evening_9 (by decide) ?_
    refine zk_callSI (pc := 10) dX7_evening_10 mtX7_within lkX7_130 stX7_within [_, _, _] _ rfl rfl (Nat.le_of_ble_eq_true rfl) (Nat.le_of_ble_eq_true rfl) (sp_X7_within _ _ _) ?_
    refine zk_if_ne (pc := 13) 18 dX7_evening_13 (by decide) (fun h13 => ?_) (fun h13 => ?_)
    · rw [zb_n] at h13
      exact absurd ⟨h4, h13⟩ hb --
    · rw [zb_e] at h13
      refine zk_iconst (pc := 16) (v := -1) dX7_evening_16 (by decide) ?_
      exact zk_ireturn (pc := 17) dX7_evening_17 (Or.inl rfl) (zk_ri rfl)
theorem sp_X7_evening_0 {v n : Int32} (hv : 0 ≤ v ∧ v ≤ 99) (hn : 0 ≤ n ∧ n ≤ 2) (hM : mu 23 6 = 0) : zk_M (d + 2) RX7 cX7_evening 3 (some .int) none 0 (zk_loc [.ref 0, .int v, .int n] 3) [] mu lm (zk_R (some (.int (-4))) mu lm) := by
  refine zk_iload_n (pc := 0) 1 dX7_evening_0 rfl rfl ?_
  refine zk_callSI (pc := 1) dX7_evening_1 mtX7_isMeaning lkX7_167 stX7_isMeaning [_] _ rfl rfl (Nat.le_of_ble_eq_true rfl) (Nat.le_of_ble_eq_true rfl) (sp_X7_isMeaning _) ?_
  refine zk_if_eq (pc := 4) 16 dX7_evening_4 (by decide) (fun h4 => ?_) (fun h4 => ?_)
  · rw [zb_e] at h4
    exact absurd hv h4 --
  · skip
    refine zk_iload_n (pc := 7) 2 dX7_evening_7 rfl rfl ?_
    refine zk_iconst (pc := 8) (v := 0) dX7_evening_8 (by decide) ?_
    refine zk_iconst (pc := 9) (v := 2) dX7_evening_9 (by decide) ?_
    refine zk_callSI (pc := 10) dX7_evening_10 mtX7_within lkX7_130 stX7_within [_, _, _] _ rfl rfl (Nat.le_of_ble_eq_true rfl) (Nat.le_of_ble_eq_true rfl) (sp_X7_within _ _ _) ?_
    refine zk_if_ne (pc := 13) 18 dX7_evening_13 (by decide) (fun h13 => ?_) (fun h13 => ?_)
    · skip
      refine zk_aload_n (pc := 18) 0 dX7_evening_18 rfl rfl ?_
      refine zk_getR (pc := 19) dX7_evening_19 flX7_23 rfl rfl ?_
      refine zk_getI (pc := 22) dX7_evening_22 flX7_123 rfl rfl ?_
      refine zk_if_ne (pc := 25) 31 dX7_evening_25 (by decide) (fun h25 => ?_) (fun h25 => ?_)
      · exact absurd hM h25 --
      · skip
        refine zk_bipush (pc := 28) (v := -4) dX7_evening_28 (by decide) ?_
        exact zk_ireturn (pc := 30) dX7_evening_30 (Or.inl rfl) (zk_ri rfl)
    · rw [zb_e] at h13
      exact absurd hn h13 --
theorem sp_X7_evening0 {C M : Nat} (hC : mu 23 5 = nI C) (hC8 : C ≤ 8) (hM : mu 23 6 = nI M) (hM6 : M ≤ 6) (hM0 : 0 < M) {v : Int32} (hv : 0 ≤ v ∧ v ≤ 99) : zk_M (d + 10) RX7 cX7_evening 3 (some .int) none 0 (zk_loc [.ref 0, .int v, .int 0] 3) [] mu lm (tQ (evn mu C M v 0) mu lm 38) := by
  refine zk_iload_n (pc := 0) 1 dX7_evening_0 rfl rfl ?_
  refine zk_callSI (pc := 1) dX7_evening_1 mtX7_isMeaning lkX7_167 stX7_isMeaning [_] _ rfl rfl (Nat.le_of_ble_eq_true rfl) (Nat.le_of_ble_eq_true rfl) (sp_X7_isMeaning _) ?_
  refine zk_if_eq (pc := 4) 16 dX7_evening_4 (by decide) (fun h4 => ?_) (fun h4 => ?_)
  · rw [zb_e] at h4
    exact absurd hv h4 --
  · skip
    refine zk_iload_n (pc := 7) 2 dX7_evening_7 rfl rfl ?_
    refine zk_iconst (pc := 8) (v := 0) dX7_evening_8 (by decide) ?_
    refine zk_iconst (pc := 9) (v := 2) dX7_evening_9 (by decide) ?_
    refine zk_callSI (pc := 10) dX7_evening_10 mtX7_within lkX7_130 stX7_within [_, _, _] _ rfl rfl (Nat.le_of_ble_eq_true rfl) (Nat.le_of_ble_eq_true rfl) (sp_X7_within _ _ _) ?_
    refine zk_if_ne (pc := 13) 18 dX7_evening_13 (by decide) (fun h13 => ?_) (fun h13 => ?_)
    · skip
      refine zk_aload_n (pc := 18) 0 dX7_evening_18 rfl rfl ?_
      refine zk_getR (pc := 19) dX7_evening_19 flX7_23 rfl rfl ?_
      refine zk_getI (pc := 22) dX7_evening_22 flX7_123 rfl rfl ?_
      refine zk_if_ne (pc := 25) 31 dX7_evening_25 (by decide) (fun h25 => ?_) (fun h25 => ?_)
      · skip
        refine zk_aload_n (pc := 31) 0 dX7_evening_31 rfl rfl ?_
        refine zk_getR (pc := 32) dX7_evening_32 flX7_45 rfl rfl ?_
        refine zk_aload_n (pc := 35) 0 dX7_evening_35 rfl rfl ?_
        refine zk_getR (pc := 36) dX7_evening_36 flX7_23 rfl rfl ?_
        refine zk_iload_n (pc := 39) 1 dX7_evening_39 rfl rfl ?_
        refine zk_iload_n (pc := 40) 2 dX7_evening_40 rfl rfl ?_
        refine zk_callV (pc := 41) dX7_evening_41 mtX6_play lkX7_268 stX6_play (by rfl) (by rfl) [_, _, _] _ rfl rfl (Nat.le_of_ble_eq_true rfl) (Nat.le_of_ble_eq_true rfl) (sp_play0 hC hC8 hM hM6 v) (fun r m3 l3 q3 => ?_)
        obtain ⟨rfl, rfl, h3⟩ := q3
        exact zk_ireturn (pc := 44) dX7_evening_44 (Or.inl rfl) ⟨rfl, rfl, h3⟩
      · rw [hM] at h25
        exact absurd h25 (nI_ne0 hM0 (by omega)) --
    · rw [zb_e] at h13
      exact absurd (by decide) h13 --
theorem sp_X7_evening1 {C M : Nat} (hC : mu 23 5 = nI C) (hC8 : C ≤ 8) (hM : mu 23 6 = nI M) (hM6 : M ≤ 6) (hM0 : 0 < M) {v : Int32} (hv : 0 ≤ v ∧ v ≤ 99) : zk_M (d + 10) RX7 cX7_evening 3 (some .int) none 0 (zk_loc [.ref 0, .int v, .int 1] 3) [] mu lm (tQ (evn mu C M v 1) mu lm 38) := by
  refine zk_iload_n (pc := 0) 1 dX7_evening_0 rfl rfl ?_
  refine zk_callSI (pc := 1) dX7_evening_1 mtX7_isMeaning lkX7_167 stX7_isMeaning [_] _ rfl rfl (Nat.le_of_ble_eq_true rfl) (Nat.le_of_ble_eq_true rfl) (sp_X7_isMeaning _) ?_
  refine zk_if_eq (pc := 4) 16 dX7_evening_4 (by decide) (fun h4 => ?_) (fun h4 => ?_)
  · rw [zb_e] at h4
    exact absurd hv h4 --
  · skip
    refine zk_iload_n (pc := 7) 2 dX7_evening_7 rfl rfl ?_
    refine zk_iconst (pc := 8) (v := 0) dX7_evening_8 (by decide) ?_
    refine zk_iconst (pc := 9) (v := 2) dX7_evening_9 (by decide) ?_
    refine zk_callSI (pc := 10) dX7_evening_10 mtX7_within lkX7_130 stX7_within [_, _, _] _ rfl rfl (Nat.le_of_ble_eq_true rfl) (Nat.le_of_ble_eq_true rfl) (sp_X7_within _ _ _) ?_
    refine zk_if_ne (pc := 13) 18 dX7_evening_13 (by decide) (fun h13 => ?_) (fun h13 => ?_)
    · skip
      refine zk_aload_n (pc := 18) 0 dX7_evening_18 rfl rfl ?_
      refine zk_getR (pc := 19) dX7_evening_19 flX7_23 rfl rfl ?_
      refine zk_getI (pc := 22) dX7_evening_22 flX7_123 rfl rfl ?_
      refine zk_if_ne (pc := 25) 31 dX7_evening_25 (by decide) (fun h25 => ?_) (fun h25 => ?_)
      · skip
        refine zk_aload_n (pc := 31) 0 dX7_evening_31 rfl rfl ?_
        refine zk_getR (pc := 32) dX7_evening_32 flX7_45 rfl rfl ?_
        refine zk_aload_n (pc := 35) 0 dX7_evening_35 rfl rfl ?_
        refine zk_getR (pc := 36) dX7_evening_36 flX7_23 rfl rfl ?_
        refine zk_iload_n (pc := 39) 1 dX7_evening_39 rfl rfl ?_
        refine zk_iload_n (pc := 40) 2 dX7_evening_40 rfl rfl ?_
        refine zk_callV (pc := 41) dX7_evening_41 mtX6_play lkX7_268 stX6_play (by rfl) (by rfl) [_, _, _] _ rfl rfl (Nat.le_of_ble_eq_true rfl) (Nat.le_of_ble_eq_true rfl) (sp_play1 hC hC8 hM hM6 v) (fun r m3 l3 q3 => ?_)
        obtain ⟨rfl, rfl, h3⟩ := q3
        exact zk_ireturn (pc := 44) dX7_evening_44 (Or.inl rfl) ⟨rfl, rfl, h3⟩
      · rw [hM] at h25
        exact absurd h25 (nI_ne0 hM0 (by omega)) --
    · rw [zb_e] at h13
      exact absurd (by decide) h13 --
theorem sp_X7_evening2 {C M : Nat} (hC : mu 23 5 = nI C) (hC8 : C ≤ 8) (hM : mu 23 6 = nI M) (hM6 : M ≤ 6) (hM0 : 0 < M) {v : Int32} (hv : 0 ≤ v ∧ v ≤ 99) : zk_M (d + 10) RX7 cX7_evening 3 (some .int) none 0 (zk_loc [.ref 0, .int v, .int 2] 3) [] mu lm (tQ (evn mu C M v 2) mu lm 38) := by
  refine zk_iload_n (pc := 0) 1 dX7_evening_0 rfl rfl ?_
  refine zk_callSI (pc := 1) dX7_evening_1 mtX7_isMeaning lkX7_167 stX7_isMeaning [_] _ rfl rfl (Nat.le_of_ble_eq_true rfl) (Nat.le_of_ble_eq_true rfl) (sp_X7_isMeaning _) ?_
  refine zk_if_eq (pc := 4) 16 dX7_evening_4 (by decide) (fun h4 => ?_) (fun h4 => ?_)
  · rw [zb_e] at h4
    exact absurd hv h4 --
  · skip
    refine zk_iload_n (pc := 7) 2 dX7_evening_7 rfl rfl ?_
    refine zk_iconst (pc := 8) (v := 0) dX7_evening_8 (by decide) ?_
    refine zk_iconst (pc := 9) (v := 2) dX7_evening_9 (by decide) ?_
    refine zk_callSI (pc := 10) dX7_evening_10 mtX7_within lkX7_130 stX7_within [_, _, _] _ rfl rfl (Nat.le_of_ble_eq_true rfl) (Nat.le_of_ble_eq_true rfl) (sp_X7_within _ _ _) ?_
    refine zk_if_ne (pc := 13) 18 dX7_evening_13 (by decide) (fun h13 => ?_) (fun h13 => ?_)
    · skip
      refine zk_aload_n (pc := 18) 0 dX7_evening_18 rfl rfl ?_
      refine zk_getR (pc := 19) dX7_evening_19 flX7_23 rfl rfl ?_
      refine zk_getI (pc := 22) dX7_evening_22 flX7_123 rfl rfl ?_
      refine zk_if_ne (pc := 25) 31 dX7_evening_25 (by decide) (fun h25 => ?_) (fun h25 => ?_)
      · skip
        refine zk_aload_n (pc := 31) 0 dX7_evening_31 rfl rfl ?_
        refine zk_getR (pc := 32) dX7_evening_32 flX7_45 rfl rfl ?_
        refine zk_aload_n (pc := 35) 0 dX7_evening_35 rfl rfl ?_
        refine zk_getR (pc := 36) dX7_evening_36 flX7_23 rfl rfl ?_
        refine zk_iload_n (pc := 39) 1 dX7_evening_39 rfl rfl ?_
        refine zk_iload_n (pc := 40) 2 dX7_evening_40 rfl rfl ?_
        refine zk_callV (pc := 41) dX7_evening_41 mtX6_play lkX7_268 stX6_play (by rfl) (by rfl) [_, _, _] _ rfl rfl (Nat.le_of_ble_eq_true rfl) (Nat.le_of_ble_eq_true rfl) (sp_play2 hC hC8 hM hM6 v) (fun r m3 l3 q3 => ?_)
        obtain ⟨rfl, rfl, h3⟩ := q3
        exact zk_ireturn (pc := 44) dX7_evening_44 (Or.inl rfl) ⟨rfl, rfl, h3⟩
      · rw [hM] at h25
        exact absurd h25 (nI_ne0 hM0 (by omega)) --
    · rw [zb_e] at h13
      exact absurd (by decide) h13 --
theorem eu_pos : ∀ n a b : Nat, 0 < b → 0 < eu (n + 1) a b
  | 0, a, b, h => by rw [eu_s, if_neg (by omega)]; exact h
  | n + 1, a, b, h => by
    rw [eu_s, if_neg (by omega)]
    by_cases q : a % b = 0
    · rw [q, eu_s, if_pos rfl]; exact h
    · exact eu_pos n b (a % b) (by omega)
def wthL (lm : MemL) (f : Nat → Int64) (k : Nat) : MemL := zk_uc lm 44 (fun q => if q < k then f q else lm 44 q)
theorem wthL_0 (lm : MemL) (f : Nat → Int64) : wthL lm f 0 = lm := by
  unfold wthL
  have : (fun q => if q < 0 then f q else lm 44 q) = lm 44 := by funext k; simp
  rw [this, zk_uc_self]
theorem wthL_s (lm : MemL) (f : Nat → Int64) (j : Nat) : zk_up (wthL lm f j) 44 j (f j) = wthL lm f (j + 1) := by
  funext c k
  unfold wthL zk_up zk_uc
  by_cases hc : c = 44
  · subst hc
    by_cases hk : k = j
    · subst hk; simp
    · have e : (k < j + 1) = (k < j) := propext ⟨fun h => by omega, fun h => by omega⟩
      simp [hk, e]
  · simp [hc]
def aIn (mu : Mem) (C : Nat) (n : Int32) : Int32 := zsum C (fun j => zmax 0 (mu 27 j - mu 23 4 * n))
theorem wthL_at {lm : MemL} {f : Nat → Int64} {k h : Nat} (hk : h < k) : wthL lm f k 44 h = f h := by unfold wthL; rw [zuc_s, if_pos hk]
theorem sp_X7_odds {C M : Nat} (hC : mu 23 5 = nI C) (hC8 : C ≤ 8) (hM : mu 23 6 = nI M) (hM6 : M ≤ 6) (hM0 : 0 < M) {N P : Nat} (hN : N ≤ 6) (hP : P ≤ 12) (wn : Nat → Nat) (hw2 : ∀ h, h ≤ N → wn h ≤ 7992) {w : Int32} (hww : 0 ≤ w ∧ w ≤ 7992) (hwn : ∀ h, h ≤ N → wn h = if w ≤ aIn mu C (nI h) then 1 else 0) : zk_M (d + 3) RX7 cX7_odds 5 (some .int) none 0 (zk_loc [.ref 0, .int w, .int (nI N), .int (nI P)] 5) [] mu lm (zk_R (some (.int 1)) mu (tellL (wthL lm (fun h => lN (wn h)) (N + 1)) (tA wn P N N) (12 ^ N))) := by
  have hch : (0 ≤ nI N ∧ nI N ≤ 6) ∧ (0 ≤ nI P ∧ nI P ≤ 12) := ⟨⟨nI_pos' (by omega), show nI N ≤ nI 6 from nI_le hN (by decide)⟩, ⟨nI_pos' (by omega), show nI P ≤ nI 12 from nI_le hP (by decide)⟩⟩
  have loop : ∀ k, k ≤ N + 1 → zk_M (d + 3) RX7 cX7_odds 5 (some .int) none 37 [.ref 0, .int w, .int (nI N), .int (nI P), .int (nI k)] [] mu (wthL lm (fun h => lN (wn h)) k) (zk_R (some (.int 1)) mu (tellL (wthL lm (fun h => lN (wn h)) (N + 1)) (tA wn P N N) (12 ^ N))) := by
    refine zk_ind (N + 1) (fun k hk ih => ?_)
    refine zk_iload (pc := 37) dX7_odds_37 rfl ?_
    refine zk_iload_n (pc := 39) 2 dX7_odds_39 rfl rfl ?_
    refine zk_icmp_gt (pc := 40) 74 dX7_odds_40 (by decide) (fun h40 => ?_) (fun h40 => ?_)
    · rw [nIlt (by omega) (by omega)] at h40
      obtain rfl : k = N + 1 := by omega
      refine zk_aload_n (pc := 74) 0 dX7_odds_74 rfl rfl ?_
      refine zk_iload_n (pc := 75) 2 dX7_odds_75 rfl rfl ?_
      refine zk_iload_n (pc := 76) 3 dX7_odds_76 rfl rfl ?_
      refine zk_callVV (pc := 77) dX7_odds_77 mtX7_tellWorth lkX7_278 stX7_tellWorth (by rfl) (by rfl) [_, _] _ rfl rfl (Nat.le_of_ble_eq_true rfl) (Nat.le_of_ble_eq_true rfl) (sp_X7_tellWorth hN hP wn (fun h hh => wthL_at (by omega)) hw2 (eu_pos 199 _ _ (Nat.pow_pos (by decide)))) ?_
      refine zk_iconst (pc := 80) (v := 1) dX7_odds_80 (by decide) ?_
      exact zk_ireturn (pc := 81) dX7_odds_81 (Or.inl rfl) ⟨rfl, rfl, rfl⟩
    · rw [nIlt (by omega) (by omega)] at h40
      refine zk_aload_n (pc := 43) 0 dX7_odds_43 rfl rfl ?_
      refine zk_getR (pc := 44) dX7_odds_44 flX7_53 rfl rfl ?_
      refine zk_iload (pc := 47) dX7_odds_47 rfl ?_
      refine zk_aload_n (pc := 49) 0 dX7_odds_49 rfl rfl ?_
      refine zk_getR (pc := 50) dX7_odds_50 flX7_23 rfl rfl ?_
      refine zk_iload (pc := 53) dX7_odds_53 rfl ?_
      refine zk_callVI (pc := 55) dX7_odds_55 mtX0_allSmokeIn lkX7_275 stX0_allSmokeIn (by rfl) (by rfl) [_] _ rfl rfl (Nat.le_of_ble_eq_true rfl) (Nat.le_of_ble_eq_true rfl) (sp_X0_allSmokeIn hC hC8 _) ?_
      refine zk_iload_n (pc := 58) 1 dX7_odds_58 rfl rfl ?_
      refine zk_icmp_lt (pc := 59) 66 dX7_odds_59 (by decide) (fun h59 => ?_) (fun h59 => ?_)
      · skip
        refine zk_lconst (pc := 66) (v := 0) dX7_odds_66 (by decide) ?_
        refine zk_lastore (pc := 67) k dX7_odds_67 rfl rfl (by omega) ?_
        refine zs_iinc (pc := 68) (ls' := [_, _, _, _, _]) dX7_odds_68 rfl (nI_1 k) (by decide) rfl ?_
        refine zk_goto (pc := 71) 37 dX7_odds_71 (by decide) ?_
        have e := ih (by omega)
        rw [← wthL_s] at e
        first
          | (rw [hwn k (by omega), if_neg (by unfold aIn; simp only [zlt, zle] at *; omega)] at e; exact e)
          | (rw [hwn k (by omega), if_pos (by unfold aIn; simp only [zlt, zle] at *; omega)] at e; exact e)
      · skip
        refine zk_lconst (pc := 62) (v := 1) dX7_odds_62 (by decide) ?_
        refine zk_goto (pc := 63) 67 dX7_odds_63 (by decide) ?_
        refine zk_lastore (pc := 67) k dX7_odds_67 rfl rfl (by omega) ?_
        refine zs_iinc (pc := 68) (ls' := [_, _, _, _, _]) dX7_odds_68 rfl (nI_1 k) (by decide) rfl ?_
        refine zk_goto (pc := 71) 37 dX7_odds_71 (by decide) ?_
        have e := ih (by omega)
        rw [← wthL_s] at e
        first
          | (rw [hwn k (by omega), if_neg (by unfold aIn; simp only [zlt, zle] at *; omega)] at e; exact e)
          | (rw [hwn k (by omega), if_pos (by unfold aIn; simp only [zlt, zle] at *; omega)] at e; exact e)
  have e0 := loop 0 (Nat.zero_le _)
  rw [wthL_0] at e0
  refine zk_iload_n (pc := 0) 1 dX7_odds_0 rfl rfl ?_
  refine zk_iconst (pc := 1) (v := 0) dX7_odds_1 (by decide) ?_
  refine zk_sipush (pc := 2) (v := 7992) dX7_odds_2 (by decide) ?_
  refine zk_callSI (pc := 5) dX7_odds_5 mtX7_within lkX7_130 stX7_within [_, _, _] _ rfl rfl (Nat.le_of_ble_eq_true rfl) (Nat.le_of_ble_eq_true rfl) (sp_X7_within _ _ _) ?_
  refine zk_if_eq (pc := 8) 19 dX7_odds_8 (by decide) (fun h8 => ?_) (fun h8 => ?_)
  · rw [zb_e] at h8
    exact absurd hww h8 --
  · skip
    refine zk_iload_n (pc := 11) 2 dX7_odds_11 rfl rfl ?_
    refine zk_iload_n (pc := 12) 3 dX7_odds_12 rfl rfl ?_
    refine zk_callSI (pc := 13) dX7_odds_13 mtX7_areChances lkX7_272 stX7_areChances [_, _] _ rfl rfl (Nat.le_of_ble_eq_true rfl) (Nat.le_of_ble_eq_true rfl) (sp_X7_areChances _ _) ?_
    refine zk_if_ne (pc := 16) 21 dX7_odds_16 (by decide) (fun h16 => ?_) (fun h16 => ?_)
    · skip
      refine zk_aload_n (pc := 21) 0 dX7_odds_21 rfl rfl ?_
      refine zk_getR (pc := 22) dX7_odds_22 flX7_23 rfl rfl ?_
      refine zk_getI (pc := 25) dX7_odds_25 flX7_123 rfl rfl ?_
      refine zk_if_ne (pc := 28) 34 dX7_odds_28 (by decide) (fun h28 => ?_) (fun h28 => ?_)
      · skip
        refine zk_iconst (pc := 34) (v := 0) dX7_odds_34 (by decide) ?_
        refine zs_istore (pc := 35) (ls' := [_, _, _, _, _]) 4 dX7_odds_35 (by decide) rfl ?_
        exact e0
      · rw [hM] at h28
        exact absurd h28 (nI_ne0 hM0 (by omega)) --
    · rw [zb_e] at h16
      exact absurd hch h16 --
theorem sp_X7_mid {C M : Nat} (hC : mu 23 5 = nI C) (hC8 : C ≤ 8) (hM : mu 23 6 = nI M) (hM6 : M ≤ 6) (hM0 : 0 < M) {N P : Nat} (hN : N ≤ 6) (hP : P ≤ 12) (wn : Nat → Nat) (hw2 : ∀ h, h ≤ N → wn h ≤ 7992) (hwn : ∀ h, h ≤ N → aIn mu C (nI h) = nI (wn h)) : zk_M (d + 3) RX7 cX7_mid 4 (some .int) none 0 (zk_loc [.ref 0, .int (nI N), .int (nI P)] 4) [] mu lm (zk_R (some (.int 1)) mu (tellL (wthL lm (fun h => lN (wn h)) (N + 1)) (tA wn P N N) (12 ^ N))) := by
  have hch : (0 ≤ nI N ∧ nI N ≤ 6) ∧ (0 ≤ nI P ∧ nI P ≤ 12) := ⟨⟨nI_pos' (by omega), show nI N ≤ nI 6 from nI_le hN (by decide)⟩, ⟨nI_pos' (by omega), show nI P ≤ nI 12 from nI_le hP (by decide)⟩⟩
  have loop : ∀ k, k ≤ N + 1 → zk_M (d + 3) RX7 cX7_mid 4 (some .int) none 25 [.ref 0, .int (nI N), .int (nI P), .int (nI k)] [] mu (wthL lm (fun h => lN (wn h)) k) (zk_R (some (.int 1)) mu (tellL (wthL lm (fun h => lN (wn h)) (N + 1)) (tA wn P N N) (12 ^ N))) := by
    refine zk_ind (N + 1) (fun k hk ih => ?_)
    refine zk_iload_n (pc := 25) 3 dX7_mid_25 rfl rfl ?_
    refine zk_iload_n (pc := 26) 1 dX7_mid_26 rfl rfl ?_
    refine zk_icmp_gt (pc := 27) 51 dX7_mid_27 (by decide) (fun h27 => ?_) (fun h27 => ?_)
    · rw [nIlt (by omega) (by omega)] at h27
      obtain rfl : k = N + 1 := by omega
      refine zk_aload_n (pc := 51) 0 dX7_mid_51 rfl rfl ?_
      refine zk_iload_n (pc := 52) 1 dX7_mid_52 rfl rfl ?_
      refine zk_iload_n (pc := 53) 2 dX7_mid_53 rfl rfl ?_
      refine zk_callVV (pc := 54) dX7_mid_54 mtX7_tellWorth lkX7_278 stX7_tellWorth (by rfl) (by rfl) [_, _] _ rfl rfl (Nat.le_of_ble_eq_true rfl) (Nat.le_of_ble_eq_true rfl) (sp_X7_tellWorth hN hP wn (fun h hh => wthL_at (by omega)) hw2 (eu_pos 199 _ _ (Nat.pow_pos (by decide)))) ?_
      refine zk_iconst (pc := 57) (v := 1) dX7_mid_57 (by decide) ?_
      exact zk_ireturn (pc := 58) dX7_mid_58 (Or.inl rfl) ⟨rfl, rfl, rfl⟩
    · rw [nIlt (by omega) (by omega)] at h27
      refine zk_aload_n (pc := 30) 0 dX7_mid_30 rfl rfl ?_
      refine zk_getR (pc := 31) dX7_mid_31 flX7_53 rfl rfl ?_
      refine zk_iload_n (pc := 34) 3 dX7_mid_34 rfl rfl ?_
      refine zk_aload_n (pc := 35) 0 dX7_mid_35 rfl rfl ?_
      refine zk_getR (pc := 36) dX7_mid_36 flX7_23 rfl rfl ?_
      refine zk_iload_n (pc := 39) 3 dX7_mid_39 rfl rfl ?_
      refine zk_callVI (pc := 40) dX7_mid_40 mtX0_allSmokeIn lkX7_275 stX0_allSmokeIn (by rfl) (by rfl) [_] _ rfl rfl (Nat.le_of_ble_eq_true rfl) (Nat.le_of_ble_eq_true rfl) (sp_X0_allSmokeIn hC hC8 _) ?_
      refine zk_i2l (pc := 43) dX7_mid_43 ?_
      refine zk_lastore (pc := 44) k dX7_mid_44 rfl rfl (by omega) ?_
      refine zs_iinc (pc := 45) (ls' := [_, _, _, _]) dX7_mid_45 rfl (nI_1 k) (by decide) rfl ?_
      refine zk_goto (pc := 48) 25 dX7_mid_48 (by decide) ?_
      have e := ih (by omega)
      rw [← wthL_s] at e
      have hk2 := hwn k (by omega)
      unfold aIn at hk2
      rw [hk2, nI_l (by have := hw2 k (by omega); omega)]
      exact e
  have e0 := loop 0 (Nat.zero_le _)
  rw [wthL_0] at e0
  refine zk_iload_n (pc := 0) 1 dX7_mid_0 rfl rfl ?_
  refine zk_iload_n (pc := 1) 2 dX7_mid_1 rfl rfl ?_
  refine zk_callSI (pc := 2) dX7_mid_2 mtX7_areChances lkX7_272 stX7_areChances [_, _] _ rfl rfl (Nat.le_of_ble_eq_true rfl) (Nat.le_of_ble_eq_true rfl) (sp_X7_areChances _ _) ?_
  refine zk_if_ne (pc := 5) 10 dX7_mid_5 (by decide) (fun h5 => ?_) (fun h5 => ?_)
  · skip
    refine zk_aload_n (pc := 10) 0 dX7_mid_10 rfl rfl ?_
    refine zk_getR (pc := 11) dX7_mid_11 flX7_23 rfl rfl ?_
    refine zk_getI (pc := 14) dX7_mid_14 flX7_123 rfl rfl ?_
    refine zk_if_ne (pc := 17) 23 dX7_mid_17 (by decide) (fun h17 => ?_) (fun h17 => ?_)
    · skip
      refine zk_iconst (pc := 23) (v := 0) dX7_mid_23 (by decide) ?_
      refine zs_istore_n (pc := 24) (ls' := [_, _, _, _]) 3 dX7_mid_24 rfl (by decide) rfl ?_
      exact e0
    · rw [hM] at h17
      exact absurd h17 (nI_ne0 hM0 (by omega)) --
  · rw [zb_e] at h5
    exact absurd hch h5 --
theorem sp_X7_odds_n (w n p : Int32) (hb : ¬ ((0 ≤ w ∧ w ≤ 7992) ∧ (0 ≤ n ∧ n ≤ 6) ∧ (0 ≤ p ∧ p ≤ 12))) : zk_M (d + 2) RX7 cX7_odds 5 (some .int) none 0 (zk_loc [.ref 0, .int w, .int n, .int p] 5) [] mu lm (zk_R (some (.int (-1))) mu lm) := by
  refine zk_iload_n (pc := 0) 1 dX7_odds_0 rfl rfl ?_
  refine zk_iconst (pc := 1) (v := 0) dX7_odds_1 (by decide) ?_
  refine zk_sipush (pc := 2) (v := 7992) dX7_odds_2 (by decide) ?_
  refine zk_callSI (pc := 5) dX7_odds_5 mtX7_within lkX7_130 stX7_within [_, _, _] _ rfl rfl (Nat.le_of_ble_eq_true rfl) (Nat.le_of_ble_eq_true rfl) (sp_X7_within _ _ _) ?_
  refine zk_if_eq (pc := 8) 19 dX7_odds_8 (by decide) (fun h8 => ?_) (fun h8 => ?_)
  · rw [zb_e] at h8
    refine zk_iconst (pc := 19) (v := -1) dX7_odds_19 (by decide) ?_
    exact zk_ireturn (pc := 20) dX7_odds_20 (Or.inl rfl) (zk_ri rfl)
  · rw [zb_n] at h8
    refine zk_iload_n (pc := 11) 2 dX7_odds_11 rfl rfl ?_
    refine zk_iload_n (pc := 12) 3 dX7_odds_12 rfl rfl ?_
    refine zk_callSI (pc := 13) dX7_odds_13 mtX7_areChances lkX7_272 stX7_areChances [_, _] _ rfl rfl (Nat.le_of_ble_eq_true rfl) (Nat.le_of_ble_eq_true rfl) (sp_X7_areChances _ _) ?_
    refine zk_if_ne (pc := 16) 21 dX7_odds_16 (by decide) (fun h16 => ?_) (fun h16 => ?_)
    · rw [zb_n] at h16
      exact absurd ⟨h8, h16⟩ hb --
    · rw [zb_e] at h16
      refine zk_iconst (pc := 19) (v := -1) dX7_odds_19 (by decide) ?_
      exact zk_ireturn (pc := 20) dX7_odds_20 (Or.inl rfl) (zk_ri rfl)
theorem sp_X7_odds_0 {w n p : Int32} (hb : (0 ≤ w ∧ w ≤ 7992) ∧ (0 ≤ n ∧ n ≤ 6) ∧ (0 ≤ p ∧ p ≤ 12)) (hM : mu 23 6 = 0) : zk_M (d + 2) RX7 cX7_odds 5 (some .int) none 0 (zk_loc [.ref 0, .int w, .int n, .int p] 5) [] mu lm (zk_R (some (.int (-4))) mu lm) := by
  refine zk_iload_n (pc := 0) 1 dX7_odds_0 rfl rfl ?_
  refine zk_iconst (pc := 1) (v := 0) dX7_odds_1 (by decide) ?_
  refine zk_sipush (pc := 2) (v := 7992) dX7_odds_2 (by decide) ?_
  refine zk_callSI (pc := 5) dX7_odds_5 mtX7_within lkX7_130 stX7_within [_, _, _] _ rfl rfl (Nat.le_of_ble_eq_true rfl) (Nat.le_of_ble_eq_true rfl) (sp_X7_within _ _ _) ?_
  refine zk_if_eq (pc := 8) 19 dX7_odds_8 (by decide) (fun h8 => ?_) (fun h8 => ?_)
  · rw [zb_e] at h8
    exact absurd hb.1 h8 --
  · skip
    refine zk_iload_n (pc := 11) 2 dX7_odds_11 rfl rfl ?_
    refine zk_iload_n (pc := 12) 3 dX7_odds_12 rfl rfl ?_
    refine zk_callSI (pc := 13) dX7_odds_13 mtX7_areChances lkX7_272 stX7_areChances [_, _] _ rfl rfl (Nat.le_of_ble_eq_true rfl) (Nat.le_of_ble_eq_true rfl) (sp_X7_areChances _ _) ?_
    refine zk_if_ne (pc := 16) 21 dX7_odds_16 (by decide) (fun h16 => ?_) (fun h16 => ?_)
    · skip
      refine zk_aload_n (pc := 21) 0 dX7_odds_21 rfl rfl ?_
      refine zk_getR (pc := 22) dX7_odds_22 flX7_23 rfl rfl ?_
      refine zk_getI (pc := 25) dX7_odds_25 flX7_123 rfl rfl ?_
      refine zk_if_ne (pc := 28) 34 dX7_odds_28 (by decide) (fun h28 => ?_) (fun h28 => ?_)
      · exact absurd hM h28 --
      · skip
        refine zk_bipush (pc := 31) (v := -4) dX7_odds_31 (by decide) ?_
        exact zk_ireturn (pc := 33) dX7_odds_33 (Or.inl rfl) (zk_ri rfl)
    · rw [zb_e] at h16
      exact absurd hb.2 h16 --
theorem sp_X7_mid_n (n p : Int32) (hb : ¬ ((0 ≤ n ∧ n ≤ 6) ∧ (0 ≤ p ∧ p ≤ 12))) : zk_M (d + 2) RX7 cX7_mid 4 (some .int) none 0 (zk_loc [.ref 0, .int n, .int p] 4) [] mu lm (zk_R (some (.int (-1))) mu lm) := by
  refine zk_iload_n (pc := 0) 1 dX7_mid_0 rfl rfl ?_
  refine zk_iload_n (pc := 1) 2 dX7_mid_1 rfl rfl ?_
  refine zk_callSI (pc := 2) dX7_mid_2 mtX7_areChances lkX7_272 stX7_areChances [_, _] _ rfl rfl (Nat.le_of_ble_eq_true rfl) (Nat.le_of_ble_eq_true rfl) (sp_X7_areChances _ _) ?_
  refine zk_if_ne (pc := 5) 10 dX7_mid_5 (by decide) (fun h5 => ?_) (fun h5 => ?_)
  · rw [zb_n] at h5
    exact absurd h5 hb --
  · rw [zb_e] at h5
    refine zk_iconst (pc := 8) (v := -1) dX7_mid_8 (by decide) ?_
    exact zk_ireturn (pc := 9) dX7_mid_9 (Or.inl rfl) (zk_ri rfl)
theorem sp_X7_mid_0 {n p : Int32} (hb : (0 ≤ n ∧ n ≤ 6) ∧ (0 ≤ p ∧ p ≤ 12)) (hM : mu 23 6 = 0) : zk_M (d + 2) RX7 cX7_mid 4 (some .int) none 0 (zk_loc [.ref 0, .int n, .int p] 4) [] mu lm (zk_R (some (.int (-4))) mu lm) := by
  refine zk_iload_n (pc := 0) 1 dX7_mid_0 rfl rfl ?_
  refine zk_iload_n (pc := 1) 2 dX7_mid_1 rfl rfl ?_
  refine zk_callSI (pc := 2) dX7_mid_2 mtX7_areChances lkX7_272 stX7_areChances [_, _] _ rfl rfl (Nat.le_of_ble_eq_true rfl) (Nat.le_of_ble_eq_true rfl) (sp_X7_areChances _ _) ?_
  refine zk_if_ne (pc := 5) 10 dX7_mid_5 (by decide) (fun h5 => ?_) (fun h5 => ?_)
  · skip
    refine zk_aload_n (pc := 10) 0 dX7_mid_10 rfl rfl ?_
    refine zk_getR (pc := 11) dX7_mid_11 flX7_23 rfl rfl ?_
    refine zk_getI (pc := 14) dX7_mid_14 flX7_123 rfl rfl ?_
    refine zk_if_ne (pc := 17) 23 dX7_mid_17 (by decide) (fun h17 => ?_) (fun h17 => ?_)
    · exact absurd hM h17 --
    · skip
      refine zk_bipush (pc := 20) (v := -4) dX7_mid_20 (by decide) ?_
      exact zk_ireturn (pc := 22) dX7_mid_22 (Or.inl rfl) (zk_ri rfl)
  · rw [zb_e] at h5
    exact absurd hb h5 --
end M36
