section M30
variable {d : Nat} {mu : Mem} {lm : MemL}
theorem eu_lt {L : Nat} : ∀ n a b : Nat, a < L → b < L → eu n a b < L
  | 0, a, b, ha, _ => ha
  | n + 1, a, b, ha, hb => by
    rw [eu_s]
    split
    · exact ha
    · exact eu_lt n b (a % b) hb (Nat.lt_trans (Nat.mod_lt _ (by omega)) hb)
theorem lN_gt0 {y : Nat} (hy : y < 2 ^ 63) (h : 0 < y) : ¬ lg_cmp (lN y) 0 ≤ 0 := by
  unfold lg_cmp
  rw [if_pos (show lN y > 0 from (pk_lLT (by decide) hy).mpr h)]
  decide
def tellL (lm : MemL) (A B : Nat) : MemL := zk_up (zk_up lm 0 11 (lN (A / eu 200 A B))) 0 12 (lN (B / eu 200 A B))
theorem sp_X7_tell {A B : Nat} (hA : A < 2 ^ 63) (hB : B < 2 ^ 63) (h0 : 0 < eu 200 A B) : zk_M (d + 1) RX7 cX7_tell 7 (none) none 0 (zk_loc [.ref 0, .long (lN A), .long (lN B)] 7) [] mu lm (zk_R none mu (tellL lm A B)) := by
  have hg : eu 200 A B < 2 ^ 63 := eu_lt _ _ _ hA hB
  refine zk_lload_n (pc := 0) 1 dX7_tell_0 rfl rfl ?_
  refine zk_lload_n (pc := 1) 3 dX7_tell_1 rfl rfl ?_
  refine zk_callSJ (pc := 2) dX7_tell_2 mtX7_commonDivisor lkX7_374 stX7_commonDivisor [_, _] _ rfl rfl (Nat.le_of_ble_eq_true rfl) (Nat.le_of_ble_eq_true rfl) (sp_X7_commonDivisor hA hB) ?_
  refine zs_lstore (pc := 5) (ls' := [_, _, _, _, _, _, _]) 5 dX7_tell_5 (by decide) rfl ?_
  refine zk_lload (pc := 7) dX7_tell_7 rfl ?_
  refine zk_lconst (pc := 9) (v := 0) dX7_tell_9 (by decide) ?_
  refine zk_lcmp (pc := 10) dX7_tell_10 ?_
  refine zk_if_le (pc := 11) 30 dX7_tell_11 (by decide) (fun h11 => ?_) (fun h11 => ?_)
  · exact absurd h11 (lN_gt0 hg h0) --
  · skip
    refine zk_aload_n (pc := 14) 0 dX7_tell_14 rfl rfl ?_
    refine zk_lload_n (pc := 15) 1 dX7_tell_15 rfl rfl ?_
    refine zk_lload (pc := 16) dX7_tell_16 rfl ?_
    refine zk_ldiv (pc := 18) dX7_tell_18 (by rw [show (0 : Int64) = lN 0 from rfl, propext (pk_lEQ hg (by decide))]; omega) ?_
    rw [pk_lDiv hA h0 hg]
    refine zk_putL (pc := 19) dX7_tell_19 flX7_289 rfl rfl ?_
    refine zk_aload_n (pc := 22) 0 dX7_tell_22 rfl rfl ?_
    refine zk_lload_n (pc := 23) 3 dX7_tell_23 rfl rfl ?_
    refine zk_lload (pc := 24) dX7_tell_24 rfl ?_
    refine zk_ldiv (pc := 26) dX7_tell_26 (by rw [show (0 : Int64) = lN 0 from rfl, propext (pk_lEQ hg (by decide))]; omega) ?_
    rw [pk_lDiv hB h0 hg]
    refine zk_putL (pc := 27) dX7_tell_27 flX7_60 rfl rfl ?_
    exact zk_return (pc := 30) dX7_tell_30 rfl (zk_rv0 rfl rfl)
def tA (w : Nat → Nat) (P N : Nat) : Nat → Nat
  | 0 => w N
  | k + 1 => P * w (N - 1 - k) * 12 ^ k + (12 - P) * tA w P N k
theorem tA_le {w : Nat → Nat} {P N : Nat} (hP : P ≤ 12) (hw : ∀ h, h ≤ N → w h ≤ 7992) : ∀ k, tA w P N k ≤ 7992 * 12 ^ k
  | 0 => by rw [tA, Nat.pow_zero, Nat.mul_one]; exact hw N (Nat.le_refl _)
  | k + 1 => by
    have ih := tA_le hP hw k
    have h1 := hw (N - 1 - k) (by omega)
    rw [tA, Nat.pow_succ]
    have e1 : P * w (N - 1 - k) * 12 ^ k ≤ P * 7992 * 12 ^ k := Nat.mul_le_mul_right _ (Nat.mul_le_mul_left _ h1)
    have e2 : (12 - P) * tA w P N k ≤ (12 - P) * (7992 * 12 ^ k) := Nat.mul_le_mul_left _ ih
    have e3 : P * 7992 * 12 ^ k + (12 - P) * (7992 * 12 ^ k) = 12 * (7992 * 12 ^ k) := by
      rw [Nat.mul_assoc P, ← Nat.add_mul, show P + (12 - P) = 12 by omega]
    have e4 : 7992 * (12 ^ k * 12) = 12 * (7992 * 12 ^ k) := by rw [← Nat.mul_assoc, Nat.mul_comm]
    omega
theorem sp_X7_tellWorth {N P : Nat} (hN : N ≤ 6) (hP : P ≤ 12) (w : Nat → Nat) (hw : ∀ h, h ≤ N → lm 44 h = lN (w h)) (hw2 : ∀ h, h ≤ N → w h ≤ 7992) (h0 : 0 < eu 200 (tA w P N N) (12 ^ N)) : zk_M (d + 2) RX7 cX7_tellWorth 8 (none) none 0 (zk_loc [.ref 0, .int (nI N), .int (nI P)] 8) [] mu lm (zk_R none mu (tellL lm (tA w P N N) (12 ^ N))) := by
  have hA := tA_le hP hw2 N
  have h12 : 12 ^ N ≤ 12 ^ 6 := Nat.pow_le_pow_right (by decide) hN
  have hA2 : tA w P N N < 2 ^ 63 := Nat.lt_of_le_of_lt hA (Nat.lt_of_le_of_lt (Nat.mul_le_mul_left _ h12) (by decide))
  have hB2 : 12 ^ N < 2 ^ 63 := Nat.lt_of_le_of_lt h12 (by decide)
  have loop : ∀ k, k ≤ N → zk_M (d + 2) RX7 cX7_tellWorth 8 (none) none 15 [.ref 0, .int (nI N), .int (nI P), .long (lN (tA w P N k)), .retAddr 0, .long (lN (12 ^ k)), .retAddr 0, .int (nI (N - k) - 1)] [] mu lm (zk_R none mu (tellL lm (tA w P N N) (12 ^ N))) := by
    refine zk_ind N (fun k hk ih => ?_)
    refine zk_iload (pc := 15) dX7_tellWorth_15 rfl ?_
    refine zk_if_lt (pc := 17) 56 dX7_tellWorth_17 (by decide) (fun h17 => ?_) (fun h17 => ?_)
    · rw [zm_lt (by omega)] at h17
      obtain rfl : k = N := by omega
      refine zk_aload_n (pc := 56) 0 dX7_tellWorth_56 rfl rfl ?_
      refine zk_lload_n (pc := 57) 3 dX7_tellWorth_57 rfl rfl ?_
      refine zk_lload (pc := 58) dX7_tellWorth_58 rfl ?_
      refine zk_callVV (pc := 60) dX7_tellWorth_60 mtX7_tell lkX7_235 stX7_tell (by rfl) (by rfl) [_, _] _ rfl rfl (Nat.le_of_ble_eq_true rfl) (Nat.le_of_ble_eq_true rfl) (sp_X7_tell hA2 hB2 h0) ?_
      exact zk_return (pc := 63) dX7_tellWorth_63 rfl (zk_rv0 rfl rfl)
    · rw [zm_lt (by omega)] at h17
      obtain ⟨j, hj⟩ : ∃ j, N - k = j + 1 := ⟨N - k - 1, by omega⟩
      rw [hj, nI_pred]
      refine zk_iload_n (pc := 20) 2 dX7_tellWorth_20 rfl rfl ?_
      refine zk_i2l (pc := 21) dX7_tellWorth_21 ?_
      refine zk_aload_n (pc := 22) 0 dX7_tellWorth_22 rfl rfl ?_
      refine zk_getR (pc := 23) dX7_tellWorth_23 flX7_53 rfl rfl ?_
      refine zk_iload (pc := 26) dX7_tellWorth_26 rfl ?_
      refine zk_laload (pc := 28) j dX7_tellWorth_28 rfl rfl (by omega) ?_
      refine zk_lmul (pc := 29) dX7_tellWorth_29 ?_
      refine zk_lload (pc := 30) dX7_tellWorth_30 rfl ?_
      refine zk_lmul (pc := 32) dX7_tellWorth_32 ?_
      refine zk_bipush (pc := 33) (v := 12) dX7_tellWorth_33 (by decide) ?_
      refine zk_iload_n (pc := 35) 2 dX7_tellWorth_35 rfl rfl ?_
      refine zk_isub (pc := 36) dX7_tellWorth_36 ?_
      refine zk_i2l (pc := 37) dX7_tellWorth_37 ?_
      refine zk_lload_n (pc := 38) 3 dX7_tellWorth_38 rfl rfl ?_
      refine zk_lmul (pc := 39) dX7_tellWorth_39 ?_
      refine zk_ladd (pc := 40) dX7_tellWorth_40 ?_
      refine zs_lstore_n (pc := 41) (ls' := [_, _, _, _, _, _, _, _]) 3 dX7_tellWorth_41 rfl (by decide) rfl ?_
      refine zk_lload (pc := 42) dX7_tellWorth_42 rfl ?_
      refine zk_ldc2 (pc := 44) dX7_tellWorth_44 kcX7_372 ?_
      refine zk_lmul (pc := 47) dX7_tellWorth_47 ?_
      refine zs_lstore (pc := 48) (ls' := [_, _, _, _, _, _, _, _]) 5 dX7_tellWorth_48 (by decide) rfl ?_
      refine zs_iinc (pc := 50) (ls' := [_, _, _, _, _, _, _, _]) dX7_tellWorth_50 rfl (show nI j + Int32.ofInt (-1) = nI j - 1 from by rw [Int32.sub_eq_add_neg]; rfl) (by decide) rfl ?_
      refine zk_goto (pc := 53) 15 dX7_tellWorth_53 (by decide) ?_
      rw [nI_l (show P < 2 ^ 31 by omega), hw _ (by omega), show (12 : Int32) = nI 12 from rfl, pk_sub hP, nI_l (show 12 - P < 2 ^ 31 by omega), lN_mul, lN_mul, lN_mul, lN_add, show (12 : Int64) = lN 12 from rfl, lN_mul]
      have e := ih (by omega)
      rw [Nat.pow_succ, show N - (k + 1) = j by omega] at e
      rw [show j = N - 1 - k by omega] at e ⊢
      exact e
  have e0 := loop 0 (Nat.zero_le _)
  rw [Nat.pow_zero, Nat.sub_zero] at e0
  refine zk_aload_n (pc := 0) 0 dX7_tellWorth_0 rfl rfl ?_
  refine zk_getR (pc := 1) dX7_tellWorth_1 flX7_53 rfl rfl ?_
  refine zk_iload_n (pc := 4) 1 dX7_tellWorth_4 rfl rfl ?_
  refine zk_laload (pc := 5) N dX7_tellWorth_5 rfl rfl (by omega) ?_
  refine zs_lstore_n (pc := 6) (ls' := [_, _, _, _, _, _, _, _]) 3 dX7_tellWorth_6 rfl (by decide) rfl ?_
  refine zk_lconst (pc := 7) (v := 1) dX7_tellWorth_7 (by decide) ?_
  refine zs_lstore (pc := 8) (ls' := [_, _, _, _, _, _, _, _]) 5 dX7_tellWorth_8 (by decide) rfl ?_
  refine zk_iload_n (pc := 10) 1 dX7_tellWorth_10 rfl rfl ?_
  refine zk_iconst (pc := 11) (v := 1) dX7_tellWorth_11 (by decide) ?_
  refine zk_isub (pc := 12) dX7_tellWorth_12 ?_
  refine zs_istore (pc := 13) (ls' := [_, _, _, _, _, _, _, _]) 7 dX7_tellWorth_13 (by decide) rfl ?_
  rw [hw N (Nat.le_refl _)]
  exact e0
/-- a deed: 0 one talks (o: who, v: what is meant), 1 an hour, 2 a window (o: which), 3 thunder -/
def enM (mu : Mem) (C w o : Nat) (v : Int32) : Mem := if w = 0 then talkM mu C o v else if w = 1 then hourM mu C else if w = 2 then zk_up mu 27 o 0 else thunM mu C
def enR (mu : Mem) (C w o : Nat) (v : Int32) : Int32 := if w = 0 then kSay (mu 24 o) v else if w = 1 then zsum C (mu 27) - zsum C (hourM mu C 27) else if w = 2 then mu 27 o else mu 23 8 + zsum C (mu 27)
def dOk (C M w o : Nat) : Prop := w < 4 ∧ (w = 0 → o < M) ∧ (w = 2 → o < C)
theorem sp_X7_enact {C M w o : Nat} (hC : mu 23 5 = nI C) (hC8 : C ≤ 8) (hM : mu 23 6 = nI M) (hM6 : M ≤ 6) (hd : dOk C M w o) (v : Int32) : zk_M (d + 6) RX7 cX7_enact 4 (some .int) none 0 (zk_loc [.ref 0, .int (nI w), .int (nI o), .int v] 4) [] mu lm (zk_R (some (.int (enR mu C w o v))) (enM mu C w o v) lm) := by
  refine zk_iload_n (pc := 0) 1 dX7_enact_0 rfl rfl ?_
  obtain ⟨h4, h0, h2⟩ := hd
  match w, h4, h0, h2 with
  | 0, _, h0, _ =>
    refine zk_tabIn (pc := 1) 28 dX7_enact_1 (by decide) (by decide) (by rfl) (by decide) ?_
    refine zk_aload_n (pc := 28) 0 dX7_enact_28 rfl rfl ?_
    refine zk_getR (pc := 29) dX7_enact_29 flX7_23 rfl rfl ?_
    refine zk_iload_n (pc := 32) 2 dX7_enact_32 rfl rfl ?_
    refine zk_iload_n (pc := 33) 3 dX7_enact_33 rfl rfl ?_
    refine zk_callVI (pc := 34) dX7_enact_34 mtX0_letTalk lkX7_345 stX0_letTalk (by rfl) (by rfl) [_, _] _ rfl rfl (Nat.le_of_ble_eq_true rfl) (Nat.le_of_ble_eq_true rfl) (sp_X0_letTalk hC hC8 hM hM6 (h0 rfl) v) ?_
    refine zk_ireturn (pc := 37) dX7_enact_37 (Or.inl rfl) ?_
    exact zk_rm rfl rfl rfl
  | 1, _, _, _ =>
    refine zk_tabIn (pc := 1) 38 dX7_enact_1 (by decide) (by decide) (by rfl) (by decide) ?_
    refine zk_aload_n (pc := 38) 0 dX7_enact_38 rfl rfl ?_
    refine zk_getR (pc := 39) dX7_enact_39 flX7_23 rfl rfl ?_
    refine zk_callVI (pc := 42) dX7_enact_42 mtX0_passHour lkX7_348 stX0_passHour (by rfl) (by rfl) [] _ rfl rfl (Nat.le_of_ble_eq_true rfl) (Nat.le_of_ble_eq_true rfl) (sp_X0_passHour hC hC8) ?_
    refine zk_ireturn (pc := 45) dX7_enact_45 (Or.inl rfl) ?_
    exact zk_rm rfl rfl rfl
  | 2, _, _, h2 =>
    refine zk_tabIn (pc := 1) 46 dX7_enact_1 (by decide) (by decide) (by rfl) (by decide) ?_
    refine zk_aload_n (pc := 46) 0 dX7_enact_46 rfl rfl ?_
    refine zk_getR (pc := 47) dX7_enact_47 flX7_23 rfl rfl ?_
    refine zk_iload_n (pc := 50) 2 dX7_enact_50 rfl rfl ?_
    refine zk_callVI (pc := 51) dX7_enact_51 mtX0_openCell lkX7_351 stX0_openCell (by rfl) (by rfl) [_] _ rfl rfl (Nat.le_of_ble_eq_true rfl) (Nat.le_of_ble_eq_true rfl) (sp_X0_openCell hC hC8 (h2 rfl)) ?_
    refine zk_ireturn (pc := 54) dX7_enact_54 (Or.inl rfl) ?_
    exact zk_rm rfl rfl rfl
  | 3, _, _, _ =>
    refine zk_tabOut (pc := 1) 55 dX7_enact_1 (by decide) (by decide) ?_
    refine zk_aload_n (pc := 55) 0 dX7_enact_55 rfl rfl ?_
    refine zk_getR (pc := 56) dX7_enact_56 flX7_23 rfl rfl ?_
    refine zk_callVI (pc := 59) dX7_enact_59 mtX0_comeDown lkX7_354 stX0_comeDown (by rfl) (by rfl) [] _ rfl rfl (Nat.le_of_ble_eq_true rfl) (Nat.le_of_ble_eq_true rfl) (sp_X0_comeDown hC hC8) ?_
    refine zk_ireturn (pc := 62) dX7_enact_62 (Or.inl rfl) ?_
    exact zk_rm rfl rfl rfl
theorem enM_c {mu : Mem} {C w o : Nat} {v : Int32} {c : Nat} (h1 : c ≠ 23) (h2 : c ≠ 26) (h3 : c ≠ 27) : enM mu C w o v c = mu c := by
  unfold enM
  split
  · unfold talkM; funext k; rw [zup_c _ _ _ h1, zup_c _ _ _ h2, brth_c _ _ _ _ h3]
  · split
    · unfold hourM; funext k; rw [zup_c _ _ _ h1, hourA_c _ _ h3]
    · split
      · funext k; rw [zup_c _ _ _ h3]
      · unfold thunM; funext k; rw [zfill_c _ _ _ _ h3, zup_c _ _ _ h1]
theorem enM_k {mu : Mem} {C w o : Nat} {v : Int32} {k : Nat} (h1 : k ≠ 7) (h2 : k ≠ 8) (h3 : k ≠ 9) : enM mu C w o v 23 k = mu 23 k := by
  unfold enM
  split
  · unfold talkM; rw [zup_k _ _ _ h3, zup_c _ _ _ (by decide), brth_c _ _ _ _ (by decide)]
  · split
    · unfold hourM; rw [zup_k _ _ _ h1, hourA_c _ _ (by decide)]
    · split
      · rw [zup_c _ _ _ (by decide)]
      · unfold thunM; rw [zfill_c _ _ _ _ (by decide), zup_k _ _ _ h2]
def dCode (w o v : Nat) : Nat := (v * 8 + o) * 4 + w
/-- a deed is written down as the n-th, memory behind that -/
def wrD (mu : Mem) (n w o v : Nat) : Mem := zk_up (zk_up mu 29 n (nI (dCode w o v))) 28 1 (nI (n + 1))
theorem wrD_c {mu : Mem} {n w o v c k : Nat} (h1 : c ≠ 28) (h2 : c ≠ 29) : wrD mu n w o v c k = mu c k := by unfold wrD; rw [zup_c _ _ _ h1, zup_c _ _ _ h2]
theorem sp_X7_perform {C M w o v n : Nat} (hC : mu 23 5 = nI C) (hC8 : C ≤ 8) (hM : mu 23 6 = nI M) (hM6 : M ≤ 6) (hd : dOk C M w o) (hn : mu 28 1 = nI n) (hn4 : n < 40) : zk_M (d + 7) RX7 cX7_perform 4 (some .int) none 0 (zk_loc [.ref 0, .int (nI w), .int (nI o), .int (nI v)] 4) [] mu lm (zk_R (some (.int (enR (wrD mu n w o v) C w o (nI v)))) (enM (wrD mu n w o v) C w o (nI v)) lm) := by
  refine zk_aload_n (pc := 0) 0 dX7_perform_0 rfl rfl ?_
  refine zk_getR (pc := 1) dX7_perform_1 flX7_30 rfl rfl ?_
  refine zk_iload_n (pc := 4) 1 dX7_perform_4 rfl rfl ?_
  refine zk_iload_n (pc := 5) 2 dX7_perform_5 rfl rfl ?_
  refine zk_iload_n (pc := 6) 3 dX7_perform_6 rfl rfl ?_
  refine zk_callVV (pc := 7) dX7_perform_7 mtX1_write lkX7_339 stX1_write (by rfl) (by rfl) [_, _, _] _ rfl rfl (Nat.le_of_ble_eq_true rfl) (Nat.le_of_ble_eq_true rfl) (by
    have e := sp_X1_write (d := d + 6) (mu := mu) (lm := lm) (c := 28) (p := 29) ⟨rfl, rfl⟩ hn hn4 (nI w) (nI o) (nI v)
    rw [show (8 : Int32) = nI 8 from rfl, show (4 : Int32) = nI 4 from rfl, pk_mul, nI_add, pk_mul, nI_add] at e
    exact e) ?_
  refine zk_aload_n (pc := 10) 0 dX7_perform_10 rfl rfl ?_
  refine zk_iload_n (pc := 11) 1 dX7_perform_11 rfl rfl ?_
  refine zk_iload_n (pc := 12) 2 dX7_perform_12 rfl rfl ?_
  refine zk_iload_n (pc := 13) 3 dX7_perform_13 rfl rfl ?_
  refine zk_callVI (pc := 14) dX7_perform_14 mtX7_enact lkX7_342 stX7_enact (by rfl) (by rfl) [_, _, _] _ rfl rfl (Nat.le_of_ble_eq_true rfl) (Nat.le_of_ble_eq_true rfl) (sp_X7_enact (C := C) (M := M) (by rw [zup_c _ _ _ (by decide), zup_c _ _ _ (by decide)]; exact hC) hC8 (by rw [zup_c _ _ _ (by decide), zup_c _ _ _ (by decide)]; exact hM) hM6 hd (nI v)) ?_
  exact zk_ireturn (pc := 17) dX7_perform_17 (Or.inl rfl) (zk_rm rfl rfl rfl)
/-- the club behind the first k deeds of D (who, what and so on by numbers) -/
def rlv (nu : Mem) (C : Nat) (D : Nat → Nat × Nat × Nat) : Nat → Mem
  | 0 => nu
  | k + 1 => enM (rlv nu C D k) C (D k).1 (D k).2.1 (nI (D k).2.2)
theorem rlv_c {nu : Mem} {C : Nat} {D : Nat → Nat × Nat × Nat} {c : Nat} (h1 : c ≠ 23) (h2 : c ≠ 26) (h3 : c ≠ 27) : ∀ k, rlv nu C D k c = nu c
  | 0 => rfl
  | k + 1 => by rw [rlv, enM_c h1 h2 h3, rlv_c h1 h2 h3 k]
theorem rlv_k {nu : Mem} {C : Nat} {D : Nat → Nat × Nat × Nat} {j : Nat} (h1 : j ≠ 7) (h2 : j ≠ 8) (h3 : j ≠ 9) : ∀ k, rlv nu C D k 23 j = nu 23 j
  | 0 => rfl
  | k + 1 => by rw [rlv, enM_k h1 h2 h3, rlv_k h1 h2 h3 k]
theorem frshM_c {mu : Mem} {c : Nat} (h1 : c ≠ 23) (h2 : c ≠ 26) (h3 : c ≠ 27) : frshM mu c = mu c := by
  unfold frshM; funext k; rw [zfill_c _ _ _ _ h3, zfill_c _ _ _ _ h2, zup_c _ _ _ h1, zup_c _ _ _ h1, zup_c _ _ _ h1]
theorem frshM_k {mu : Mem} {k : Nat} (h1 : k ≠ 7) (h2 : k ≠ 8) (h3 : k ≠ 9) : frshM mu 23 k = mu 23 k := by
  unfold frshM; rw [zfill_c _ _ _ _ (by decide), zfill_c _ _ _ _ (by decide), zup_k _ _ _ h3, zup_k _ _ _ h2, zup_k _ _ _ h1]
def dAll (mu : Mem) (p C M n : Nat) (D : Nat → Nat × Nat × Nat) : Prop := ∀ k, k < n → mu p k = nI (dCode (D k).1 (D k).2.1 (D k).2.2) ∧ dOk C M (D k).1 (D k).2.1 ∧ (D k).2.1 < 8 ∧ (D k).2.2 < 100
theorem dc_w {w o v : Nat} (hw : w < 4) : dCode w o v % 4 = w := by unfold dCode; omega
theorem dc_o {w o v : Nat} (hw : w < 4) (ho : o < 8) : dCode w o v / 4 % 8 = o := by unfold dCode; omega
theorem dc_v {w o v : Nat} (hw : w < 4) (ho : o < 8) : dCode w o v / 4 / 8 = v := by unfold dCode; omega
theorem dc_lt {w o v : Nat} (hw : w < 4) (ho : o < 8) (hv : v < 100) : dCode w o v < 3200 := by unfold dCode; omega
theorem sp_X7_relive {C M n : Nat} (hC : mu 23 5 = nI C) (hC8 : C ≤ 8) (hM : mu 23 6 = nI M) (hM6 : M ≤ 6) (hn : mu 28 1 = nI n) (hn4 : n ≤ 40) (D : Nat → Nat × Nat × Nat) (hD : dAll mu 29 C M n D) : zk_M (d + 7) RX7 cX7_relive 2 (none) none 0 (zk_loc [.ref 0] 2) [] mu lm (zk_R none (rlv (frshM mu) C D n) lm) := by
  have loop : ∀ k, k ≤ n → zk_M (d + 7) RX7 cX7_relive 2 (none) none 9 [.ref 0, .int (nI k)] [] (rlv (frshM mu) C D k) lm (zk_R none (rlv (frshM mu) C D n) lm) := by
    refine zk_ind n (fun k hk ih => ?_)
    have q28 : rlv (frshM mu) C D k 28 = mu 28 := by rw [rlv_c (by decide) (by decide) (by decide), frshM_c (by decide) (by decide) (by decide)]
    have q29 : rlv (frshM mu) C D k 29 = mu 29 := by rw [rlv_c (by decide) (by decide) (by decide), frshM_c (by decide) (by decide) (by decide)]
    have qC : rlv (frshM mu) C D k 23 5 = nI C := by rw [rlv_k (by decide) (by decide) (by decide), frshM_k (by decide) (by decide) (by decide)]; exact hC
    have qM : rlv (frshM mu) C D k 23 6 = nI M := by rw [rlv_k (by decide) (by decide) (by decide), frshM_k (by decide) (by decide) (by decide)]; exact hM
    refine zk_iload_n (pc := 9) 1 dX7_relive_9 rfl rfl ?_
    refine zk_aload_n (pc := 10) 0 dX7_relive_10 rfl rfl ?_
    refine zk_getR (pc := 11) dX7_relive_11 flX7_30 rfl rfl ?_
    refine zk_getI (pc := 14) dX7_relive_14 flX7_34 rfl rfl ?_
    refine zk_icmp_ge (pc := 17) 55 dX7_relive_17 (by decide) (fun h17 => ?_) (fun h17 => ?_)
    · rw [q28, hn, nIle (by omega) (by omega)] at h17
      refine zk_return (pc := 55) dX7_relive_55 rfl (zk_rv0 ?_ rfl)
      rw [show k = n by omega]
    · rw [q28, hn, nIle (by omega) (by omega)] at h17
      obtain ⟨hk1, hk2, hk3, hk4⟩ := hD k (by omega)
      have hlt := dc_lt (w := (D k).1) hk2.1 hk3 hk4
      refine zk_aload_n (pc := 20) 0 dX7_relive_20 rfl rfl ?_
      refine zk_aload_n (pc := 21) 0 dX7_relive_21 rfl rfl ?_
      refine zk_getR (pc := 22) dX7_relive_22 flX7_30 rfl rfl ?_
      refine zk_iload_n (pc := 25) 1 dX7_relive_25 rfl rfl ?_
      refine zk_callVI (pc := 26) dX7_relive_26 mtX1_what lkX7_357 stX1_what (by rfl) (by rfl) [_] _ rfl rfl (Nat.le_of_ble_eq_true rfl) (Nat.le_of_ble_eq_true rfl) (by
        have e := sp_X1_what (d := d + 6) (mu := rlv (frshM mu) C D k) (lm := lm) (c := 28) (p := 29) (n := k) ⟨rfl, rfl⟩ (by omega)
        rw [q29, hk1, show (4 : Int32) = nI 4 from rfl, pk_rem (by omega) (by omega) (by omega), dc_w hk2.1] at e
        exact e) ?_
      refine zk_aload_n (pc := 29) 0 dX7_relive_29 rfl rfl ?_
      refine zk_getR (pc := 30) dX7_relive_30 flX7_30 rfl rfl ?_
      refine zk_iload_n (pc := 33) 1 dX7_relive_33 rfl rfl ?_
      refine zk_callVI (pc := 34) dX7_relive_34 mtX1_whom lkX7_360 stX1_whom (by rfl) (by rfl) [_] _ rfl rfl (Nat.le_of_ble_eq_true rfl) (Nat.le_of_ble_eq_true rfl) (by
        have e := sp_X1_whom (d := d + 6) (mu := rlv (frshM mu) C D k) (lm := lm) (c := 28) (p := 29) (n := k) ⟨rfl, rfl⟩ (by omega)
        rw [q29, hk1, show (4 : Int32) = nI 4 from rfl, pk_div (by omega) (by omega) (by omega), show (8 : Int32) = nI 8 from rfl, pk_rem (by omega) (by omega) (by omega), dc_o hk2.1 hk3] at e
        exact e) ?_
      refine zk_aload_n (pc := 37) 0 dX7_relive_37 rfl rfl ?_
      refine zk_getR (pc := 38) dX7_relive_38 flX7_30 rfl rfl ?_
      refine zk_iload_n (pc := 41) 1 dX7_relive_41 rfl rfl ?_
      refine zk_callVI (pc := 42) dX7_relive_42 mtX1_meant lkX7_363 stX1_meant (by rfl) (by rfl) [_] _ rfl rfl (Nat.le_of_ble_eq_true rfl) (Nat.le_of_ble_eq_true rfl) (by
        have e := sp_X1_meant (d := d + 6) (mu := rlv (frshM mu) C D k) (lm := lm) (c := 28) (p := 29) (n := k) ⟨rfl, rfl⟩ (by omega)
        rw [q29, hk1, show (4 : Int32) = nI 4 from rfl, pk_div (by omega) (by omega) (by omega), show (8 : Int32) = nI 8 from rfl, pk_div (by omega) (by omega) (by omega), dc_v hk2.1 hk3] at e
        exact e) ?_
      refine zk_callVI (pc := 45) dX7_relive_45 mtX7_enact lkX7_342 stX7_enact (by rfl) (by rfl) [_, _, _] _ rfl rfl (Nat.le_of_ble_eq_true rfl) (Nat.le_of_ble_eq_true rfl) (sp_X7_enact qC hC8 qM hM6 hk2 _) ?_
      refine zk_pop (pc := 48) dX7_relive_48 rfl ?_
      refine zs_iinc (pc := 49) (ls' := [_, _]) dX7_relive_49 rfl (nI_1 k) (by decide) rfl ?_
      refine zk_goto (pc := 52) 9 dX7_relive_52 (by decide) ?_
      exact ih (by omega)
  refine zk_aload_n (pc := 0) 0 dX7_relive_0 rfl rfl ?_
  refine zk_getR (pc := 1) dX7_relive_1 flX7_23 rfl rfl ?_
  refine zk_callVV (pc := 4) dX7_relive_4 mtX0_freshen lkX7_120 stX0_freshen (by rfl) (by rfl) [] _ rfl rfl (Nat.le_of_ble_eq_true rfl) (Nat.le_of_ble_eq_true rfl) (sp_X0_freshen) ?_
  refine zk_iconst (pc := 7) (v := 0) dX7_relive_7 (by decide) ?_
  refine zs_istore_n (pc := 8) (ls' := [_, _]) 1 dX7_relive_8 rfl (by decide) rfl ?_
  exact loop 0 (Nat.zero_le _)
def lotD (L C M : Nat) : Nat × Nat × Nat := if L / 8 % 8 = 0 then (1, 0, 0) else if L / 8 % 8 = 1 then (2, L % C, 0) else if L / 8 % 8 = 2 then (3, 0, 0) else (0, L % M, L / 64 % 100)
def prfM (mu : Mem) (C n : Nat) (D : Nat × Nat × Nat) : Mem := enM (wrD mu n D.1 D.2.1 D.2.2) C D.1 D.2.1 (nI D.2.2)
theorem sp_X7_performLot {C M n L : Nat} (hC : mu 23 5 = nI C) (hC0 : 0 < C) (hC8 : C ≤ 8) (hM : mu 23 6 = nI M) (hM0 : 0 < M) (hM6 : M ≤ 6) (hn : mu 28 1 = nI n) (hn4 : n < 40) (hL : L < 2147483648) : zk_M (d + 8) RX7 cX7_performLot 2 (none) none 0 (zk_loc [.ref 0, .int (nI L)] 2) [] mu lm (zk_R none (prfM mu C n (lotD L C M)) lm) := by
  have e8 : nI L / 8 - nI L / 8 / 8 * 8 = nI (L / 8 % 8) := by rw [show (8 : Int32) = nI 8 from rfl, pk_div (by omega) (by omega) (by omega), pk_rem (by omega) (by omega) (by omega)]
  have hlt : L / 8 % 8 < 8 := Nat.mod_lt _ (by decide)
  refine zk_iload_n (pc := 0) 1 dX7_performLot_0 rfl rfl ?_
  refine zk_bipush (pc := 1) (v := 8) dX7_performLot_1 (by decide) ?_
  refine zk_idiv (pc := 3) dX7_performLot_3 (by decide) ?_
  refine zk_bipush (pc := 4) (v := 8) dX7_performLot_4 (by decide) ?_
  refine zk_irem (pc := 6) dX7_performLot_6 (by decide) ?_
  rw [e8]
  by_cases w0 : L / 8 % 8 = 0
  · rw [w0]
    refine zk_tabIn (pc := 7) 32 dX7_performLot_7 (by decide) (by decide) (by rfl) (by decide) ?_
    refine zk_aload_n (pc := 32) 0 dX7_performLot_32 rfl rfl ?_
    refine zk_iconst (pc := 33) (v := 1) dX7_performLot_33 (by decide) ?_
    refine zk_iconst (pc := 34) (v := 0) dX7_performLot_34 (by decide) ?_
    refine zk_iconst (pc := 35) (v := 0) dX7_performLot_35 (by decide) ?_
    refine zk_callVI (pc := 36) dX7_performLot_36 mtX7_perform lkX7_173 stX7_perform (by rfl) (by rfl) [_, _, _] _ rfl rfl (Nat.le_of_ble_eq_true rfl) (Nat.le_of_ble_eq_true rfl) (sp_X7_perform (w := 1) (o := 0) (v := 0) hC hC8 hM hM6 ⟨by decide, by first | (intro q; exact absurd q (by decide)) | (intro _; exact Nat.mod_lt _ hM0), by first | (intro q; exact absurd q (by decide)) | (intro _; exact Nat.mod_lt _ hC0)⟩ hn hn4) ?_
    refine zk_pop (pc := 39) dX7_performLot_39 rfl ?_
    refine zk_goto (pc := 40) 99 dX7_performLot_40 (by decide) ?_
    refine zk_return (pc := 99) dX7_performLot_99 rfl (zk_rv0 ?_ rfl)
    unfold lotD
    rw [if_pos w0]
    rfl
  by_cases w1 : L / 8 % 8 = 1
  · rw [w1]
    refine zk_tabIn (pc := 7) 43 dX7_performLot_7 (by decide) (by decide) (by rfl) (by decide) ?_
    refine zk_aload_n (pc := 43) 0 dX7_performLot_43 rfl rfl ?_
    refine zk_iconst (pc := 44) (v := 2) dX7_performLot_44 (by decide) ?_
    refine zk_iload_n (pc := 45) 1 dX7_performLot_45 rfl rfl ?_
    refine zk_aload_n (pc := 46) 0 dX7_performLot_46 rfl rfl ?_
    refine zk_getR (pc := 47) dX7_performLot_47 flX7_23 rfl rfl ?_
    refine zk_getI (pc := 50) dX7_performLot_50 flX7_204 rfl rfl ?_
    refine zk_callSI (pc := 53) dX7_performLot_53 mtX7_remainder lkX7_366 stX7_remainder [_, _] _ rfl rfl (Nat.le_of_ble_eq_true rfl) (Nat.le_of_ble_eq_true rfl) (by
      have e := sp_X7_remainder (d := d + 7) (mu := mu) (lm := lm) (nI L) (mu 23 5)
      rw [hC, if_neg (show ¬ nI _ ≤ 0 from nI_nle hC0 (by omega)), pk_rem (by omega) hC0 (by omega)] at e
      rw [hC]
      exact e) ?_
    refine zk_iconst (pc := 56) (v := 0) dX7_performLot_56 (by decide) ?_
    refine zk_callVI (pc := 57) dX7_performLot_57 mtX7_perform lkX7_173 stX7_perform (by rfl) (by rfl) [_, _, _] _ rfl rfl (Nat.le_of_ble_eq_true rfl) (Nat.le_of_ble_eq_true rfl) (sp_X7_perform (w := 2) (o := L % C) (v := 0) hC hC8 hM hM6 ⟨by decide, by first | (intro q; exact absurd q (by decide)) | (intro _; exact Nat.mod_lt _ hM0), by first | (intro q; exact absurd q (by decide)) | (intro _; exact Nat.mod_lt _ hC0)⟩ hn hn4) ?_
    refine zk_pop (pc := 60) dX7_performLot_60 rfl ?_
    refine zk_goto (pc := 61) 99 dX7_performLot_61 (by decide) ?_
    refine zk_return (pc := 99) dX7_performLot_99 rfl (zk_rv0 ?_ rfl)
    unfold lotD
    rw [if_neg w0, if_pos w1]
    rfl
  by_cases w2 : L / 8 % 8 = 2
  · rw [w2]
    refine zk_tabIn (pc := 7) 64 dX7_performLot_7 (by decide) (by decide) (by rfl) (by decide) ?_
    refine zk_aload_n (pc := 64) 0 dX7_performLot_64 rfl rfl ?_
    refine zk_iconst (pc := 65) (v := 3) dX7_performLot_65 (by decide) ?_
    refine zk_iconst (pc := 66) (v := 0) dX7_performLot_66 (by decide) ?_
    refine zk_iconst (pc := 67) (v := 0) dX7_performLot_67 (by decide) ?_
    refine zk_callVI (pc := 68) dX7_performLot_68 mtX7_perform lkX7_173 stX7_perform (by rfl) (by rfl) [_, _, _] _ rfl rfl (Nat.le_of_ble_eq_true rfl) (Nat.le_of_ble_eq_true rfl) (sp_X7_perform (w := 3) (o := 0) (v := 0) hC hC8 hM hM6 ⟨by decide, by first | (intro q; exact absurd q (by decide)) | (intro _; exact Nat.mod_lt _ hM0), by first | (intro q; exact absurd q (by decide)) | (intro _; exact Nat.mod_lt _ hC0)⟩ hn hn4) ?_
    refine zk_pop (pc := 71) dX7_performLot_71 rfl ?_
    refine zk_goto (pc := 72) 99 dX7_performLot_72 (by decide) ?_
    refine zk_return (pc := 99) dX7_performLot_99 rfl (zk_rv0 ?_ rfl)
    unfold lotD
    rw [if_neg w0, if_neg w1, if_pos w2]
    rfl
  · refine zk_tabOut (pc := 7) (x := nI (L / 8 % 8)) 75 dX7_performLot_7 (by rw [nI_toInt (by omega)]; omega) (by decide) ?_
    refine zk_aload_n (pc := 75) 0 dX7_performLot_75 rfl rfl ?_
    refine zk_iconst (pc := 76) (v := 0) dX7_performLot_76 (by decide) ?_
    refine zk_iload_n (pc := 77) 1 dX7_performLot_77 rfl rfl ?_
    refine zk_aload_n (pc := 78) 0 dX7_performLot_78 rfl rfl ?_
    refine zk_getR (pc := 79) dX7_performLot_79 flX7_23 rfl rfl ?_
    refine zk_getI (pc := 82) dX7_performLot_82 flX7_123 rfl rfl ?_
    refine zk_callSI (pc := 85) dX7_performLot_85 mtX7_remainder lkX7_366 stX7_remainder [_, _] _ rfl rfl (Nat.le_of_ble_eq_true rfl) (Nat.le_of_ble_eq_true rfl) (by
      have e := sp_X7_remainder (d := d + 7) (mu := mu) (lm := lm) (nI L) (mu 23 6)
      rw [hM, if_neg (show ¬ nI _ ≤ 0 from nI_nle hM0 (by omega)), pk_rem (by omega) hM0 (by omega)] at e
      rw [hM]
      exact e) ?_
    refine zk_iload_n (pc := 88) 1 dX7_performLot_88 rfl rfl ?_
    refine zk_bipush (pc := 89) (v := 64) dX7_performLot_89 (by decide) ?_
    refine zk_idiv (pc := 91) dX7_performLot_91 (by decide) ?_
    refine zk_bipush (pc := 92) (v := 100) dX7_performLot_92 (by decide) ?_
    refine zk_irem (pc := 94) dX7_performLot_94 (by decide) ?_
    rw [show nI L / 64 - nI L / 64 / 100 * 100 = nI (L / 64 % 100) from by rw [show (64 : Int32) = nI 64 from rfl, show (100 : Int32) = nI 100 from rfl, pk_div (by omega) (by omega) (by omega), pk_rem (by omega) (by omega) (by omega)]]
    refine zk_callVI (pc := 95) dX7_performLot_95 mtX7_perform lkX7_173 stX7_perform (by rfl) (by rfl) [_, _, _] _ rfl rfl (Nat.le_of_ble_eq_true rfl) (Nat.le_of_ble_eq_true rfl) (sp_X7_perform (w := 0) (o := L % M) (v := L / 64 % 100) hC hC8 hM hM6 ⟨by decide, by first | (intro q; exact absurd q (by decide)) | (intro _; exact Nat.mod_lt _ hM0), by first | (intro q; exact absurd q (by decide)) | (intro _; exact Nat.mod_lt _ hC0)⟩ hn hn4) ?_
    refine zk_pop (pc := 98) dX7_performLot_98 rfl ?_
    refine zk_return (pc := 99) dX7_performLot_99 rfl (zk_rv0 ?_ rfl)
    unfold lotD
    rw [if_neg w0, if_neg w1, if_neg w2]
    rfl
end M30
