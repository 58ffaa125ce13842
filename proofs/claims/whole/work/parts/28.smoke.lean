section M28
variable {d : Nat} {mu : Mem} {lm : MemL}
theorem zk_pr {o : Int32 × Mem} {x : Int32} {mu : Mem} {lm : MemL} (h : o = (x, mu)) : zk_R (some (.int o.1)) o.2 lm (some (.int x)) mu lm := by subst h; exact ⟨rfl, rfl, rfl⟩
/-- a finding is noted -/
def fndM (mu : Mem) (f : Nat) : Mem := zk_up (zk_up mu 0 9 (nI f)) 45 f (mu 45 f + 1)
theorem sp_X7_found {f : Nat} (hf : f < 6) : zk_M d RX7 cX7_found 2 (some .int) none 0 (zk_loc [.ref 0, .int (nI f)] 2) [] mu lm (zk_R (some (.int (-3))) (fndM mu f) lm) := by
  refine zk_aload_n (pc := 0) 0 dX7_found_0 rfl rfl ?_
  refine zk_iload_n (pc := 1) 1 dX7_found_1 rfl rfl ?_
  refine zk_putI (pc := 2) dX7_found_2 flX7_311 rfl rfl ?_
  refine zk_aload_n (pc := 5) 0 dX7_found_5 rfl rfl ?_
  refine zk_getR (pc := 6) dX7_found_6 flX7_57 rfl rfl ?_
  refine zk_iload_n (pc := 9) 1 dX7_found_9 rfl rfl ?_
  refine zk_dup2 (pc := 10) dX7_found_10 rfl rfl ?_
  refine zk_iaload (pc := 11) f dX7_found_11 rfl rfl hf ?_
  refine zk_iconst (pc := 12) (v := 1) dX7_found_12 (by decide) ?_
  refine zk_iadd (pc := 13) dX7_found_13 ?_
  refine zk_iastore (pc := 14) f dX7_found_14 rfl rfl hf ?_
  refine zk_bipush (pc := 15) (v := -3) dX7_found_15 (by decide) ?_
  refine zk_ireturn (pc := 17) dX7_found_17 (Or.inl rfl) (zk_rm rfl ?_ rfl)
  unfold fndM
  rw [zup_c _ _ _ (by decide)]
theorem sp_X7_isMeaning (v : Int32) : zk_M (d + 1) RX7 cX7_isMeaning 1 (some .boolean) none 0 (zk_loc [.int v] 1) [] mu lm (zk_R (some (.int (zb (0 ≤ v ∧ v ≤ 99)))) mu lm) := by
  refine zk_iload_n (pc := 0) 0 dX7_isMeaning_0 rfl rfl ?_
  refine zk_iconst (pc := 1) (v := 0) dX7_isMeaning_1 (by decide) ?_
  refine zk_bipush (pc := 2) (v := 99) dX7_isMeaning_2 (by decide) ?_
  refine zk_callSI (pc := 4) dX7_isMeaning_4 mtX7_within lkX7_130 stX7_within [_, _, _] _ rfl rfl (Nat.le_of_ble_eq_true rfl) (Nat.le_of_ble_eq_true rfl) (sp_X7_within _ _ _) ?_
  exact zk_ireturn (pc := 7) dX7_isMeaning_7 (Or.inr ⟨rfl, zb_01⟩) (zk_ri rfl)
theorem sp_X7_areChances (n p : Int32) : zk_M (d + 1) RX7 cX7_areChances 2 (some .boolean) none 0 (zk_loc [.int n, .int p] 2) [] mu lm (zk_R (some (.int (zb ((0 ≤ n ∧ n ≤ 6) ∧ (0 ≤ p ∧ p ≤ 12))))) mu lm) := by
  refine zk_iload_n (pc := 0) 0 dX7_areChances_0 rfl rfl ?_
  refine zk_iconst (pc := 1) (v := 0) dX7_areChances_1 (by decide) ?_
  refine zk_bipush (pc := 2) (v := 6) dX7_areChances_2 (by decide) ?_
  refine zk_callSI (pc := 4) dX7_areChances_4 mtX7_within lkX7_130 stX7_within [_, _, _] _ rfl rfl (Nat.le_of_ble_eq_true rfl) (Nat.le_of_ble_eq_true rfl) (sp_X7_within _ _ _) ?_
  refine zk_if_eq (pc := 7) 24 dX7_areChances_7 (by decide) (fun h7 => ?_) (fun h7 => ?_)
  · rw [zb_e] at h7
    refine zk_iconst (pc := 24) (v := 0) dX7_areChances_24 (by decide) ?_
    refine zk_ireturn (pc := 25) dX7_areChances_25 (Or.inr ⟨rfl, by first | exact Or.inl rfl | exact Or.inr rfl⟩) (zk_ri ?_)
    first | exact (zb_f (fun q => h7 q.1)).symm | exact (zb_f (fun q => h17 q.2)).symm | exact (zb_t ⟨h7, h17⟩).symm
  · rw [zb_n] at h7
    refine zk_iload_n (pc := 10) 1 dX7_areChances_10 rfl rfl ?_
    refine zk_iconst (pc := 11) (v := 0) dX7_areChances_11 (by decide) ?_
    refine zk_bipush (pc := 12) (v := 12) dX7_areChances_12 (by decide) ?_
    refine zk_callSI (pc := 14) dX7_areChances_14 mtX7_within lkX7_130 stX7_within [_, _, _] _ rfl rfl (Nat.le_of_ble_eq_true rfl) (Nat.le_of_ble_eq_true rfl) (sp_X7_within _ _ _) ?_
    refine zk_if_eq (pc := 17) 24 dX7_areChances_17 (by decide) (fun h17 => ?_) (fun h17 => ?_)
    · rw [zb_e] at h17
      refine zk_iconst (pc := 24) (v := 0) dX7_areChances_24 (by decide) ?_
      refine zk_ireturn (pc := 25) dX7_areChances_25 (Or.inr ⟨rfl, by first | exact Or.inl rfl | exact Or.inr rfl⟩) (zk_ri ?_)
      first | exact (zb_f (fun q => h7 q.1)).symm | exact (zb_f (fun q => h17 q.2)).symm | exact (zb_t ⟨h7, h17⟩).symm
    · rw [zb_n] at h17
      refine zk_iconst (pc := 20) (v := 1) dX7_areChances_20 (by decide) ?_
      refine zk_goto (pc := 21) 25 dX7_areChances_21 (by decide) ?_
      refine zk_ireturn (pc := 25) dX7_areChances_25 (Or.inr ⟨rfl, by first | exact Or.inl rfl | exact Or.inr rfl⟩) (zk_ri ?_)
      first | exact (zb_f (fun q => h7 q.1)).symm | exact (zb_f (fun q => h17 q.2)).symm | exact (zb_t ⟨h7, h17⟩).symm
def rfSets (mu : Mem) (v b : Int32) : Int32 := if (0 ≤ v ∧ v ≤ 99) ∧ (0 ≤ b ∧ b ≤ 594) then (if mu 23 6 = 0 then -4 else 0) else -1
theorem sp_X7_refusedSets (v b : Int32) : zk_M (d + 2) RX7 cX7_refusedSets 3 (some .int) none 0 (zk_loc [.ref 0, .int v, .int b] 3) [] mu lm (zk_R (some (.int (rfSets mu v b))) mu lm) := by
  refine zk_iload_n (pc := 0) 1 dX7_refusedSets_0 rfl rfl ?_
  refine zk_callSI (pc := 1) dX7_refusedSets_1 mtX7_isMeaning lkX7_167 stX7_isMeaning [_] _ rfl rfl (Nat.le_of_ble_eq_true rfl) (Nat.le_of_ble_eq_true rfl) (sp_X7_isMeaning _) ?_
  refine zk_if_eq (pc := 4) 18 dX7_refusedSets_4 (by decide) (fun h4 => ?_) (fun h4 => ?_)
  · rw [zb_e] at h4
    refine zk_iconst (pc := 18) (v := -1) dX7_refusedSets_18 (by decide) ?_
    refine zk_ireturn (pc := 19) dX7_refusedSets_19 (Or.inl rfl) ?_
    apply zk_ri; unfold rfSets
    first | rw [if_neg (fun q => h4 q.1)] | rw [if_neg (fun q => h15 q.2)] | rw [if_pos ⟨h4, h15⟩, if_neg h27] | rw [if_pos ⟨h4, h15⟩, if_pos h27]
  · rw [zb_n] at h4
    refine zk_iload_n (pc := 7) 2 dX7_refusedSets_7 rfl rfl ?_
    refine zk_iconst (pc := 8) (v := 0) dX7_refusedSets_8 (by decide) ?_
    refine zk_sipush (pc := 9) (v := 594) dX7_refusedSets_9 (by decide) ?_
    refine zk_callSI (pc := 12) dX7_refusedSets_12 mtX7_within lkX7_130 stX7_within [_, _, _] _ rfl rfl (Nat.le_of_ble_eq_true rfl) (Nat.le_of_ble_eq_true rfl) (sp_X7_within _ _ _) ?_
    refine zk_if_ne (pc := 15) 20 dX7_refusedSets_15 (by decide) (fun h15 => ?_) (fun h15 => ?_)
    · rw [zb_n] at h15
      refine zk_aload_n (pc := 20) 0 dX7_refusedSets_20 rfl rfl ?_
      refine zk_getR (pc := 21) dX7_refusedSets_21 flX7_23 rfl rfl ?_
      refine zk_getI (pc := 24) dX7_refusedSets_24 flX7_123 rfl rfl ?_
      refine zk_if_ne (pc := 27) 35 dX7_refusedSets_27 (by decide) (fun h27 => ?_) (fun h27 => ?_)
      · skip
        refine zk_iconst (pc := 35) (v := 0) dX7_refusedSets_35 (by decide) ?_
        refine zk_ireturn (pc := 36) dX7_refusedSets_36 (Or.inl rfl) ?_
        apply zk_ri; unfold rfSets
        first | rw [if_neg (fun q => h4 q.1)] | rw [if_neg (fun q => h15 q.2)] | rw [if_pos ⟨h4, h15⟩, if_neg h27] | rw [if_pos ⟨h4, h15⟩, if_pos h27]
      · skip
        refine zk_bipush (pc := 30) (v := -4) dX7_refusedSets_30 (by decide) ?_
        refine zk_goto (pc := 32) 36 dX7_refusedSets_32 (by decide) ?_
        refine zk_ireturn (pc := 36) dX7_refusedSets_36 (Or.inl rfl) ?_
        apply zk_ri; unfold rfSets
        first | rw [if_neg (fun q => h4 q.1)] | rw [if_neg (fun q => h15 q.2)] | rw [if_pos ⟨h4, h15⟩, if_neg h27] | rw [if_pos ⟨h4, h15⟩, if_pos h27]
    · rw [zb_e] at h15
      refine zk_iconst (pc := 18) (v := -1) dX7_refusedSets_18 (by decide) ?_
      refine zk_ireturn (pc := 19) dX7_refusedSets_19 (Or.inl rfl) ?_
      apply zk_ri; unfold rfSets
      first | rw [if_neg (fun q => h4 q.1)] | rw [if_neg (fun q => h15 q.2)] | rw [if_pos ⟨h4, h15⟩, if_neg h27] | rw [if_pos ⟨h4, h15⟩, if_pos h27]
theorem sp_lookIn {sc n k r : Nat} {rs : List Nat} (hs : zk_shp[sc]? = some (3, n, rs)) (hk : k < n) (hr : rs[k]? = some r) : zk_M d RX7 cX7_lookUp 2 (some (.object "ClubSmoke$Row")) none 0 (zk_loc [.ref sc, .int (nI k)] 2) [] mu lm (zk_R (some (.ref r)) mu lm) := by
  have hn := zk_sm hs
  simp only at hn
  refine zk_iload_n (pc := 0) 1 dX7_lookUp_0 rfl rfl ?_
  refine zk_if_lt (pc := 1) 16 dX7_lookUp_1 (by decide) (fun h1 => ?_) (fun h1 => ?_)
  · exact absurd h1 (nI_pos (by omega)) --
  · skip
    refine zk_iload_n (pc := 4) 1 dX7_lookUp_4 rfl rfl ?_
    refine zk_aload_n (pc := 5) 0 dX7_lookUp_5 rfl rfl ?_
    refine zk_alen (pc := 6) dX7_lookUp_6 hs (by decide) ?_
    refine zk_icmp_ge (pc := 7) 16 dX7_lookUp_7 (by decide) (fun h7 => ?_) (fun h7 => ?_)
    · rw [nIle (by omega) (by omega)] at h7
      omega --
    · skip
      refine zk_aload_n (pc := 10) 0 dX7_lookUp_10 rfl rfl ?_
      refine zk_iload_n (pc := 11) 1 dX7_lookUp_11 rfl rfl ?_
      refine zk_aaload (pc := 12) k dX7_lookUp_12 hs (by decide) rfl hk hr ?_
      refine zk_goto (pc := 13) 17 dX7_lookUp_13 (by decide) ?_
      exact zk_areturn (pc := 17) dX7_lookUp_17 ⟨_, rfl⟩ ⟨rfl, rfl, rfl⟩
theorem sp_lookOut {sc n : Nat} {rs : List Nat} (hs : zk_shp[sc]? = some (3, n, rs)) {i : Int32} (hi : ¬ (0 ≤ i ∧ i < nI n)) : zk_M d RX7 cX7_lookUp 2 (some (.object "ClubSmoke$Row")) none 0 (zk_loc [.ref sc, .int i] 2) [] mu lm (zk_R (some .null) mu lm) := by
  refine zk_iload_n (pc := 0) 1 dX7_lookUp_0 rfl rfl ?_
  refine zk_if_lt (pc := 1) 16 dX7_lookUp_1 (by decide) (fun h1 => ?_) (fun h1 => ?_)
  · skip
    refine zk_null (pc := 16) dX7_lookUp_16 ?_
    exact zk_areturnN (pc := 17) dX7_lookUp_17 ⟨_, rfl⟩ ⟨rfl, rfl, rfl⟩
  · skip
    refine zk_iload_n (pc := 4) 1 dX7_lookUp_4 rfl rfl ?_
    refine zk_aload_n (pc := 5) 0 dX7_lookUp_5 rfl rfl ?_
    refine zk_alen (pc := 6) dX7_lookUp_6 hs (by decide) ?_
    refine zk_icmp_ge (pc := 7) 16 dX7_lookUp_7 (by decide) (fun h7 => ?_) (fun h7 => ?_)
    · skip
      refine zk_null (pc := 16) dX7_lookUp_16 ?_
      exact zk_areturnN (pc := 17) dX7_lookUp_17 ⟨_, rfl⟩ ⟨rfl, rfl, rfl⟩
    · exact absurd ⟨by simp only [zlt, zle] at *; omega, by simp only [zlt, zle] at *; omega⟩ hi --
theorem zRows {k : Nat} (hk : k < 6) : zRow (2 + 2 * k) (3 + 2 * k) 40 ∧ ([2, 4, 6, 8, 10, 12] : List Nat)[k]? = some (2 + 2 * k) := by
  match k, hk with
  | 0, _ => exact ⟨⟨rfl, rfl, by decide⟩, rfl⟩
  | 1, _ => exact ⟨⟨rfl, rfl, by decide⟩, rfl⟩
  | 2, _ => exact ⟨⟨rfl, rfl, by decide⟩, rfl⟩
  | 3, _ => exact ⟨⟨rfl, rfl, by decide⟩, rfl⟩
  | 4, _ => exact ⟨⟨rfl, rfl, by decide⟩, rfl⟩
  | 5, _ => exact ⟨⟨rfl, rfl, by decide⟩, rfl⟩
theorem zTexts {k : Nat} (hk : k < 4) : zRow (15 + 2 * k) (16 + 2 * k) 60 ∧ ([15, 17, 19, 21] : List Nat)[k]? = some (15 + 2 * k) := by
  match k, hk with
  | 0, _ => exact ⟨⟨rfl, rfl, by decide⟩, rfl⟩
  | 1, _ => exact ⟨⟨rfl, rfl, by decide⟩, rfl⟩
  | 2, _ => exact ⟨⟨rfl, rfl, by decide⟩, rfl⟩
  | 3, _ => exact ⟨⟨rfl, rfl, by decide⟩, rfl⟩
theorem zKepts {k : Nat} (hk : k < 3) : zDds (31 + 2 * k) (32 + 2 * k) ∧ ([31, 33, 35] : List Nat)[k]? = some (31 + 2 * k) := by
  match k, hk with
  | 0, _ => exact ⟨⟨rfl, rfl⟩, rfl⟩
  | 1, _ => exact ⟨⟨rfl, rfl⟩, rfl⟩
  | 2, _ => exact ⟨⟨rfl, rfl⟩, rfl⟩
theorem sp_row {k : Nat} (hk : k < 6) : zk_M d RX7 cX7_lookUp 2 (some (.object "ClubSmoke$Row")) none 0 (zk_loc [.ref 1, .int (nI k)] 2) [] mu lm (zk_R (some (.ref (2 + 2 * k))) mu lm) := sp_lookIn (sc := 1) rfl hk (zRows hk).2
theorem sp_rowN {i : Int32} (hi : ¬ (0 ≤ i ∧ i < 6)) : zk_M d RX7 cX7_lookUp 2 (some (.object "ClubSmoke$Row")) none 0 (zk_loc [.ref 1, .int i] 2) [] mu lm (zk_R (some .null) mu lm) := sp_lookOut (sc := 1) rfl hi
theorem sp_text {k : Nat} (hk : k < 4) : zk_M d RX7 cX7_lookUp 2 (some (.object "ClubSmoke$Row")) none 0 (zk_loc [.ref 14, .int (nI k)] 2) [] mu lm (zk_R (some (.ref (15 + 2 * k))) mu lm) := sp_lookIn (sc := 14) rfl hk (zTexts hk).2
theorem sp_textN {i : Int32} (hi : ¬ (0 ≤ i ∧ i < 4)) : zk_M d RX7 cX7_lookUp 2 (some (.object "ClubSmoke$Row")) none 0 (zk_loc [.ref 14, .int i] 2) [] mu lm (zk_R (some .null) mu lm) := sp_lookOut (sc := 14) rfl hi
def rfPl (mu : Mem) (c n : Nat) (i : Int32) : Int32 × Mem := if 0 ≤ mu c 1 then (if 0 ≤ i ∧ i < mu c 1 ∧ i < nI n then (0, mu) else (-3, fndM mu 2)) else (-3, fndM mu 1)
theorem sp_X7_refusedPlace {c p n : Nat} (hr : zRow c p n) (i : Int32) : zk_M (d + 1) RX7 cX7_refusedPlace 3 (some .int) none 0 (zk_loc [.ref 0, .ref c, .int i] 3) [] mu lm (zk_R (some (.int (rfPl mu c n i).1)) (rfPl mu c n i).2 lm) := by
  refine zk_aload_n (pc := 0) 1 dX7_refusedPlace_0 rfl rfl ?_
  refine zk_callVI (pc := 1) dX7_refusedPlace_1 mtX4_isThere lkX7_89 stX4_isThere hr.1 (by rfl) [] _ rfl rfl (Nat.le_of_ble_eq_true rfl) (Nat.le_of_ble_eq_true rfl) (sp_X4_isThere hr) ?_
  refine zk_if_ne (pc := 4) 13 dX7_refusedPlace_4 (by decide) (fun h4 => ?_) (fun h4 => ?_)
  · rw [zb_n] at h4
    refine zk_aload_n (pc := 13) 1 dX7_refusedPlace_13 rfl rfl ?_
    refine zk_iload_n (pc := 14) 2 dX7_refusedPlace_14 rfl rfl ?_
    refine zk_callVI (pc := 15) dX7_refusedPlace_15 mtX4_has lkX7_325 stX4_has hr.1 (by rfl) [_] _ rfl rfl (Nat.le_of_ble_eq_true rfl) (Nat.le_of_ble_eq_true rfl) (sp_X4_has hr i) ?_
    refine zk_if_eq (pc := 18) 25 dX7_refusedPlace_18 (by decide) (fun h18 => ?_) (fun h18 => ?_)
    · rw [zb_e] at h18
      refine zk_aload_n (pc := 25) 0 dX7_refusedPlace_25 rfl rfl ?_
      refine zk_iconst (pc := 26) (v := 2) dX7_refusedPlace_26 (by decide) ?_
      refine zk_callVI (pc := 27) dX7_refusedPlace_27 mtX7_found lkX7_93 stX7_found (by rfl) (by rfl) [_] _ rfl rfl (Nat.le_of_ble_eq_true rfl) (Nat.le_of_ble_eq_true rfl) (sp_X7_found (f := 2) (by decide)) ?_
      refine zk_ireturn (pc := 30) dX7_refusedPlace_30 (Or.inl rfl) ?_
      apply zk_pr; unfold rfPl
      first | (rw [if_neg h4]; done) | rw [if_pos h4, if_neg h18] | rw [if_pos h4, if_pos h18]
    · rw [zb_n] at h18
      refine zk_iconst (pc := 21) (v := 0) dX7_refusedPlace_21 (by decide) ?_
      refine zk_goto (pc := 22) 30 dX7_refusedPlace_22 (by decide) ?_
      refine zk_ireturn (pc := 30) dX7_refusedPlace_30 (Or.inl rfl) ?_
      apply zk_pr; unfold rfPl
      first | (rw [if_neg h4]; done) | rw [if_pos h4, if_neg h18] | rw [if_pos h4, if_pos h18]
  · rw [zb_e] at h4
    refine zk_aload_n (pc := 7) 0 dX7_refusedPlace_7 rfl rfl ?_
    refine zk_iconst (pc := 8) (v := 1) dX7_refusedPlace_8 (by decide) ?_
    refine zk_callVI (pc := 9) dX7_refusedPlace_9 mtX7_found lkX7_93 stX7_found (by rfl) (by rfl) [_] _ rfl rfl (Nat.le_of_ble_eq_true rfl) (Nat.le_of_ble_eq_true rfl) (sp_X7_found (f := 1) (by decide)) ?_
    refine zk_ireturn (pc := 12) dX7_refusedPlace_12 (Or.inl rfl) ?_
    apply zk_pr; unfold rfPl
    first | (rw [if_neg h4]; done) | rw [if_pos h4, if_neg h18] | rw [if_pos h4, if_pos h18]
def rfNt (mu : Mem) (c p : Nat) : Int32 × Mem := if 0 ≤ mu c 1 then (if (mu c 1).toNatClampNeg % 2 = 0 ∧ (mu c 1).toNatClampNeg ≤ 16 then (if zall (fun i => decide (0 ≤ mu p i ∧ mu p i ≤ 99)) (mu c 1).toNatClampNeg 0 = true then (0, mu) else (-3, fndM mu 3)) else (-3, fndM mu 5)) else (-3, fndM mu 1)
theorem rfNt_j {mu : Mem} {c p j : Nat} (hs : mu c 1 = nI j) (hj : j < 1000) : rfNt mu c p = if j % 2 = 0 ∧ j ≤ 16 then (if zall (fun i => decide (0 ≤ mu p i ∧ mu p i ≤ 99)) j 0 = true then (0, mu) else (-3, fndM mu 3)) else (-3, fndM mu 5) := by
  unfold rfNt
  rw [hs, if_pos (nI_pos' (by omega)), nI_clamp (by omega)]
theorem sp_X7_refusedNotes {c p n : Nat} (hr : zRow c p n) (hn : n < 1000) (hs : ¬ 0 ≤ mu c 1 ∨ ∃ j, j ≤ n ∧ mu c 1 = nI j) : zk_M (d + 3) RX7 cX7_refusedNotes 2 (some .int) none 0 (zk_loc [.ref 0, .ref c] 2) [] mu lm (zk_R (some (.int (rfNt mu c p).1)) (rfNt mu c p).2 lm) := by
  refine zk_aload_n (pc := 0) 1 dX7_refusedNotes_0 rfl rfl ?_
  refine zk_callVI (pc := 1) dX7_refusedNotes_1 mtX4_isThere lkX7_89 stX4_isThere hr.1 (by rfl) [] _ rfl rfl (Nat.le_of_ble_eq_true rfl) (Nat.le_of_ble_eq_true rfl) (sp_X4_isThere hr) ?_
  refine zk_if_ne (pc := 4) 13 dX7_refusedNotes_4 (by decide) (fun h4 => ?_) (fun h4 => ?_)
  · rw [zb_n] at h4
    obtain ⟨j, hj, hs⟩ : ∃ j, j ≤ n ∧ mu c 1 = nI j := by rcases hs with q | q; exact absurd h4 q; exact q
    rw [rfNt_j hs (by omega)]
    refine zk_aload_n (pc := 13) 1 dX7_refusedNotes_13 rfl rfl ?_
    refine zk_getI (pc := 14) dX7_refusedNotes_14 flX7_96 hr.1 rfl ?_
    refine zk_iconst (pc := 17) (v := 2) dX7_refusedNotes_17 (by decide) ?_
    refine zk_irem (pc := 18) dX7_refusedNotes_18 (by decide) ?_
    refine zk_if_ne (pc := 19) 31 dX7_refusedNotes_19 (by decide) (fun h19 => ?_) (fun h19 => ?_)
    · rw [hs, show (2 : Int32) = nI 2 from rfl, pk_rem (by omega) (by omega) (by omega), show (0 : Int32) = nI 0 from rfl, nIeq (by omega) (by omega)] at h19
      refine zk_aload_n (pc := 31) 0 dX7_refusedNotes_31 rfl rfl ?_
      refine zk_iconst (pc := 32) (v := 5) dX7_refusedNotes_32 (by decide) ?_
      refine zk_callVI (pc := 33) dX7_refusedNotes_33 mtX7_found lkX7_93 stX7_found (by rfl) (by rfl) [_] _ rfl rfl (Nat.le_of_ble_eq_true rfl) (Nat.le_of_ble_eq_true rfl) (sp_X7_found (f := 5) (by decide)) ?_
      refine zk_ireturn (pc := 36) dX7_refusedNotes_36 (Or.inl rfl) (zk_pr ?_)
      rw [if_neg (fun q => by first | exact h19 q.1 | exact h28 q.2)]
    · rw [hs, show (2 : Int32) = nI 2 from rfl, pk_rem (by omega) (by omega) (by omega), show (0 : Int32) = nI 0 from rfl, nIeq (by omega) (by omega)] at h19
      refine zk_aload_n (pc := 22) 1 dX7_refusedNotes_22 rfl rfl ?_
      refine zk_getI (pc := 23) dX7_refusedNotes_23 flX7_96 hr.1 rfl ?_
      refine zk_bipush (pc := 26) (v := 16) dX7_refusedNotes_26 (by decide) ?_
      refine zk_icmp_le (pc := 28) 37 dX7_refusedNotes_28 (by decide) (fun h28 => ?_) (fun h28 => ?_)
      · rw [hs, show (16 : Int32) = nI 16 from rfl, nIle (by omega) (by omega)] at h28
        refine zk_aload_n (pc := 37) 1 dX7_refusedNotes_37 rfl rfl ?_
        refine zk_iconst (pc := 38) (v := 0) dX7_refusedNotes_38 (by decide) ?_
        refine zk_bipush (pc := 39) (v := 99) dX7_refusedNotes_39 (by decide) ?_
        refine zk_callVI (pc := 41) dX7_refusedNotes_41 mtX4_isAllWithin lkX7_262 stX4_isAllWithin hr.1 (by rfl) [_, _] _ rfl rfl (Nat.le_of_ble_eq_true rfl) (Nat.le_of_ble_eq_true rfl) (sp_X4_isAllWithin hr hs hj 0 99) ?_
        refine zk_if_eq (pc := 44) 51 dX7_refusedNotes_44 (by decide) (fun h44 => ?_) (fun h44 => ?_)
        · rw [zb_e] at h44
          refine zk_aload_n (pc := 51) 0 dX7_refusedNotes_51 rfl rfl ?_
          refine zk_iconst (pc := 52) (v := 3) dX7_refusedNotes_52 (by decide) ?_
          refine zk_callVI (pc := 53) dX7_refusedNotes_53 mtX7_found lkX7_93 stX7_found (by rfl) (by rfl) [_] _ rfl rfl (Nat.le_of_ble_eq_true rfl) (Nat.le_of_ble_eq_true rfl) (sp_X7_found (f := 3) (by decide)) ?_
          refine zk_ireturn (pc := 56) dX7_refusedNotes_56 (Or.inl rfl) (zk_pr ?_)
          rw [if_pos ⟨h19, h28⟩]
          first | rw [if_pos h44] | rw [if_neg h44]
        · rw [zb_n] at h44
          refine zk_iconst (pc := 47) (v := 0) dX7_refusedNotes_47 (by decide) ?_
          refine zk_goto (pc := 48) 56 dX7_refusedNotes_48 (by decide) ?_
          refine zk_ireturn (pc := 56) dX7_refusedNotes_56 (Or.inl rfl) (zk_pr ?_)
          rw [if_pos ⟨h19, h28⟩]
          first | rw [if_pos h44] | rw [if_neg h44]
      · rw [hs, show (16 : Int32) = nI 16 from rfl, nIle (by omega) (by omega)] at h28
        refine zk_aload_n (pc := 31) 0 dX7_refusedNotes_31 rfl rfl ?_
        refine zk_iconst (pc := 32) (v := 5) dX7_refusedNotes_32 (by decide) ?_
        refine zk_callVI (pc := 33) dX7_refusedNotes_33 mtX7_found lkX7_93 stX7_found (by rfl) (by rfl) [_] _ rfl rfl (Nat.le_of_ble_eq_true rfl) (Nat.le_of_ble_eq_true rfl) (sp_X7_found (f := 5) (by decide)) ?_
        refine zk_ireturn (pc := 36) dX7_refusedNotes_36 (Or.inl rfl) (zk_pr ?_)
        rw [if_neg (fun q => by first | exact h19 q.1 | exact h28 q.2)]
  · rw [zb_e] at h4
    refine zk_aload_n (pc := 7) 0 dX7_refusedNotes_7 rfl rfl ?_
    refine zk_iconst (pc := 8) (v := 1) dX7_refusedNotes_8 (by decide) ?_
    refine zk_callVI (pc := 9) dX7_refusedNotes_9 mtX7_found lkX7_93 stX7_found (by rfl) (by rfl) [_] _ rfl rfl (Nat.le_of_ble_eq_true rfl) (Nat.le_of_ble_eq_true rfl) (sp_X7_found (f := 1) (by decide)) ?_
    refine zk_ireturn (pc := 12) dX7_refusedNotes_12 (Or.inl rfl) (zk_pr ?_)
    unfold rfNt; rw [if_neg h4]
theorem sp_X7_remainder (x y : Int32) : zk_M d RX7 cX7_remainder 2 (some .int) none 0 (zk_loc [.int x, .int y] 2) [] mu lm (zk_R (some (.int (if y ≤ 0 then 0 else x - x / y * y))) mu lm) := by
  refine zk_iload_n (pc := 0) 1 dX7_remainder_0 rfl rfl ?_
  refine zk_if_le (pc := 1) 10 dX7_remainder_1 (by decide) (fun h1 => ?_) (fun h1 => ?_)
  · skip
    refine zk_iconst (pc := 10) (v := 0) dX7_remainder_10 (by decide) ?_
    refine zk_ireturn (pc := 11) dX7_remainder_11 (Or.inl rfl) (zk_ri ?_)
    first | rw [if_pos h1] | rw [if_neg h1]
  · skip
    refine zk_iload_n (pc := 4) 0 dX7_remainder_4 rfl rfl ?_
    refine zk_iload_n (pc := 5) 1 dX7_remainder_5 rfl rfl ?_
    refine zk_irem (pc := 6) dX7_remainder_6 (by intro q; rw [q] at h1; exact h1 (by decide)) ?_
    refine zk_goto (pc := 7) 11 dX7_remainder_7 (by decide) ?_
    refine zk_ireturn (pc := 11) dX7_remainder_11 (Or.inl rfl) (zk_ri ?_)
    first | rw [if_pos h1] | rw [if_neg h1]
theorem sp_X7_thereOn {sc n b N : Nat} {rs : List Nat} (hs : zk_shp[sc]? = some (3, n, rs)) (hr : ∀ k, k < n → zRow (b + 2 * k) (b + 1 + 2 * k) N ∧ rs[k]? = some (b + 2 * k)) : zk_M (d + 1) RX7 cX7_thereOn 3 (some .int) none 0 (zk_loc [.ref sc] 3) [] mu lm (zk_R (some (.int (zsum n (fun k => zb (0 ≤ mu (b + 2 * k) 1))))) mu lm) := by
  have hn := zk_sm hs
  simp only at hn
  have loop : ∀ k, k ≤ n → zk_M (d + 1) RX7 cX7_thereOn 3 (some .int) none 4 [.ref sc, .int (zsum k (fun k => zb (0 ≤ mu (b + 2 * k) 1))), .int (nI k)] [] mu lm (zk_R (some (.int (zsum n (fun k => zb (0 ≤ mu (b + 2 * k) 1))))) mu lm) := by
    refine zk_ind n (fun k hk ih => ?_)
    refine zk_iload_n (pc := 4) 2 dX7_thereOn_4 rfl rfl ?_
    refine zk_aload_n (pc := 5) 0 dX7_thereOn_5 rfl rfl ?_
    refine zk_alen (pc := 6) dX7_thereOn_6 hs (by decide) ?_
    refine zk_icmp_ge (pc := 7) 33 dX7_thereOn_7 (by decide) (fun h7 => ?_) (fun h7 => ?_)
    · rw [nIle (by omega) (by omega)] at h7
      refine zk_iload_n (pc := 33) 1 dX7_thereOn_33 rfl rfl ?_
      refine zk_ireturn (pc := 34) dX7_thereOn_34 (Or.inl rfl) (zk_ri ?_)
      rw [show k = n by omega]
    · rw [nIle (by omega) (by omega)] at h7
      refine zk_iload_n (pc := 10) 1 dX7_thereOn_10 rfl rfl ?_
      refine zk_aload_n (pc := 11) 0 dX7_thereOn_11 rfl rfl ?_
      refine zk_iload_n (pc := 12) 2 dX7_thereOn_12 rfl rfl ?_
      refine zk_aaload (pc := 13) k dX7_thereOn_13 hs (by decide) rfl (by omega) (hr k (by omega)).2 ?_
      refine zk_callVI (pc := 14) dX7_thereOn_14 mtX4_isThere lkX7_89 stX4_isThere (hr k (by omega)).1.1 (by rfl) [] _ rfl rfl (Nat.le_of_ble_eq_true rfl) (Nat.le_of_ble_eq_true rfl) (sp_X4_isThere (hr k (by omega)).1) ?_
      refine zk_if_eq (pc := 17) 24 dX7_thereOn_17 (by decide) (fun h17 => ?_) (fun h17 => ?_)
      · rw [zb_e] at h17
        refine zk_iconst (pc := 24) (v := 0) dX7_thereOn_24 (by decide) ?_
        refine zk_iadd (pc := 25) dX7_thereOn_25 ?_
        refine zs_istore_n (pc := 26) (ls' := [_, _, _]) 1 dX7_thereOn_26 rfl (by decide) rfl ?_
        refine zs_iinc (pc := 27) (ls' := [_, _, _]) dX7_thereOn_27 rfl (nI_1 k) (by decide) rfl ?_
        refine zk_goto (pc := 30) 4 dX7_thereOn_30 (by decide) ?_
        have e := ih (by omega)
        rw [zsum_s] at e
        first | (rw [zb_t h17] at e; exact e) | (rw [zb_f h17] at e; exact e)
      · rw [zb_n] at h17
        refine zk_iconst (pc := 20) (v := 1) dX7_thereOn_20 (by decide) ?_
        refine zk_goto (pc := 21) 25 dX7_thereOn_21 (by decide) ?_
        refine zk_iadd (pc := 25) dX7_thereOn_25 ?_
        refine zs_istore_n (pc := 26) (ls' := [_, _, _]) 1 dX7_thereOn_26 rfl (by decide) rfl ?_
        refine zs_iinc (pc := 27) (ls' := [_, _, _]) dX7_thereOn_27 rfl (nI_1 k) (by decide) rfl ?_
        refine zk_goto (pc := 30) 4 dX7_thereOn_30 (by decide) ?_
        have e := ih (by omega)
        rw [zsum_s] at e
        first | (rw [zb_t h17] at e; exact e) | (rw [zb_f h17] at e; exact e)
  refine zk_iconst (pc := 0) (v := 0) dX7_thereOn_0 (by decide) ?_
  refine zs_istore_n (pc := 1) (ls' := [_, _, _]) 1 dX7_thereOn_1 rfl (by decide) rfl ?_
  refine zk_iconst (pc := 2) (v := 0) dX7_thereOn_2 (by decide) ?_
  refine zs_istore_n (pc := 3) (ls' := [_, _, _]) 2 dX7_thereOn_3 rfl (by decide) rfl ?_
  exact loop 0 (by omega)
theorem sp_X7_keptClubs  : zk_M d RX7 cX7_keptClubs 3 (some .int) none 0 (zk_loc [.ref 0] 3) [] mu lm (zk_R (some (.int (zsum 3 (fun k => if mu (31 + 2 * k) 1 = -1 then 0 else 1)))) mu lm) := by
  have loop : ∀ k, k ≤ 3 → zk_M d RX7 cX7_keptClubs 3 (some .int) none 4 [.ref 0, .int (zsum k (fun k => if mu (31 + 2 * k) 1 = -1 then 0 else 1)), .int (nI k)] [] mu lm (zk_R (some (.int (zsum 3 (fun k => if mu (31 + 2 * k) 1 = -1 then 0 else 1)))) mu lm) := by
    refine zk_ind 3 (fun k hk ih => ?_)
    refine zk_iload_n (pc := 4) 2 dX7_keptClubs_4 rfl rfl ?_
    refine zk_aload_n (pc := 5) 0 dX7_keptClubs_5 rfl rfl ?_
    refine zk_getR (pc := 6) dX7_keptClubs_6 flX7_38 rfl rfl ?_
    refine zk_alen (pc := 9) dX7_keptClubs_9 rfl (by decide) ?_
    refine zk_icmp_ge (pc := 10) 40 dX7_keptClubs_10 (by decide) (fun h10 => ?_) (fun h10 => ?_)
    · rw [nIle (by omega) (by omega)] at h10
      refine zk_iload_n (pc := 40) 1 dX7_keptClubs_40 rfl rfl ?_
      refine zk_ireturn (pc := 41) dX7_keptClubs_41 (Or.inl rfl) (zk_ri ?_)
      rw [show k = 3 by omega]
    · rw [nIle (by omega) (by omega)] at h10
      refine zk_iload_n (pc := 13) 1 dX7_keptClubs_13 rfl rfl ?_
      refine zk_aload_n (pc := 14) 0 dX7_keptClubs_14 rfl rfl ?_
      refine zk_getR (pc := 15) dX7_keptClubs_15 flX7_38 rfl rfl ?_
      refine zk_iload_n (pc := 18) 2 dX7_keptClubs_18 rfl rfl ?_
      refine zk_aaload (pc := 19) k dX7_keptClubs_19 rfl (by decide) rfl (by omega) (zKepts (by omega)).2 ?_
      refine zk_getI (pc := 20) dX7_keptClubs_20 flX7_34 (zKepts (by omega)).1.1 rfl ?_
      refine zk_iconst (pc := 23) (v := -1) dX7_keptClubs_23 (by decide) ?_
      refine zk_icmp_ne (pc := 24) 31 dX7_keptClubs_24 (by decide) (fun h24 => ?_) (fun h24 => ?_)
      · skip
        refine zk_iconst (pc := 31) (v := 1) dX7_keptClubs_31 (by decide) ?_
        refine zk_iadd (pc := 32) dX7_keptClubs_32 ?_
        refine zs_istore_n (pc := 33) (ls' := [_, _, _]) 1 dX7_keptClubs_33 rfl (by decide) rfl ?_
        refine zs_iinc (pc := 34) (ls' := [_, _, _]) dX7_keptClubs_34 rfl (nI_1 k) (by decide) rfl ?_
        refine zk_goto (pc := 37) 4 dX7_keptClubs_37 (by decide) ?_
        have e := ih (by omega)
        rw [zsum_s] at e
        first | (rw [if_pos h24] at e; exact e) | (rw [if_neg h24] at e; exact e)
      · skip
        refine zk_iconst (pc := 27) (v := 0) dX7_keptClubs_27 (by decide) ?_
        refine zk_goto (pc := 28) 32 dX7_keptClubs_28 (by decide) ?_
        refine zk_iadd (pc := 32) dX7_keptClubs_32 ?_
        refine zs_istore_n (pc := 33) (ls' := [_, _, _]) 1 dX7_keptClubs_33 rfl (by decide) rfl ?_
        refine zs_iinc (pc := 34) (ls' := [_, _, _]) dX7_keptClubs_34 rfl (nI_1 k) (by decide) rfl ?_
        refine zk_goto (pc := 37) 4 dX7_keptClubs_37 (by decide) ?_
        have e := ih (by omega)
        rw [zsum_s] at e
        first | (rw [if_pos h24] at e; exact e) | (rw [if_neg h24] at e; exact e)
  refine zk_iconst (pc := 0) (v := 0) dX7_keptClubs_0 (by decide) ?_
  refine zs_istore_n (pc := 1) (ls' := [_, _, _]) 1 dX7_keptClubs_1 rfl (by decide) rfl ?_
  refine zk_iconst (pc := 2) (v := 0) dX7_keptClubs_2 (by decide) ?_
  refine zs_istore_n (pc := 3) (ls' := [_, _, _]) 2 dX7_keptClubs_3 rfl (by decide) rfl ?_
  exact loop 0 (by omega)
theorem sp_mf0 {j : Nat} (hj : j < 6)  : zk_M d RX7 cX7_memberFact 3 (some .int) none 0 (zk_loc [.ref 0, .int (nI j), .int 0] 3) [] mu lm (zk_R (some (.int (mu 24 j))) mu lm) := by
  refine zk_iload_n (pc := 0) 2 dX7_memberFact_0 rfl rfl ?_
  refine zk_tabIn (pc := 1) 28 dX7_memberFact_1 (by decide) (by decide) (by rfl) (by decide) ?_
  refine zk_aload_n (pc := 28) 0 dX7_memberFact_28 rfl rfl ?_
  refine zk_getR (pc := 29) dX7_memberFact_29 flX7_23 rfl rfl ?_
  refine zk_getR (pc := 32) dX7_memberFact_32 flX7_140 rfl rfl ?_
  refine zk_iload_n (pc := 35) 1 dX7_memberFact_35 rfl rfl ?_
  refine zk_iaload (pc := 36) j dX7_memberFact_36 rfl rfl hj ?_
  refine zk_ireturn (pc := 37) dX7_memberFact_37 (Or.inl rfl) ?_
  exact zk_ri rfl
theorem sp_mf1 {j : Nat} (hj : j < 6)  : zk_M d RX7 cX7_memberFact 3 (some .int) none 0 (zk_loc [.ref 0, .int (nI j), .int 1] 3) [] mu lm (zk_R (some (.int (mu 25 j))) mu lm) := by
  refine zk_iload_n (pc := 0) 2 dX7_memberFact_0 rfl rfl ?_
  refine zk_tabIn (pc := 1) 38 dX7_memberFact_1 (by decide) (by decide) (by rfl) (by decide) ?_
  refine zk_aload_n (pc := 38) 0 dX7_memberFact_38 rfl rfl ?_
  refine zk_getR (pc := 39) dX7_memberFact_39 flX7_23 rfl rfl ?_
  refine zk_getR (pc := 42) dX7_memberFact_42 flX7_333 rfl rfl ?_
  refine zk_iload_n (pc := 45) 1 dX7_memberFact_45 rfl rfl ?_
  refine zk_iaload (pc := 46) j dX7_memberFact_46 rfl rfl hj ?_
  refine zk_ireturn (pc := 47) dX7_memberFact_47 (Or.inl rfl) ?_
  exact zk_ri rfl
theorem sp_mf2 {j : Nat} (hj : j < 6) {q : Nat} (hq : mu 25 j = nI q) (hq8 : q < 8) : zk_M d RX7 cX7_memberFact 3 (some .int) none 0 (zk_loc [.ref 0, .int (nI j), .int 2] 3) [] mu lm (zk_R (some (.int (mu 27 q))) mu lm) := by
  refine zk_iload_n (pc := 0) 2 dX7_memberFact_0 rfl rfl ?_
  refine zk_tabIn (pc := 1) 48 dX7_memberFact_1 (by decide) (by decide) (by rfl) (by decide) ?_
  refine zk_aload_n (pc := 48) 0 dX7_memberFact_48 rfl rfl ?_
  refine zk_getR (pc := 49) dX7_memberFact_49 flX7_23 rfl rfl ?_
  refine zk_getR (pc := 52) dX7_memberFact_52 flX7_164 rfl rfl ?_
  refine zk_aload_n (pc := 55) 0 dX7_memberFact_55 rfl rfl ?_
  refine zk_getR (pc := 56) dX7_memberFact_56 flX7_23 rfl rfl ?_
  refine zk_getR (pc := 59) dX7_memberFact_59 flX7_333 rfl rfl ?_
  refine zk_iload_n (pc := 62) 1 dX7_memberFact_62 rfl rfl ?_
  refine zk_iaload (pc := 63) j dX7_memberFact_63 rfl rfl hj ?_
  refine zk_iaload (pc := 64) q dX7_memberFact_64 rfl hq hq8 ?_
  refine zk_ireturn (pc := 65) dX7_memberFact_65 (Or.inl rfl) ?_
  exact zk_ri rfl
theorem sp_mf3 {j : Nat} (hj : j < 6) : zk_M d RX7 cX7_memberFact 3 (some .int) none 0 (zk_loc [.ref 0, .int (nI j), .int 3] 3) [] mu lm (zk_R (some (.int (mu 26 j))) mu lm) := by
  refine zk_iload_n (pc := 0) 2 dX7_memberFact_0 rfl rfl ?_
  refine zk_tabOut (pc := 1) 66 dX7_memberFact_1 (by decide) (by decide) ?_
  refine zk_aload_n (pc := 66) 0 dX7_memberFact_66 rfl rfl ?_
  refine zk_getR (pc := 67) dX7_memberFact_67 flX7_23 rfl rfl ?_
  refine zk_getR (pc := 70) dX7_memberFact_70 flX7_336 rfl rfl ?_
  refine zk_iload_n (pc := 73) 1 dX7_memberFact_73 rfl rfl ?_
  refine zk_iaload (pc := 74) j dX7_memberFact_74 rfl rfl hj ?_
  refine zk_ireturn (pc := 75) dX7_memberFact_75 (Or.inl rfl) ?_
  exact zk_ri rfl
def wghM (mu : Mem) (v : Int32) (k : Nat) : Mem := zk_uc mu 43 (fun q => if q < k then v - kSay (mu 24 q) v else mu 43 q)
theorem wghM_0 (mu : Mem) (v : Int32) : wghM mu v 0 = mu := by
  unfold wghM
  have : (fun q => if q < 0 then v - kSay (mu 24 q) v else mu 43 q) = mu 43 := by funext k; simp
  rw [this, zk_uc_self]
theorem wghM_s (mu : Mem) (v : Int32) (j : Nat) : zk_up (wghM mu v j) 43 j (v - kSay (mu 24 j) v) = wghM mu v (j + 1) := by
  funext c k
  unfold wghM zk_up zk_uc
  by_cases hc : c = 43
  · subst hc
    by_cases hk : k = j
    · subst hk; simp
    · have e : (k < j + 1) = (k < j) := propext ⟨fun h => by omega, fun h => by omega⟩
      simp [hk, e]
  · simp [hc]
theorem wghM_c (mu : Mem) (v : Int32) (j : Nat) {c : Nat} (h : c ≠ 43) : wghM mu v j c = mu c := by unfold wghM; rw [zuc_c _ _ h]
theorem sp_X7_weighBreaths {M : Nat} (hM : mu 23 6 = nI M) (hM6 : M ≤ 6) (v : Int32) : zk_M (d + 3) RX7 cX7_weighBreaths 3 (none) none 0 (zk_loc [.ref 0, .int v] 3) [] mu lm (zk_R none (wghM mu v M) lm) := by
  have loop : ∀ k, k ≤ M → zk_M (d + 3) RX7 cX7_weighBreaths 3 (none) none 2 [.ref 0, .int v, .int (nI k)] [] (wghM mu v k) lm (zk_R none (wghM mu v M) lm) := by
    refine zk_ind M (fun k hk ih => ?_)
    refine zk_iload_n (pc := 2) 2 dX7_weighBreaths_2 rfl rfl ?_
    refine zk_aload_n (pc := 3) 0 dX7_weighBreaths_3 rfl rfl ?_
    refine zk_getR (pc := 4) dX7_weighBreaths_4 flX7_23 rfl rfl ?_
    refine zk_getI (pc := 7) dX7_weighBreaths_7 flX7_123 rfl rfl ?_
    refine zk_icmp_ge (pc := 10) 38 dX7_weighBreaths_10 (by decide) (fun h10 => ?_) (fun h10 => ?_)
    · rw [wghM_c _ _ _ (by decide), hM, nIle (by omega) (by omega)] at h10
      refine zk_return (pc := 38) dX7_weighBreaths_38 rfl (zk_rv0 ?_ rfl)
      rw [show k = M by omega]
    · rw [wghM_c _ _ _ (by decide), hM, nIle (by omega) (by omega)] at h10
      refine zk_aload_n (pc := 13) 0 dX7_weighBreaths_13 rfl rfl ?_
      refine zk_getR (pc := 14) dX7_weighBreaths_14 flX7_49 rfl rfl ?_
      refine zk_iload_n (pc := 17) 2 dX7_weighBreaths_17 rfl rfl ?_
      refine zk_aload_n (pc := 18) 0 dX7_weighBreaths_18 rfl rfl ?_
      refine zk_getR (pc := 19) dX7_weighBreaths_19 flX7_23 rfl rfl ?_
      refine zk_getR (pc := 22) dX7_weighBreaths_22 flX7_140 rfl rfl ?_
      refine zk_iload_n (pc := 25) 2 dX7_weighBreaths_25 rfl rfl ?_
      refine zk_iaload (pc := 26) k dX7_weighBreaths_26 rfl rfl (by omega) ?_
      refine zk_iload_n (pc := 27) 1 dX7_weighBreaths_27 rfl rfl ?_
      refine zk_callSI (pc := 28) dX7_weighBreaths_28 mtX2_breathed lkX7_188 stX2_breathed [_, _] _ rfl rfl (Nat.le_of_ble_eq_true rfl) (Nat.le_of_ble_eq_true rfl) (sp_X2_breathed _ _) ?_
      refine zk_iastore (pc := 31) k dX7_weighBreaths_31 rfl rfl (by omega) ?_
      refine zs_iinc (pc := 32) (ls' := [_, _, _]) dX7_weighBreaths_32 rfl (nI_1 k) (by decide) rfl ?_
      refine zk_goto (pc := 35) 2 dX7_weighBreaths_35 (by decide) ?_
      rw [wghM_c _ _ _ (show 24 ≠ 43 by decide)]
      have e := ih (by omega)
      rw [← wghM_s] at e
      exact e
  have e0 := loop 0 (by omega)
  rw [wghM_0] at e0
  refine zk_iconst (pc := 0) (v := 0) dX7_weighBreaths_0 (by decide) ?_
  refine zs_istore_n (pc := 1) (ls' := [_, _, _]) 2 dX7_weighBreaths_1 rfl (by decide) rfl ?_
  exact e0
def sBr (mu : Mem) (M : Nat) (x : Int32) : Int32 := zsum M (fun i => ((x >>> (nI i &&& 31)) &&& 1) * mu 43 i)
theorem sp_X7_setBreath {M : Nat} (hM : mu 23 6 = nI M) (hM6 : M ≤ 6) (x : Int32) : zk_M d RX7 cX7_setBreath 4 (some .int) none 0 (zk_loc [.ref 0, .int x] 4) [] mu lm (zk_R (some (.int (sBr mu M x))) mu lm) := by
  have loop : ∀ k, k ≤ M → zk_M d RX7 cX7_setBreath 4 (some .int) none 4 [.ref 0, .int x, .int (zsum k (fun i => ((x >>> (nI i &&& 31)) &&& 1) * mu 43 i)), .int (nI k)] [] mu lm (zk_R (some (.int (sBr mu M x))) mu lm) := by
    refine zk_ind M (fun k hk ih => ?_)
    refine zk_iload_n (pc := 4) 3 dX7_setBreath_4 rfl rfl ?_
    refine zk_aload_n (pc := 5) 0 dX7_setBreath_5 rfl rfl ?_
    refine zk_getR (pc := 6) dX7_setBreath_6 flX7_23 rfl rfl ?_
    refine zk_getI (pc := 9) dX7_setBreath_9 flX7_123 rfl rfl ?_
    refine zk_icmp_ge (pc := 12) 36 dX7_setBreath_12 (by decide) (fun h12 => ?_) (fun h12 => ?_)
    · rw [hM, nIle (by omega) (by omega)] at h12
      refine zk_iload_n (pc := 36) 2 dX7_setBreath_36 rfl rfl ?_
      refine zk_ireturn (pc := 37) dX7_setBreath_37 (Or.inl rfl) (zk_ri ?_)
      rw [show k = M by omega]; rfl
    · rw [hM, nIle (by omega) (by omega)] at h12
      refine zk_iload_n (pc := 15) 2 dX7_setBreath_15 rfl rfl ?_
      refine zk_iload_n (pc := 16) 1 dX7_setBreath_16 rfl rfl ?_
      refine zk_iload_n (pc := 17) 3 dX7_setBreath_17 rfl rfl ?_
      refine zk_ishr (pc := 18) dX7_setBreath_18 ?_
      refine zk_iconst (pc := 19) (v := 1) dX7_setBreath_19 (by decide) ?_
      refine zk_iand (pc := 20) dX7_setBreath_20 ?_
      refine zk_aload_n (pc := 21) 0 dX7_setBreath_21 rfl rfl ?_
      refine zk_getR (pc := 22) dX7_setBreath_22 flX7_49 rfl rfl ?_
      refine zk_iload_n (pc := 25) 3 dX7_setBreath_25 rfl rfl ?_
      refine zk_iaload (pc := 26) k dX7_setBreath_26 rfl rfl (by omega) ?_
      refine zk_imul (pc := 27) dX7_setBreath_27 ?_
      refine zk_iadd (pc := 28) dX7_setBreath_28 ?_
      refine zs_istore_n (pc := 29) (ls' := [_, _, _, _]) 2 dX7_setBreath_29 rfl (by decide) rfl ?_
      refine zs_iinc (pc := 30) (ls' := [_, _, _, _]) dX7_setBreath_30 rfl (nI_1 k) (by decide) rfl ?_
      refine zk_goto (pc := 33) 4 dX7_setBreath_33 (by decide) ?_
      exact ih (by omega)
  refine zk_iconst (pc := 0) (v := 0) dX7_setBreath_0 (by decide) ?_
  refine zs_istore_n (pc := 1) (ls' := [_, _, _, _]) 2 dX7_setBreath_1 rfl (by decide) rfl ?_
  refine zk_iconst (pc := 2) (v := 0) dX7_setBreath_2 (by decide) ?_
  refine zs_istore_n (pc := 3) (ls' := [_, _, _, _]) 3 dX7_setBreath_3 rfl (by decide) rfl ?_
  exact loop 0 (by omega)
theorem zshl {M : Nat} (h : M ≤ 8) : (1 : Int32) <<< (nI M &&& 31) = nI (2 ^ M) := by
  match M, h with
  | 0, _ => decide
  | 1, _ => decide
  | 2, _ => decide
  | 3, _ => decide
  | 4, _ => decide
  | 5, _ => decide
  | 6, _ => decide
  | 7, _ => decide
  | 8, _ => decide
theorem zpow {M : Nat} (h : M ≤ 8) : 2 ^ M ≤ 256 := Nat.pow_le_pow_right (by decide) h
def sWith (mu : Mem) (M : Nat) (nd b : Int32) : Int32 := zsum (2 ^ M) (fun x => zb (nI x &&& nd = nd ∧ sBr mu M (nI x) = b))
theorem sp_X7_setsWith {M : Nat} (hM : mu 23 6 = nI M) (hM6 : M ≤ 6) (nd b : Int32) : zk_M (d + 1) RX7 cX7_setsWith 5 (some .int) none 0 (zk_loc [.ref 0, .int nd, .int b] 5) [] mu lm (zk_R (some (.int (sWith mu M nd b))) mu lm) := by
  have hp : 2 ^ M ≤ 256 := zpow (by omega)
  have loop : ∀ k, k ≤ 2 ^ M → zk_M (d + 1) RX7 cX7_setsWith 5 (some .int) none 5 [.ref 0, .int nd, .int b, .int (zsum k (fun x => zb (nI x &&& nd = nd ∧ sBr mu M (nI x) = b))), .int (nI k)] [] mu lm (zk_R (some (.int (sWith mu M nd b))) mu lm) := by
    refine zk_ind (2 ^ M) (fun k hk ih => ?_)
    refine zk_iload (pc := 5) dX7_setsWith_5 rfl ?_
    refine zk_iconst (pc := 7) (v := 1) dX7_setsWith_7 (by decide) ?_
    refine zk_aload_n (pc := 8) 0 dX7_setsWith_8 rfl rfl ?_
    refine zk_getR (pc := 9) dX7_setsWith_9 flX7_23 rfl rfl ?_
    refine zk_getI (pc := 12) dX7_setsWith_12 flX7_123 rfl rfl ?_
    refine zk_ishl (pc := 15) dX7_setsWith_15 ?_
    refine zk_icmp_ge (pc := 16) 46 dX7_setsWith_16 (by decide) (fun h16 => ?_) (fun h16 => ?_)
    · rw [hM, zshl (by omega), nIle (by omega) (by omega)] at h16
      refine zk_iload_n (pc := 46) 3 dX7_setsWith_46 rfl rfl ?_
      refine zk_ireturn (pc := 47) dX7_setsWith_47 (Or.inl rfl) (zk_ri ?_)
      rw [show k = 2 ^ M by omega]; rfl
    · rw [hM, zshl (by omega), nIle (by omega) (by omega)] at h16
      refine zk_iload (pc := 19) dX7_setsWith_19 rfl ?_
      refine zk_iload_n (pc := 21) 1 dX7_setsWith_21 rfl rfl ?_
      refine zk_iand (pc := 22) dX7_setsWith_22 ?_
      refine zk_iload_n (pc := 23) 1 dX7_setsWith_23 rfl rfl ?_
      refine zk_icmp_ne (pc := 24) 40 dX7_setsWith_24 (by decide) (fun h24 => ?_) (fun h24 => ?_)
      · skip
        refine zs_iinc (pc := 40) (ls' := [_, _, _, _, _]) dX7_setsWith_40 rfl (nI_1 k) (by decide) rfl ?_
        refine zk_goto (pc := 43) 5 dX7_setsWith_43 (by decide) ?_
        have e := ih (by omega)
        rw [zsum_s] at e
        first
          | (have hv : zb (nI k &&& nd = nd ∧ sBr mu M (nI k) = b) = 0 := by first | exact zb_f (fun q => h24 q.1) | exact zb_f (fun q => h34 q.2)
             rw [hv, Int32.add_zero] at e
             exact e)
          | (have hv : zb (nI k &&& nd = nd ∧ sBr mu M (nI k) = b) = 1 := zb_t ⟨h24, h34⟩
             rw [hv] at e
             exact e)
      · skip
        refine zk_aload_n (pc := 27) 0 dX7_setsWith_27 rfl rfl ?_
        refine zk_iload (pc := 28) dX7_setsWith_28 rfl ?_
        refine zk_callVI (pc := 30) dX7_setsWith_30 mtX7_setBreath lkX7_369 stX7_setBreath (by rfl) (by rfl) [_] _ rfl rfl (Nat.le_of_ble_eq_true rfl) (Nat.le_of_ble_eq_true rfl) (sp_X7_setBreath hM hM6 _) ?_
        refine zk_iload_n (pc := 33) 2 dX7_setsWith_33 rfl rfl ?_
        refine zk_icmp_ne (pc := 34) 40 dX7_setsWith_34 (by decide) (fun h34 => ?_) (fun h34 => ?_)
        · skip
          refine zs_iinc (pc := 40) (ls' := [_, _, _, _, _]) dX7_setsWith_40 rfl (nI_1 k) (by decide) rfl ?_
          refine zk_goto (pc := 43) 5 dX7_setsWith_43 (by decide) ?_
          have e := ih (by omega)
          rw [zsum_s] at e
          first
            | (have hv : zb (nI k &&& nd = nd ∧ sBr mu M (nI k) = b) = 0 := by first | exact zb_f (fun q => h24 q.1) | exact zb_f (fun q => h34 q.2)
               rw [hv, Int32.add_zero] at e
               exact e)
            | (have hv : zb (nI k &&& nd = nd ∧ sBr mu M (nI k) = b) = 1 := zb_t ⟨h24, h34⟩
               rw [hv] at e
               exact e)
        · skip
          refine zs_iinc (pc := 37) (ls' := [_, _, _, _, _]) dX7_setsWith_37 rfl rfl (by decide) rfl ?_
          refine zs_iinc (pc := 40) (ls' := [_, _, _, _, _]) dX7_setsWith_40 rfl (nI_1 k) (by decide) rfl ?_
          refine zk_goto (pc := 43) 5 dX7_setsWith_43 (by decide) ?_
          have e := ih (by omega)
          rw [zsum_s] at e
          first
            | (have hv : zb (nI k &&& nd = nd ∧ sBr mu M (nI k) = b) = 0 := by first | exact zb_f (fun q => h24 q.1) | exact zb_f (fun q => h34 q.2)
               rw [hv, Int32.add_zero] at e
               exact e)
            | (have hv : zb (nI k &&& nd = nd ∧ sBr mu M (nI k) = b) = 1 := zb_t ⟨h24, h34⟩
               rw [hv] at e
               exact e)
  refine zk_iconst (pc := 0) (v := 0) dX7_setsWith_0 (by decide) ?_
  refine zs_istore_n (pc := 1) (ls' := [_, _, _, _, _]) 3 dX7_setsWith_1 rfl (by decide) rfl ?_
  refine zk_iconst (pc := 2) (v := 0) dX7_setsWith_2 (by decide) ?_
  refine zs_istore (pc := 3) (ls' := [_, _, _, _, _]) 4 dX7_setsWith_3 (by decide) rfl ?_
  exact loop 0 (Nat.zero_le _)
theorem zfst_t {p : Nat → Bool} {df : Int32} {m j : Nat} (h : p j = true) : zfst p df (m + 1) j = nI j := by rw [zfst, if_pos h]
theorem zfst_f {p : Nat → Bool} {df : Int32} {m j : Nat} (h : p j = false) : zfst p df (m + 1) j = zfst p df m (j + 1) := by rw [zfst, if_neg (by rw [h]; decide)]
theorem sp_X7_firstSet {M : Nat} (hM : mu 23 6 = nI M) (hM6 : M ≤ 6) (b : Int32) : zk_M (d + 1) RX7 cX7_firstSet 3 (some .int) none 0 (zk_loc [.ref 0, .int b] 3) [] mu lm (zk_R (some (.int (zfst (fun x => decide (sBr mu M (nI x) = b)) (-9) (2 ^ M) 0))) mu lm) := by
  have hp : 2 ^ M ≤ 256 := zpow (by omega)
  have loop : ∀ k, k ≤ 2 ^ M → zk_M (d + 1) RX7 cX7_firstSet 3 (some .int) none 2 [.ref 0, .int b, .int (nI k)] [] mu lm (zk_R (some (.int (zfst (fun x => decide (sBr mu M (nI x) = b)) (-9) (2 ^ M - k) k))) mu lm) := by
    refine zk_ind (2 ^ M) (fun k hk ih => ?_)
    refine zk_iload_n (pc := 2) 2 dX7_firstSet_2 rfl rfl ?_
    refine zk_iconst (pc := 3) (v := 1) dX7_firstSet_3 (by decide) ?_
    refine zk_aload_n (pc := 4) 0 dX7_firstSet_4 rfl rfl ?_
    refine zk_getR (pc := 5) dX7_firstSet_5 flX7_23 rfl rfl ?_
    refine zk_getI (pc := 8) dX7_firstSet_8 flX7_123 rfl rfl ?_
    refine zk_ishl (pc := 11) dX7_firstSet_11 ?_
    refine zk_icmp_ge (pc := 12) 32 dX7_firstSet_12 (by decide) (fun h12 => ?_) (fun h12 => ?_)
    · rw [hM, zshl (by omega), nIle (by omega) (by omega)] at h12
      refine zk_bipush (pc := 32) (v := -9) dX7_firstSet_32 (by decide) ?_
      refine zk_ireturn (pc := 34) dX7_firstSet_34 (Or.inl rfl) (zk_ri ?_)
      rw [show 2 ^ M - k = 0 by omega]; rfl
    · rw [hM, zshl (by omega), nIle (by omega) (by omega)] at h12
      refine zk_aload_n (pc := 15) 0 dX7_firstSet_15 rfl rfl ?_
      refine zk_iload_n (pc := 16) 2 dX7_firstSet_16 rfl rfl ?_
      refine zk_callVI (pc := 17) dX7_firstSet_17 mtX7_setBreath lkX7_369 stX7_setBreath (by rfl) (by rfl) [_] _ rfl rfl (Nat.le_of_ble_eq_true rfl) (Nat.le_of_ble_eq_true rfl) (sp_X7_setBreath hM hM6 _) ?_
      refine zk_iload_n (pc := 20) 1 dX7_firstSet_20 rfl rfl ?_
      refine zk_icmp_ne (pc := 21) 26 dX7_firstSet_21 (by decide) (fun h21 => ?_) (fun h21 => ?_)
      · skip
        refine zs_iinc (pc := 26) (ls' := [_, _, _]) dX7_firstSet_26 rfl (nI_1 k) (by decide) rfl ?_
        refine zk_goto (pc := 29) 2 dX7_firstSet_29 (by decide) ?_
        rw [show 2 ^ M - k = (2 ^ M - (k + 1)) + 1 by omega, zfst_f (decide_eq_false h21)]
        exact ih (by omega)
      · skip
        refine zk_iload_n (pc := 24) 2 dX7_firstSet_24 rfl rfl ?_
        refine zk_ireturn (pc := 25) dX7_firstSet_25 (Or.inl rfl) (zk_ri ?_)
        rw [show 2 ^ M - k = (2 ^ M - (k + 1)) + 1 by omega, zfst_t (decide_eq_true h21)]
  refine zk_iconst (pc := 0) (v := 0) dX7_firstSet_0 (by decide) ?_
  refine zs_istore_n (pc := 1) (ls' := [_, _, _]) 2 dX7_firstSet_1 rfl (by decide) rfl ?_
  exact loop 0 (Nat.zero_le _)
end M28
