section M26
variable {d : Nat} {mu : Mem} {lm : MemL}
/-- the kind of a letter -/
def kLet (x : Int32) : Int32 := if x = 97 then 4 else if x = 98 then 1 else if x = 102 then 3 else if x = 109 then 0 else if x = 118 then 5 else if x = 121 then 2 else -9
theorem sp_X2_byLetter (x : Int32) : zk_M d RX2 cX2_byLetter 1 (some .int) none 0 (zk_loc [.int x] 1) [] mu lm (zk_R (some (.int (kLet x))) mu lm) := by
  refine zk_iload_n (pc := 0) 0 dX2_byLetter_0 rfl rfl ?_
  by_cases e97 : x = 97
  · subst e97
    refine zk_lookup (pc := 1) 68 dX2_byLetter_1 (by decide) (by rfl) (by decide) ?_
    refine zk_iconst (pc := 68) (v := 4) dX2_byLetter_68 (by decide) ?_
    refine zk_ireturn (pc := 69) dX2_byLetter_69 (Or.inl rfl) ?_
    exact zk_ri (by decide)
  by_cases e98 : x = 98
  · subst e98
    refine zk_lookup (pc := 1) 62 dX2_byLetter_1 (by decide) (by rfl) (by decide) ?_
    refine zk_iconst (pc := 62) (v := 1) dX2_byLetter_62 (by decide) ?_
    refine zk_ireturn (pc := 63) dX2_byLetter_63 (Or.inl rfl) ?_
    exact zk_ri (by decide)
  by_cases e102 : x = 102
  · subst e102
    refine zk_lookup (pc := 1) 66 dX2_byLetter_1 (by decide) (by rfl) (by decide) ?_
    refine zk_iconst (pc := 66) (v := 3) dX2_byLetter_66 (by decide) ?_
    refine zk_ireturn (pc := 67) dX2_byLetter_67 (Or.inl rfl) ?_
    exact zk_ri (by decide)
  by_cases e109 : x = 109
  · subst e109
    refine zk_lookup (pc := 1) 60 dX2_byLetter_1 (by decide) (by rfl) (by decide) ?_
    refine zk_iconst (pc := 60) (v := 0) dX2_byLetter_60 (by decide) ?_
    refine zk_ireturn (pc := 61) dX2_byLetter_61 (Or.inl rfl) ?_
    exact zk_ri (by decide)
  by_cases e118 : x = 118
  · subst e118
    refine zk_lookup (pc := 1) 70 dX2_byLetter_1 (by decide) (by rfl) (by decide) ?_
    refine zk_iconst (pc := 70) (v := 5) dX2_byLetter_70 (by decide) ?_
    refine zk_ireturn (pc := 71) dX2_byLetter_71 (Or.inl rfl) ?_
    exact zk_ri (by decide)
  by_cases e121 : x = 121
  · subst e121
    refine zk_lookup (pc := 1) 64 dX2_byLetter_1 (by decide) (by rfl) (by decide) ?_
    refine zk_iconst (pc := 64) (v := 2) dX2_byLetter_64 (by decide) ?_
    refine zk_ireturn (pc := 65) dX2_byLetter_65 (Or.inl rfl) ?_
    exact zk_ri (by decide)
  · refine zk_lookup (pc := 1) (off := 71) 72 dX2_byLetter_1 (by decide) ?_ (by decide) ?_
    · show Op.lookupswitch.offset [(97, 67), (98, 61), (102, 65), (109, 59), (118, 69), (121, 63)] 71 x.toInt = 71
      rw [lv_osw e97 (by decide), lv_osw e98 (by decide), lv_osw e102 (by decide), lv_osw e109 (by decide), lv_osw e118 (by decide), lv_osw e121 (by decide)]
      rfl
    · skip
      refine zk_bipush (pc := 72) (v := -9) dX2_byLetter_72 (by decide) ?_
      refine zk_ireturn (pc := 74) dX2_byLetter_74 (Or.inl rfl) ?_
      exact zk_ri (by unfold kLet; rw [if_neg e97, if_neg e98, if_neg e102, if_neg e109, if_neg e118, if_neg e121])
/-- where blanks may stand: ahead of sign s -/
def btw (s : Nat) : Bool := s == 0 || (decide (3 ≤ s) && (s - 3) % 2 == 0)
def fitB (r cells : Int32) (s : Nat) : Bool := if 15 ≤ s then false else if s = 0 then decide (r = 112) else if s = 1 then decide (48 ≤ r ∧ r ≤ 57) else if s = 2 then decide (51 ≤ r ∧ r ≤ 56) else if btw s = true then decide (¬ kLet r = -9) else decide (48 ≤ r ∧ r ≤ 48 + cells - 1)
theorem sp_X5_isBetweenItems {t : Nat} (ht : t < 1000) : zk_M d RX5 cX5_isBetweenItems 1 (some .boolean) none 0 (zk_loc [.int (nI t)] 1) [] mu lm (zk_R (some (.int (zb (btw t = true)))) mu lm) := by
  refine zk_iload_n (pc := 0) 0 dX5_isBetweenItems_0 rfl rfl ?_
  refine zk_if_eq (pc := 1) 17 dX5_isBetweenItems_1 (by decide) (fun h1 => ?_) (fun h1 => ?_)
  · rw [show (0 : Int32) = nI 0 from rfl, nIeq (by omega) (by omega)] at h1
    refine zk_iconst (pc := 17) (v := 1) dX5_isBetweenItems_17 (by decide) ?_
    refine zk_goto (pc := 18) 22 dX5_isBetweenItems_18 (by decide) ?_
    refine zk_ireturn (pc := 22) dX5_isBetweenItems_22 (Or.inr ⟨rfl, by first | exact Or.inl rfl | exact Or.inr rfl⟩) ?_
    first
      | exact zk_ri (zb_t (by unfold btw; simp; omega)).symm
      | exact zk_ri (zb_f (by unfold btw; simp; omega)).symm
  · rw [show (0 : Int32) = nI 0 from rfl, nIeq (by omega) (by omega)] at h1
    refine zk_iload_n (pc := 4) 0 dX5_isBetweenItems_4 rfl rfl ?_
    refine zk_iconst (pc := 5) (v := 3) dX5_isBetweenItems_5 (by decide) ?_
    refine zk_icmp_lt (pc := 6) 21 dX5_isBetweenItems_6 (by decide) (fun h6 => ?_) (fun h6 => ?_)
    · rw [show (3 : Int32) = nI 3 from rfl, nIlt (by omega) (by omega)] at h6
      refine zk_iconst (pc := 21) (v := 0) dX5_isBetweenItems_21 (by decide) ?_
      refine zk_ireturn (pc := 22) dX5_isBetweenItems_22 (Or.inr ⟨rfl, by first | exact Or.inl rfl | exact Or.inr rfl⟩) ?_
      first
        | exact zk_ri (zb_t (by unfold btw; simp; omega)).symm
        | exact zk_ri (zb_f (by unfold btw; simp; omega)).symm
    · rw [show (3 : Int32) = nI 3 from rfl, nIlt (by omega) (by omega)] at h6
      refine zk_iload_n (pc := 9) 0 dX5_isBetweenItems_9 rfl rfl ?_
      refine zk_iconst (pc := 10) (v := 3) dX5_isBetweenItems_10 (by decide) ?_
      refine zk_isub (pc := 11) dX5_isBetweenItems_11 ?_
      refine zk_iconst (pc := 12) (v := 2) dX5_isBetweenItems_12 (by decide) ?_
      refine zk_irem (pc := 13) dX5_isBetweenItems_13 (by decide) ?_
      refine zk_if_ne (pc := 14) 21 dX5_isBetweenItems_14 (by decide) (fun h14 => ?_) (fun h14 => ?_)
      · rw [show (3 : Int32) = nI 3 from rfl, pk_sub (by omega), show (2 : Int32) = nI 2 from rfl, pk_rem (by omega) (by omega) (by omega), show (0 : Int32) = nI 0 from rfl, nIeq (by omega) (by omega)] at h14
        refine zk_iconst (pc := 21) (v := 0) dX5_isBetweenItems_21 (by decide) ?_
        refine zk_ireturn (pc := 22) dX5_isBetweenItems_22 (Or.inr ⟨rfl, by first | exact Or.inl rfl | exact Or.inr rfl⟩) ?_
        first
          | exact zk_ri (zb_t (by unfold btw; simp; omega)).symm
          | exact zk_ri (zb_f (by unfold btw; simp; omega)).symm
      · rw [show (3 : Int32) = nI 3 from rfl, pk_sub (by omega), show (2 : Int32) = nI 2 from rfl, pk_rem (by omega) (by omega) (by omega), show (0 : Int32) = nI 0 from rfl, nIeq (by omega) (by omega)] at h14
        refine zk_iconst (pc := 17) (v := 1) dX5_isBetweenItems_17 (by decide) ?_
        refine zk_goto (pc := 18) 22 dX5_isBetweenItems_18 (by decide) ?_
        refine zk_ireturn (pc := 22) dX5_isBetweenItems_22 (Or.inr ⟨rfl, by first | exact Or.inl rfl | exact Or.inr rfl⟩) ?_
        first
          | exact zk_ri (zb_t (by unfold btw; simp; omega)).symm
          | exact zk_ri (zb_f (by unfold btw; simp; omega)).symm
theorem sp_X5_fits {t : Nat} (ht : t < 1000) (r cells : Int32) : zk_M (d + 1) RX5 cX5_fits 3 (some .boolean) none 0 (zk_loc [.int r, .int (nI t), .int cells] 3) [] mu lm (zk_R (some (.int (zb (fitB r cells t = true)))) mu lm) := by
  refine zk_iload_n (pc := 0) 1 dX5_fits_0 rfl rfl ?_
  refine zk_bipush (pc := 1) (v := 15) dX5_fits_1 (by decide) ?_
  refine zk_icmp_lt (pc := 3) 8 dX5_fits_3 (by decide) (fun h3 => ?_) (fun h3 => ?_)
  · rw [show (15 : Int32) = nI 15 from rfl, nIlt (by omega) (by omega)] at h3
    refine zk_iload_n (pc := 8) 1 dX5_fits_8 rfl rfl ?_
    refine zk_if_ne (pc := 9) 24 dX5_fits_9 (by decide) (fun h9 => ?_) (fun h9 => ?_)
    · rw [show (0 : Int32) = nI 0 from rfl, nIeq (by omega) (by omega)] at h9
      refine zk_iload_n (pc := 24) 1 dX5_fits_24 rfl rfl ?_
      refine zk_iconst (pc := 25) (v := 1) dX5_fits_25 (by decide) ?_
      refine zk_icmp_ne (pc := 26) 38 dX5_fits_26 (by decide) (fun h26 => ?_) (fun h26 => ?_)
      · rw [show (1 : Int32) = nI 1 from rfl, nIeq (by omega) (by omega)] at h26
        refine zk_iload_n (pc := 38) 1 dX5_fits_38 rfl rfl ?_
        refine zk_iconst (pc := 39) (v := 2) dX5_fits_39 (by decide) ?_
        refine zk_icmp_ne (pc := 40) 52 dX5_fits_40 (by decide) (fun h40 => ?_) (fun h40 => ?_)
        · rw [show (2 : Int32) = nI 2 from rfl, nIeq (by omega) (by omega)] at h40
          refine zk_iload_n (pc := 52) 1 dX5_fits_52 rfl rfl ?_
          refine zk_callSI (pc := 53) dX5_fits_53 mtX5_isBetweenItems lkX5_21 stX5_isBetweenItems [_] _ rfl rfl (Nat.le_of_ble_eq_true rfl) (Nat.le_of_ble_eq_true rfl) (sp_X5_isBetweenItems ht) ?_
          refine zk_if_eq (pc := 56) 74 dX5_fits_56 (by decide) (fun h56 => ?_) (fun h56 => ?_)
          · rw [zb_e] at h56
            refine zk_iload_n (pc := 74) 0 dX5_fits_74 rfl rfl ?_
            refine zk_bipush (pc := 75) (v := 48) dX5_fits_75 (by decide) ?_
            refine zk_bipush (pc := 77) (v := 48) dX5_fits_77 (by decide) ?_
            refine zk_iload_n (pc := 79) 2 dX5_fits_79 rfl rfl ?_
            refine zk_iadd (pc := 80) dX5_fits_80 ?_
            refine zk_iconst (pc := 81) (v := 1) dX5_fits_81 (by decide) ?_
            refine zk_isub (pc := 82) dX5_fits_82 ?_
            refine zk_callSNI (pc := 83) dX5_fits_83 mtX7_within lkX5_52 stX7_within [_, _, _] _ rfl rfl (Nat.le_of_ble_eq_true rfl) (Nat.le_of_ble_eq_true rfl) (sp_X7_within _ _ _) ?_
            refine zk_ireturn (pc := 86) dX5_fits_86 (Or.inr ⟨rfl, by first | exact Or.inl rfl | exact Or.inr rfl | exact zb_01⟩) (zk_ri ?_)
            unfold fitB
            rw [if_neg (by omega), if_neg h9, if_neg h26, if_neg h40, if_neg h56]
            exact zb_c (by simp)
          · rw [zb_n] at h56
            refine zk_iload_n (pc := 59) 0 dX5_fits_59 rfl rfl ?_
            refine zk_callSI (pc := 60) dX5_fits_60 mtX2_byLetter lkX5_40 stX2_byLetter [_] _ rfl rfl (Nat.le_of_ble_eq_true rfl) (Nat.le_of_ble_eq_true rfl) (sp_X2_byLetter _) ?_
            refine zk_bipush (pc := 63) (v := -9) dX5_fits_63 (by decide) ?_
            refine zk_icmp_eq (pc := 65) 72 dX5_fits_65 (by decide) (fun h65 => ?_) (fun h65 => ?_)
            · skip
              refine zk_iconst (pc := 72) (v := 0) dX5_fits_72 (by decide) ?_
              refine zk_ireturn (pc := 73) dX5_fits_73 (Or.inr ⟨rfl, by first | exact Or.inl rfl | exact Or.inr rfl | exact zb_01⟩) (zk_ri ?_)
              unfold fitB
              rw [if_neg (by omega), if_neg h9, if_neg h26, if_neg h40, if_pos h56]
              first | rw [zb_t (by simpa using h65)] | rw [zb_f (by simpa using h65)]
            · skip
              refine zk_iconst (pc := 68) (v := 1) dX5_fits_68 (by decide) ?_
              refine zk_goto (pc := 69) 73 dX5_fits_69 (by decide) ?_
              refine zk_ireturn (pc := 73) dX5_fits_73 (Or.inr ⟨rfl, by first | exact Or.inl rfl | exact Or.inr rfl | exact zb_01⟩) (zk_ri ?_)
              unfold fitB
              rw [if_neg (by omega), if_neg h9, if_neg h26, if_neg h40, if_pos h56]
              first | rw [zb_t (by simpa using h65)] | rw [zb_f (by simpa using h65)]
        · rw [show (2 : Int32) = nI 2 from rfl, nIeq (by omega) (by omega)] at h40
          refine zk_iload_n (pc := 43) 0 dX5_fits_43 rfl rfl ?_
          refine zk_bipush (pc := 44) (v := 51) dX5_fits_44 (by decide) ?_
          refine zk_bipush (pc := 46) (v := 56) dX5_fits_46 (by decide) ?_
          refine zk_callSNI (pc := 48) dX5_fits_48 mtX7_within lkX5_52 stX7_within [_, _, _] _ rfl rfl (Nat.le_of_ble_eq_true rfl) (Nat.le_of_ble_eq_true rfl) (sp_X7_within _ _ _) ?_
          refine zk_ireturn (pc := 51) dX5_fits_51 (Or.inr ⟨rfl, by first | exact Or.inl rfl | exact Or.inr rfl | exact zb_01⟩) (zk_ri ?_)
          unfold fitB
          rw [if_neg (by omega), if_neg h9, if_neg h26, if_pos h40]
          exact zb_c (by simp)
      · rw [show (1 : Int32) = nI 1 from rfl, nIeq (by omega) (by omega)] at h26
        refine zk_iload_n (pc := 29) 0 dX5_fits_29 rfl rfl ?_
        refine zk_bipush (pc := 30) (v := 48) dX5_fits_30 (by decide) ?_
        refine zk_bipush (pc := 32) (v := 57) dX5_fits_32 (by decide) ?_
        refine zk_callSNI (pc := 34) dX5_fits_34 mtX7_within lkX5_52 stX7_within [_, _, _] _ rfl rfl (Nat.le_of_ble_eq_true rfl) (Nat.le_of_ble_eq_true rfl) (sp_X7_within _ _ _) ?_
        refine zk_ireturn (pc := 37) dX5_fits_37 (Or.inr ⟨rfl, by first | exact Or.inl rfl | exact Or.inr rfl | exact zb_01⟩) (zk_ri ?_)
        unfold fitB
        rw [if_neg (by omega), if_neg h9, if_pos h26]
        exact zb_c (by simp)
    · rw [show (0 : Int32) = nI 0 from rfl, nIeq (by omega) (by omega)] at h9
      refine zk_iload_n (pc := 12) 0 dX5_fits_12 rfl rfl ?_
      refine zk_bipush (pc := 13) (v := 112) dX5_fits_13 (by decide) ?_
      refine zk_icmp_ne (pc := 15) 22 dX5_fits_15 (by decide) (fun h15 => ?_) (fun h15 => ?_)
      · skip
        refine zk_iconst (pc := 22) (v := 0) dX5_fits_22 (by decide) ?_
        refine zk_ireturn (pc := 23) dX5_fits_23 (Or.inr ⟨rfl, by first | exact Or.inl rfl | exact Or.inr rfl | exact zb_01⟩) (zk_ri ?_)
        unfold fitB
        rw [if_neg (by omega), if_pos h9]
        first | rw [zb_t (by simpa using h15)] | rw [zb_f (by simpa using h15)]
      · skip
        refine zk_iconst (pc := 18) (v := 1) dX5_fits_18 (by decide) ?_
        refine zk_goto (pc := 19) 23 dX5_fits_19 (by decide) ?_
        refine zk_ireturn (pc := 23) dX5_fits_23 (Or.inr ⟨rfl, by first | exact Or.inl rfl | exact Or.inr rfl | exact zb_01⟩) (zk_ri ?_)
        unfold fitB
        rw [if_neg (by omega), if_pos h9]
        first | rw [zb_t (by simpa using h15)] | rw [zb_f (by simpa using h15)]
  · rw [show (15 : Int32) = nI 15 from rfl, nIlt (by omega) (by omega)] at h3
    refine zk_iconst (pc := 6) (v := 0) dX5_fits_6 (by decide) ?_
    refine zk_ireturn (pc := 7) dX5_fits_7 (Or.inr ⟨rfl, by first | exact Or.inl rfl | exact Or.inr rfl | exact zb_01⟩) (zk_ri ?_)
    unfold fitB
    rw [if_pos (by omega), zb_f (by decide)]
/-- the fault of the text f of n bytes; m left, at i, at sign s -/
def fltR (f : Nat → Int32) (n : Nat) : Nat → Nat → Nat → Int32 → Int32
  | 0, _, s, _ => if 3 < s ∧ btw s = true then -9 else nI n
  | m + 1, i, s, cells => if f i = 32 ∧ btw s = true then fltR f n m (i + 1) s cells else if fitB (f i) cells s = true then fltR f n m (i + 1) (s + 1) (if s = 2 then f i - 48 else cells) else nI i
theorem fltR_s (f : Nat → Int32) (n m i s : Nat) (cells : Int32) : fltR f n (m + 1) i s cells = if f i = 32 ∧ btw s = true then fltR f n m (i + 1) s cells else if fitB (f i) cells s = true then fltR f n m (i + 1) (s + 1) (if s = 2 then f i - 48 else cells) else nI i := rfl
theorem sp_X5_faultOf {c p n j : Nat} (hr : zRow c p n) (hs : mu c 1 = nI j) (hj : j ≤ n) (hj2 : j < 900) : zk_M (d + 2) RX5 cX5_faultOf 5 (some .int) none 0 (zk_loc [.ref c] 5) [] mu lm (zk_R (some (.int (fltR (mu p) j j 0 0 0))) mu lm) := by
  have loop : ∀ m i s (cells : Int32) (b : Value), i + m = j → s ≤ i → zk_M (d + 2) RX5 cX5_faultOf 5 (some .int) none 6 [.ref c, .int (nI s), .int cells, .int (nI i), b] [] mu lm (zk_R (some (.int (fltR (mu p) j m i s cells))) mu lm) := by
    intro m
    induction m with
    | zero =>
      intro i s cells b hi hsi
      refine zk_iload_n (pc := 6) 3 dX5_faultOf_6 rfl rfl ?_
      refine zk_aload_n (pc := 7) 0 dX5_faultOf_7 rfl rfl ?_
      refine zk_getI (pc := 8) dX5_faultOf_8 flX5_11 hr.1 rfl ?_
      refine zk_icmp_ge (pc := 11) 70 dX5_faultOf_11 (by decide) (fun h11 => ?_) (fun h11 => ?_)
      · rw [hs, nIle (by omega) (by omega)] at h11
        refine zk_iload_n (pc := 70) 1 dX5_faultOf_70 rfl rfl ?_
        refine zk_iconst (pc := 71) (v := 3) dX5_faultOf_71 (by decide) ?_
        refine zk_icmp_le (pc := 72) 86 dX5_faultOf_72 (by decide) (fun h72 => ?_) (fun h72 => ?_)
        · rw [show (3 : Int32) = nI 3 from rfl, nIle (by omega) (by omega)] at h72
          have h72 : ¬ 3 < s := by omega
          refine zk_iconst (pc := 86) (v := 0) dX5_faultOf_86 (by decide) ?_
          refine zs_istore_n (pc := 87) (ls' := [_, _, _, _, _]) 3 dX5_faultOf_87 rfl (by decide) rfl ?_
          refine zk_iload_n (pc := 88) 3 dX5_faultOf_88 rfl rfl ?_
          refine zk_if_eq (pc := 89) 97 dX5_faultOf_89 (by decide) (fun h89 => ?_) (fun h89 => ?_)
          · skip
            refine zk_aload_n (pc := 97) 0 dX5_faultOf_97 rfl rfl ?_
            refine zk_getI (pc := 98) dX5_faultOf_98 flX5_11 hr.1 rfl ?_
            first
              | exact absurd h89 (by decide)
              | exact absurd rfl h89
              | (refine zk_ireturn (pc := 101) dX5_faultOf_101 (Or.inl rfl) (zk_ri ?_)
                 unfold fltR
                 first
                   | (rw [if_pos ⟨h72, h79⟩]; done)
                   | (rw [if_neg (fun q => h72 q.1)]; exact hs)
                   | (rw [if_neg (fun q => h79 q.2)]; exact hs))
          · skip
            refine zk_bipush (pc := 92) (v := -9) dX5_faultOf_92 (by decide) ?_
            refine zk_goto (pc := 94) 101 dX5_faultOf_94 (by decide) ?_
            first
              | exact absurd h89 (by decide)
              | exact absurd rfl h89
              | (refine zk_ireturn (pc := 101) dX5_faultOf_101 (Or.inl rfl) (zk_ri ?_)
                 unfold fltR
                 first
                   | (rw [if_pos ⟨h72, h79⟩]; done)
                   | (rw [if_neg (fun q => h72 q.1)]; exact hs)
                   | (rw [if_neg (fun q => h79 q.2)]; exact hs))
        · rw [show (3 : Int32) = nI 3 from rfl, nIle (by omega) (by omega)] at h72
          have h72 : 3 < s := by omega
          refine zk_iload_n (pc := 75) 1 dX5_faultOf_75 rfl rfl ?_
          refine zk_callSI (pc := 76) dX5_faultOf_76 mtX5_isBetweenItems lkX5_21 stX5_isBetweenItems [_] _ rfl rfl (Nat.le_of_ble_eq_true rfl) (Nat.le_of_ble_eq_true rfl) (sp_X5_isBetweenItems (by omega)) ?_
          refine zk_if_eq (pc := 79) 86 dX5_faultOf_79 (by decide) (fun h79 => ?_) (fun h79 => ?_)
          · rw [zb_e] at h79
            refine zk_iconst (pc := 86) (v := 0) dX5_faultOf_86 (by decide) ?_
            refine zs_istore_n (pc := 87) (ls' := [_, _, _, _, _]) 3 dX5_faultOf_87 rfl (by decide) rfl ?_
            refine zk_iload_n (pc := 88) 3 dX5_faultOf_88 rfl rfl ?_
            refine zk_if_eq (pc := 89) 97 dX5_faultOf_89 (by decide) (fun h89 => ?_) (fun h89 => ?_)
            · skip
              refine zk_aload_n (pc := 97) 0 dX5_faultOf_97 rfl rfl ?_
              refine zk_getI (pc := 98) dX5_faultOf_98 flX5_11 hr.1 rfl ?_
              first
                | exact absurd h89 (by decide)
                | exact absurd rfl h89
                | (refine zk_ireturn (pc := 101) dX5_faultOf_101 (Or.inl rfl) (zk_ri ?_)
                   unfold fltR
                   first
                     | (rw [if_pos ⟨h72, h79⟩]; done)
                     | (rw [if_neg (fun q => h72 q.1)]; exact hs)
                     | (rw [if_neg (fun q => h79 q.2)]; exact hs))
            · skip
              refine zk_bipush (pc := 92) (v := -9) dX5_faultOf_92 (by decide) ?_
              refine zk_goto (pc := 94) 101 dX5_faultOf_94 (by decide) ?_
              first
                | exact absurd h89 (by decide)
                | exact absurd rfl h89
                | (refine zk_ireturn (pc := 101) dX5_faultOf_101 (Or.inl rfl) (zk_ri ?_)
                   unfold fltR
                   first
                     | (rw [if_pos ⟨h72, h79⟩]; done)
                     | (rw [if_neg (fun q => h72 q.1)]; exact hs)
                     | (rw [if_neg (fun q => h79 q.2)]; exact hs))
          · rw [zb_n] at h79
            refine zk_iconst (pc := 82) (v := 1) dX5_faultOf_82 (by decide) ?_
            refine zk_goto (pc := 83) 87 dX5_faultOf_83 (by decide) ?_
            refine zs_istore_n (pc := 87) (ls' := [_, _, _, _, _]) 3 dX5_faultOf_87 rfl (by decide) rfl ?_
            refine zk_iload_n (pc := 88) 3 dX5_faultOf_88 rfl rfl ?_
            refine zk_if_eq (pc := 89) 97 dX5_faultOf_89 (by decide) (fun h89 => ?_) (fun h89 => ?_)
            · skip
              refine zk_aload_n (pc := 97) 0 dX5_faultOf_97 rfl rfl ?_
              refine zk_getI (pc := 98) dX5_faultOf_98 flX5_11 hr.1 rfl ?_
              first
                | exact absurd h89 (by decide)
                | exact absurd rfl h89
                | (refine zk_ireturn (pc := 101) dX5_faultOf_101 (Or.inl rfl) (zk_ri ?_)
                   unfold fltR
                   first
                     | (rw [if_pos ⟨h72, h79⟩]; done)
                     | (rw [if_neg (fun q => h72 q.1)]; exact hs)
                     | (rw [if_neg (fun q => h79 q.2)]; exact hs))
            · skip
              refine zk_bipush (pc := 92) (v := -9) dX5_faultOf_92 (by decide) ?_
              refine zk_goto (pc := 94) 101 dX5_faultOf_94 (by decide) ?_
              first
                | exact absurd h89 (by decide)
                | exact absurd rfl h89
                | (refine zk_ireturn (pc := 101) dX5_faultOf_101 (Or.inl rfl) (zk_ri ?_)
                   unfold fltR
                   first
                     | (rw [if_pos ⟨h72, h79⟩]; done)
                     | (rw [if_neg (fun q => h72 q.1)]; exact hs)
                     | (rw [if_neg (fun q => h79 q.2)]; exact hs))
      · rw [hs, nIle (by omega) (by omega)] at h11
        omega --
    | succ m ih =>
      intro i s cells b hi hsi
      refine zk_iload_n (pc := 6) 3 dX5_faultOf_6 rfl rfl ?_
      refine zk_aload_n (pc := 7) 0 dX5_faultOf_7 rfl rfl ?_
      refine zk_getI (pc := 8) dX5_faultOf_8 flX5_11 hr.1 rfl ?_
      refine zk_icmp_ge (pc := 11) 70 dX5_faultOf_11 (by decide) (fun h11 => ?_) (fun h11 => ?_)
      · rw [hs, nIle (by omega) (by omega)] at h11
        omega --
      · rw [hs, nIle (by omega) (by omega)] at h11
        refine zk_aload_n (pc := 14) 0 dX5_faultOf_14 rfl rfl ?_
        refine zk_iload_n (pc := 15) 3 dX5_faultOf_15 rfl rfl ?_
        refine zk_callVI (pc := 16) dX5_faultOf_16 mtX4_read lkX5_17 stX4_read hr.1 (by rfl) [_] _ rfl rfl (Nat.le_of_ble_eq_true rfl) (Nat.le_of_ble_eq_true rfl) (sp_read hr hs hj (by omega)) ?_
        refine zs_istore (pc := 19) (ls' := [_, _, _, _, _]) 4 dX5_faultOf_19 (by decide) rfl ?_
        refine zk_iload (pc := 21) dX5_faultOf_21 rfl ?_
        refine zk_bipush (pc := 23) (v := 32) dX5_faultOf_23 (by decide) ?_
        refine zk_icmp_ne (pc := 25) 38 dX5_faultOf_25 (by decide) (fun h25 => ?_) (fun h25 => ?_)
        · skip
          refine zk_iload (pc := 38) dX5_faultOf_38 rfl ?_
          refine zk_iload_n (pc := 40) 1 dX5_faultOf_40 rfl rfl ?_
          refine zk_iload_n (pc := 41) 2 dX5_faultOf_41 rfl rfl ?_
          refine zk_callSI (pc := 42) dX5_faultOf_42 mtX5_fits lkX5_25 stX5_fits [_, _, _] _ rfl rfl (Nat.le_of_ble_eq_true rfl) (Nat.le_of_ble_eq_true rfl) (sp_X5_fits (by omega) _ _) ?_
          refine zk_if_ne (pc := 45) 50 dX5_faultOf_45 (by decide) (fun h45 => ?_) (fun h45 => ?_)
          · rw [zb_n] at h45
            refine zk_iload_n (pc := 50) 1 dX5_faultOf_50 rfl rfl ?_
            refine zk_iconst (pc := 51) (v := 2) dX5_faultOf_51 (by decide) ?_
            refine zk_icmp_ne (pc := 52) 61 dX5_faultOf_52 (by decide) (fun h52 => ?_) (fun h52 => ?_)
            · rw [show (2 : Int32) = nI 2 from rfl, nIeq (by omega) (by omega)] at h52
              refine zs_iinc (pc := 61) (ls' := [_, _, _, _, _]) dX5_faultOf_61 rfl (nI_1 s) (by decide) rfl ?_
              refine zs_iinc (pc := 64) (ls' := [_, _, _, _, _]) dX5_faultOf_64 rfl (nI_1 i) (by decide) rfl ?_
              refine zk_goto (pc := 67) 6 dX5_faultOf_67 (by decide) ?_
              rw [fltR_s]
              first
                | (rw [if_pos ⟨h25, h32⟩]; exact ih _ _ _ _ (by omega) (by omega))
                | (rw [if_neg (fun q => h25 q.1), if_pos h45, if_neg h52]; exact ih _ _ _ _ (by omega) (by omega))
                | (rw [if_neg (fun q => h32 q.2), if_pos h45, if_neg h52]; exact ih _ _ _ _ (by omega) (by omega))
                | (rw [if_neg (fun q => h25 q.1), if_pos h45, if_pos h52]; exact ih _ _ _ _ (by omega) (by omega))
                | (rw [if_neg (fun q => h32 q.2), if_pos h45, if_pos h52]; exact ih _ _ _ _ (by omega) (by omega))
            · rw [show (2 : Int32) = nI 2 from rfl, nIeq (by omega) (by omega)] at h52
              refine zk_iload (pc := 55) dX5_faultOf_55 rfl ?_
              refine zk_bipush (pc := 57) (v := 48) dX5_faultOf_57 (by decide) ?_
              refine zk_isub (pc := 59) dX5_faultOf_59 ?_
              refine zs_istore_n (pc := 60) (ls' := [_, _, _, _, _]) 2 dX5_faultOf_60 rfl (by decide) rfl ?_
              refine zs_iinc (pc := 61) (ls' := [_, _, _, _, _]) dX5_faultOf_61 rfl (nI_1 s) (by decide) rfl ?_
              refine zs_iinc (pc := 64) (ls' := [_, _, _, _, _]) dX5_faultOf_64 rfl (nI_1 i) (by decide) rfl ?_
              refine zk_goto (pc := 67) 6 dX5_faultOf_67 (by decide) ?_
              rw [fltR_s]
              first
                | (rw [if_pos ⟨h25, h32⟩]; exact ih _ _ _ _ (by omega) (by omega))
                | (rw [if_neg (fun q => h25 q.1), if_pos h45, if_neg h52]; exact ih _ _ _ _ (by omega) (by omega))
                | (rw [if_neg (fun q => h32 q.2), if_pos h45, if_neg h52]; exact ih _ _ _ _ (by omega) (by omega))
                | (rw [if_neg (fun q => h25 q.1), if_pos h45, if_pos h52]; exact ih _ _ _ _ (by omega) (by omega))
                | (rw [if_neg (fun q => h32 q.2), if_pos h45, if_pos h52]; exact ih _ _ _ _ (by omega) (by omega))
          · rw [zb_e] at h45
            refine zk_iload_n (pc := 48) 3 dX5_faultOf_48 rfl rfl ?_
            refine zk_ireturn (pc := 49) dX5_faultOf_49 (Or.inl rfl) (zk_ri ?_)
            rw [fltR_s]
            first
              | rw [if_neg (fun q => h25 q.1), if_neg h45]
              | rw [if_neg (fun q => h32 q.2), if_neg h45]
        · skip
          refine zk_iload_n (pc := 28) 1 dX5_faultOf_28 rfl rfl ?_
          refine zk_callSI (pc := 29) dX5_faultOf_29 mtX5_isBetweenItems lkX5_21 stX5_isBetweenItems [_] _ rfl rfl (Nat.le_of_ble_eq_true rfl) (Nat.le_of_ble_eq_true rfl) (sp_X5_isBetweenItems (by omega)) ?_
          refine zk_if_eq (pc := 32) 38 dX5_faultOf_32 (by decide) (fun h32 => ?_) (fun h32 => ?_)
          · rw [zb_e] at h32
            refine zk_iload (pc := 38) dX5_faultOf_38 rfl ?_
            refine zk_iload_n (pc := 40) 1 dX5_faultOf_40 rfl rfl ?_
            refine zk_iload_n (pc := 41) 2 dX5_faultOf_41 rfl rfl ?_
            refine zk_callSI (pc := 42) dX5_faultOf_42 mtX5_fits lkX5_25 stX5_fits [_, _, _] _ rfl rfl (Nat.le_of_ble_eq_true rfl) (Nat.le_of_ble_eq_true rfl) (sp_X5_fits (by omega) _ _) ?_
            refine zk_if_ne (pc := 45) 50 dX5_faultOf_45 (by decide) (fun h45 => ?_) (fun h45 => ?_)
            · rw [zb_n] at h45
              refine zk_iload_n (pc := 50) 1 dX5_faultOf_50 rfl rfl ?_
              refine zk_iconst (pc := 51) (v := 2) dX5_faultOf_51 (by decide) ?_
              refine zk_icmp_ne (pc := 52) 61 dX5_faultOf_52 (by decide) (fun h52 => ?_) (fun h52 => ?_)
              · rw [show (2 : Int32) = nI 2 from rfl, nIeq (by omega) (by omega)] at h52
                refine zs_iinc (pc := 61) (ls' := [_, _, _, _, _]) dX5_faultOf_61 rfl (nI_1 s) (by decide) rfl ?_
                refine zs_iinc (pc := 64) (ls' := [_, _, _, _, _]) dX5_faultOf_64 rfl (nI_1 i) (by decide) rfl ?_
                refine zk_goto (pc := 67) 6 dX5_faultOf_67 (by decide) ?_
                rw [fltR_s]
                first
                  | (rw [if_pos ⟨h25, h32⟩]; exact ih _ _ _ _ (by omega) (by omega))
                  | (rw [if_neg (fun q => h25 q.1), if_pos h45, if_neg h52]; exact ih _ _ _ _ (by omega) (by omega))
                  | (rw [if_neg (fun q => h32 q.2), if_pos h45, if_neg h52]; exact ih _ _ _ _ (by omega) (by omega))
                  | (rw [if_neg (fun q => h25 q.1), if_pos h45, if_pos h52]; exact ih _ _ _ _ (by omega) (by omega))
                  | (rw [if_neg (fun q => h32 q.2), if_pos h45, if_pos h52]; exact ih _ _ _ _ (by omega) (by omega))
              · rw [show (2 : Int32) = nI 2 from rfl, nIeq (by omega) (by omega)] at h52
                refine zk_iload (pc := 55) dX5_faultOf_55 rfl ?_
                refine zk_bipush (pc := 57) (v := 48) dX5_faultOf_57 (by decide) ?_
                refine zk_isub (pc := 59) dX5_faultOf_59 ?_
                refine zs_istore_n (pc := 60) (ls' := [_, _, _, _, _]) 2 dX5_faultOf_60 rfl (by decide) rfl ?_
                refine zs_iinc (pc := 61) (ls' := [_, _, _, _, _]) dX5_faultOf_61 rfl (nI_1 s) (by decide) rfl ?_
                refine zs_iinc (pc := 64) (ls' := [_, _, _, _, _]) dX5_faultOf_64 rfl (nI_1 i) (by decide) rfl ?_
                refine zk_goto (pc := 67) 6 dX5_faultOf_67 (by decide) ?_
                rw [fltR_s]
                first
                  | (rw [if_pos ⟨h25, h32⟩]; exact ih _ _ _ _ (by omega) (by omega))
                  | (rw [if_neg (fun q => h25 q.1), if_pos h45, if_neg h52]; exact ih _ _ _ _ (by omega) (by omega))
                  | (rw [if_neg (fun q => h32 q.2), if_pos h45, if_neg h52]; exact ih _ _ _ _ (by omega) (by omega))
                  | (rw [if_neg (fun q => h25 q.1), if_pos h45, if_pos h52]; exact ih _ _ _ _ (by omega) (by omega))
                  | (rw [if_neg (fun q => h32 q.2), if_pos h45, if_pos h52]; exact ih _ _ _ _ (by omega) (by omega))
            · rw [zb_e] at h45
              refine zk_iload_n (pc := 48) 3 dX5_faultOf_48 rfl rfl ?_
              refine zk_ireturn (pc := 49) dX5_faultOf_49 (Or.inl rfl) (zk_ri ?_)
              rw [fltR_s]
              first
                | rw [if_neg (fun q => h25 q.1), if_neg h45]
                | rw [if_neg (fun q => h32 q.2), if_neg h45]
          · rw [zb_n] at h32
            refine zk_goto (pc := 35) 64 dX5_faultOf_35 (by decide) ?_
            refine zs_iinc (pc := 64) (ls' := [_, _, _, _, _]) dX5_faultOf_64 rfl (nI_1 i) (by decide) rfl ?_
            refine zk_goto (pc := 67) 6 dX5_faultOf_67 (by decide) ?_
            rw [fltR_s]
            first
              | (rw [if_pos ⟨h25, h32⟩]; exact ih _ _ _ _ (by omega) (by omega))
              | (rw [if_neg (fun q => h25 q.1), if_pos h45, if_neg h52]; exact ih _ _ _ _ (by omega) (by omega))
              | (rw [if_neg (fun q => h32 q.2), if_pos h45, if_neg h52]; exact ih _ _ _ _ (by omega) (by omega))
              | (rw [if_neg (fun q => h25 q.1), if_pos h45, if_pos h52]; exact ih _ _ _ _ (by omega) (by omega))
              | (rw [if_neg (fun q => h32 q.2), if_pos h45, if_pos h52]; exact ih _ _ _ _ (by omega) (by omega))
  refine zk_iconst (pc := 0) (v := 0) dX5_faultOf_0 (by decide) ?_
  refine zs_istore_n (pc := 1) (ls' := [_, _, _, _, _]) 1 dX5_faultOf_1 rfl (by decide) rfl ?_
  refine zk_iconst (pc := 2) (v := 0) dX5_faultOf_2 (by decide) ?_
  refine zs_istore_n (pc := 3) (ls' := [_, _, _, _, _]) 2 dX5_faultOf_3 rfl (by decide) rfl ?_
  refine zk_iconst (pc := 4) (v := 0) dX5_faultOf_4 (by decide) ?_
  refine zs_istore_n (pc := 5) (ls' := [_, _, _, _, _]) 3 dX5_faultOf_5 rfl (by decide) rfl ?_
  exact loop j 0 0 0 _ (by omega) (by omega)
def joinM (mu : Mem) (k : Int32) : Mem := if (mu 23 6).toNatClampNeg < 6 then zk_up (zk_up mu 24 (mu 23 6).toNatClampNeg k) 23 6 (nI ((mu 23 6).toNatClampNeg + 1)) else mu
def seatM (mu : Mem) (c : Int32) : Mem := if 0 < (mu 23 6).toNatClampNeg ∧ 0 ≤ c ∧ c < mu 23 5 then zk_up mu 25 ((mu 23 6).toNatClampNeg - 1) c else mu
def stpM (mu : Mem) (s : Nat) (r : Int32) : Mem := if s = 1 then zk_up mu 23 4 (r - 48) else if s = 2 then zk_up mu 23 5 (r - 48) else if 3 ≤ s ∧ btw s = true then joinM mu (kLet r) else if 3 < s then seatM mu (r - 48) else mu
def setR (f : Nat → Int32) : Nat → Nat → Nat → Mem → Mem
  | 0, _, _, mu => mu
  | m + 1, i, s, mu => if f i = 32 then setR f m (i + 1) s mu else setR f m (i + 1) (s + 1) (stpM mu s (f i))
theorem setR_s (f : Nat → Int32) (m i s : Nat) (mu : Mem) : setR f (m + 1) i s mu = if f i = 32 then setR f m (i + 1) s mu else setR f m (i + 1) (s + 1) (stpM mu s (f i)) := rfl
def okM (mu : Mem) : Prop := ∃ M, M ≤ 6 ∧ mu 23 6 = nI M
theorem joinM_ok {mu : Mem} (h : okM mu) (k : Int32) : okM (joinM mu k) := by
  obtain ⟨M, h1, h2⟩ := h
  unfold joinM
  rw [h2, nI_clamp (by omega)]
  by_cases q : M < 6
  · rw [if_pos q]; exact ⟨M + 1, by omega, by rw [zup_s]⟩
  · rw [if_neg q]; exact ⟨M, h1, h2⟩
theorem seatM_ok {mu : Mem} (h : okM mu) (k : Int32) : okM (seatM mu k) := by
  obtain ⟨M, h1, h2⟩ := h
  unfold seatM
  split
  · exact ⟨M, h1, by rw [zup_c _ _ _ (by decide)]; exact h2⟩
  · exact ⟨M, h1, h2⟩
theorem joinM_c {mu : Mem} {c k : Nat} (x : Int32) (h : c ≠ 23) (h2 : c ≠ 24) : joinM mu x c k = mu c k := by
  unfold joinM
  split
  · rw [zup_c _ _ _ h, zup_c _ _ _ h2]
  · rfl
theorem seatM_c {mu : Mem} {c k : Nat} (x : Int32) (h : c ≠ 25) : seatM mu x c k = mu c k := by
  unfold seatM
  split
  · rw [zup_c _ _ _ h]
  · rfl
theorem stpM_c {mu : Mem} {c k : Nat} (s : Nat) (x : Int32) (h : c ≠ 23) (h2 : c ≠ 24) (h3 : c ≠ 25) : stpM mu s x c k = mu c k := by
  unfold stpM
  split
  · rw [zup_c _ _ _ h]
  · split
    · rw [zup_c _ _ _ h]
    · split
      · exact joinM_c _ h h2
      · split
        · exact seatM_c _ h3
        · rfl
theorem stpM_ok {mu : Mem} (h : okM mu) (s : Nat) (x : Int32) : okM (stpM mu s x) := by
  obtain ⟨M, h1, h2⟩ := id h
  unfold stpM
  split
  · exact ⟨M, h1, by rw [zup_k _ _ _ (by decide)]; exact h2⟩
  · split
    · exact ⟨M, h1, by rw [zup_k _ _ _ (by decide)]; exact h2⟩
    · split
      · exact joinM_ok h _
      · split
        · exact seatM_ok h _
        · exact h
theorem sp_join2 (h : okM mu) (k : Int32) : zk_M d RX0 cX0_join 2 (none) none 0 (zk_loc [.ref 23, .int k] 2) [] mu lm (zk_R none (joinM mu k) lm) := by
  obtain ⟨M, h1, h2⟩ := h
  have e := sp_X0_join (d := d) (mu := mu) (lm := lm) h2 h1 k
  unfold joinM
  rw [h2, nI_clamp (by omega)]
  exact e
theorem sp_seat2 (h : okM mu) (k : Int32) : zk_M (d + 1) RX0 cX0_seat 2 (none) none 0 (zk_loc [.ref 23, .int k] 2) [] mu lm (zk_R none (seatM mu k) lm) := by
  obtain ⟨M, h1, h2⟩ := h
  have e := sp_X0_seat (d := d) (mu := mu) (lm := lm) h2 h1 k
  unfold seatM
  rw [h2, nI_clamp (by omega)]
  exact e
theorem sp_X5_settle {c p n j : Nat} (hr : zRow c p n) (hs : mu c 1 = nI j) (hj : j ≤ n) (hj2 : j < 900) (hc : c ≠ 23 ∧ c ≠ 24 ∧ c ≠ 25) (hp : p ≠ 23 ∧ p ≠ 24 ∧ p ≠ 25) : zk_M (d + 2) RX5 cX5_settle 5 (none) none 0 (zk_loc [.ref c, .ref 23] 5) [] mu lm (zk_R none (setR (mu p) j 0 0 (zk_up mu 23 6 0)) lm) := by
  have loop : ∀ (f : Nat → Int32) m i s (nu : Mem) (b : Value), i + m = j → s ≤ i → nu c 1 = nI j → nu p = f → okM nu → zk_M (d + 2) RX5 cX5_settle 5 (none) none 9 [.ref c, .ref 23, .int (nI s), .int (nI i), b] [] nu lm (zk_R none (setR f m i s nu) lm) := by
    intro f m
    induction m with
    | zero =>
      intro i s nu b hi hsi hs hf hM
      refine zk_iload_n (pc := 9) 3 dX5_settle_9 rfl rfl ?_
      refine zk_aload_n (pc := 10) 0 dX5_settle_10 rfl rfl ?_
      refine zk_getI (pc := 11) dX5_settle_11 flX5_11 hr.1 rfl ?_
      refine zk_icmp_ge (pc := 14) 115 dX5_settle_14 (by decide) (fun h14 => ?_) (fun h14 => ?_)
      · rw [hs, nIle (by omega) (by omega)] at h14
        exact zk_return (pc := 115) dX5_settle_115 rfl (zk_rv0 rfl rfl)
      · rw [hs, nIle (by omega) (by omega)] at h14
        omega --
    | succ m ih =>
      intro i s nu b hi hsi hs hf hM
      refine zk_iload_n (pc := 9) 3 dX5_settle_9 rfl rfl ?_
      refine zk_aload_n (pc := 10) 0 dX5_settle_10 rfl rfl ?_
      refine zk_getI (pc := 11) dX5_settle_11 flX5_11 hr.1 rfl ?_
      refine zk_icmp_ge (pc := 14) 115 dX5_settle_14 (by decide) (fun h14 => ?_) (fun h14 => ?_)
      · rw [hs, nIle (by omega) (by omega)] at h14
        omega --
      · rw [hs, nIle (by omega) (by omega)] at h14
        refine zk_aload_n (pc := 17) 0 dX5_settle_17 rfl rfl ?_
        refine zk_iload_n (pc := 18) 3 dX5_settle_18 rfl rfl ?_
        refine zk_callVI (pc := 19) dX5_settle_19 mtX4_read lkX5_17 stX4_read hr.1 (by rfl) [_] _ rfl rfl (Nat.le_of_ble_eq_true rfl) (Nat.le_of_ble_eq_true rfl) (sp_read hr hs hj (by omega)) ?_
        refine zs_istore (pc := 22) (ls' := [_, _, _, _, _]) 4 dX5_settle_22 (by decide) rfl ?_
        refine zk_iload (pc := 24) dX5_settle_24 rfl ?_
        refine zk_bipush (pc := 26) (v := 32) dX5_settle_26 (by decide) ?_
        refine zk_icmp_ne (pc := 28) 34 dX5_settle_28 (by decide) (fun h28 => ?_) (fun h28 => ?_)
        · skip
          refine zk_iload_n (pc := 34) 2 dX5_settle_34 rfl rfl ?_
          refine zk_iconst (pc := 35) (v := 1) dX5_settle_35 (by decide) ?_
          refine zk_icmp_ne (pc := 36) 51 dX5_settle_36 (by decide) (fun h36 => ?_) (fun h36 => ?_)
          · rw [show (1 : Int32) = nI 1 from rfl, nIeq (by omega) (by omega)] at h36
            refine zk_iload_n (pc := 51) 2 dX5_settle_51 rfl rfl ?_
            refine zk_iconst (pc := 52) (v := 2) dX5_settle_52 (by decide) ?_
            refine zk_icmp_ne (pc := 53) 68 dX5_settle_53 (by decide) (fun h53 => ?_) (fun h53 => ?_)
            · rw [show (2 : Int32) = nI 2 from rfl, nIeq (by omega) (by omega)] at h53
              refine zk_iload_n (pc := 68) 2 dX5_settle_68 rfl rfl ?_
              refine zk_iconst (pc := 69) (v := 3) dX5_settle_69 (by decide) ?_
              refine zk_icmp_lt (pc := 70) 92 dX5_settle_70 (by decide) (fun h70 => ?_) (fun h70 => ?_)
              · rw [show (3 : Int32) = nI 3 from rfl, nIlt (by omega) (by omega)] at h70
                refine zk_iload_n (pc := 92) 2 dX5_settle_92 rfl rfl ?_
                refine zk_iconst (pc := 93) (v := 3) dX5_settle_93 (by decide) ?_
                refine zk_icmp_le (pc := 94) 106 dX5_settle_94 (by decide) (fun h94 => ?_) (fun h94 => ?_)
                · rw [show (3 : Int32) = nI 3 from rfl, nIle (by omega) (by omega)] at h94
                  refine zs_iinc (pc := 106) (ls' := [_, _, _, _, _]) dX5_settle_106 rfl (nI_1 s) (by decide) rfl ?_
                  refine zs_iinc (pc := 109) (ls' := [_, _, _, _, _]) dX5_settle_109 rfl (nI_1 i) (by decide) rfl ?_
                  refine zk_goto (pc := 112) 9 dX5_settle_112 (by decide) ?_
                  first
                    | (rw [setR_s, if_pos (by rw [← hf]; exact h28)]; exact ih _ _ _ _ (by omega) (by omega) hs hf hM)
                    | (have hst : ∀ q, q ≠ 23 → q ≠ 24 → q ≠ 25 → stpM nu s (f i) q = nu q := fun q a1 a2 a3 => by funext z; exact stpM_c _ _ a1 a2 a3
                       have key := ih (i + 1) (s + 1) (stpM nu s (f i)) (.int (nu p i)) (by omega) (by omega) (by rw [hst c hc.1 hc.2.1 hc.2.2]; exact hs) (by rw [hst p hp.1 hp.2.1 hp.2.2]; exact hf) (stpM_ok hM _ _)
                       rw [setR_s, if_neg (by rw [← hf]; exact h28)]
                       subst hf
                       first
                         | (have es : stpM nu s (nu p i) = zk_up nu 23 4 (nu p i - 48) := if_pos h36
                            rw [es] at key ⊢; exact key)
                         | (have es : stpM nu s (nu p i) = zk_up nu 23 5 (nu p i - 48) := by unfold stpM; rw [if_neg h36, if_pos h53]
                            rw [es] at key ⊢; exact key)
                         | (have es : stpM nu s (nu p i) = joinM nu (kLet (nu p i)) := by unfold stpM; rw [if_neg h36, if_neg h53, if_pos ⟨by omega, h77⟩]
                            rw [es] at key ⊢; exact key)
                         | (have es : stpM nu s (nu p i) = seatM nu (nu p i - 48) := by unfold stpM; rw [if_neg h36, if_neg h53, if_neg (fun q => by first | exact h77 q.2 | omega), if_pos (by omega)]
                            rw [es] at key ⊢; exact key)
                         | (have es : stpM nu s (nu p i) = nu := by unfold stpM; rw [if_neg h36, if_neg h53, if_neg (fun q => by first | exact h77 q.2 | omega), if_neg (by omega)]
                            rw [es] at key ⊢; exact key))
                · rw [show (3 : Int32) = nI 3 from rfl, nIle (by omega) (by omega)] at h94
                  refine zk_aload_n (pc := 97) 1 dX5_settle_97 rfl rfl ?_
                  refine zk_iload (pc := 98) dX5_settle_98 rfl ?_
                  refine zk_bipush (pc := 100) (v := 48) dX5_settle_100 (by decide) ?_
                  refine zk_isub (pc := 102) dX5_settle_102 ?_
                  refine zk_callVV (pc := 103) dX5_settle_103 mtX0_seat lkX5_49 stX0_seat (by rfl) (by rfl) [_] _ rfl rfl (Nat.le_of_ble_eq_true rfl) (Nat.le_of_ble_eq_true rfl) (sp_seat2 hM _) ?_
                  refine zs_iinc (pc := 106) (ls' := [_, _, _, _, _]) dX5_settle_106 rfl (nI_1 s) (by decide) rfl ?_
                  refine zs_iinc (pc := 109) (ls' := [_, _, _, _, _]) dX5_settle_109 rfl (nI_1 i) (by decide) rfl ?_
                  refine zk_goto (pc := 112) 9 dX5_settle_112 (by decide) ?_
                  first
                    | (rw [setR_s, if_pos (by rw [← hf]; exact h28)]; exact ih _ _ _ _ (by omega) (by omega) hs hf hM)
                    | (have hst : ∀ q, q ≠ 23 → q ≠ 24 → q ≠ 25 → stpM nu s (f i) q = nu q := fun q a1 a2 a3 => by funext z; exact stpM_c _ _ a1 a2 a3
                       have key := ih (i + 1) (s + 1) (stpM nu s (f i)) (.int (nu p i)) (by omega) (by omega) (by rw [hst c hc.1 hc.2.1 hc.2.2]; exact hs) (by rw [hst p hp.1 hp.2.1 hp.2.2]; exact hf) (stpM_ok hM _ _)
                       rw [setR_s, if_neg (by rw [← hf]; exact h28)]
                       subst hf
                       first
                         | (have es : stpM nu s (nu p i) = zk_up nu 23 4 (nu p i - 48) := if_pos h36
                            rw [es] at key ⊢; exact key)
                         | (have es : stpM nu s (nu p i) = zk_up nu 23 5 (nu p i - 48) := by unfold stpM; rw [if_neg h36, if_pos h53]
                            rw [es] at key ⊢; exact key)
                         | (have es : stpM nu s (nu p i) = joinM nu (kLet (nu p i)) := by unfold stpM; rw [if_neg h36, if_neg h53, if_pos ⟨by omega, h77⟩]
                            rw [es] at key ⊢; exact key)
                         | (have es : stpM nu s (nu p i) = seatM nu (nu p i - 48) := by unfold stpM; rw [if_neg h36, if_neg h53, if_neg (fun q => by first | exact h77 q.2 | omega), if_pos (by omega)]
                            rw [es] at key ⊢; exact key)
                         | (have es : stpM nu s (nu p i) = nu := by unfold stpM; rw [if_neg h36, if_neg h53, if_neg (fun q => by first | exact h77 q.2 | omega), if_neg (by omega)]
                            rw [es] at key ⊢; exact key))
              · rw [show (3 : Int32) = nI 3 from rfl, nIlt (by omega) (by omega)] at h70
                refine zk_iload_n (pc := 73) 2 dX5_settle_73 rfl rfl ?_
                refine zk_callSI (pc := 74) dX5_settle_74 mtX5_isBetweenItems lkX5_21 stX5_isBetweenItems [_] _ rfl rfl (Nat.le_of_ble_eq_true rfl) (Nat.le_of_ble_eq_true rfl) (sp_X5_isBetweenItems (by omega)) ?_
                refine zk_if_eq (pc := 77) 92 dX5_settle_77 (by decide) (fun h77 => ?_) (fun h77 => ?_)
                · rw [zb_e] at h77
                  refine zk_iload_n (pc := 92) 2 dX5_settle_92 rfl rfl ?_
                  refine zk_iconst (pc := 93) (v := 3) dX5_settle_93 (by decide) ?_
                  refine zk_icmp_le (pc := 94) 106 dX5_settle_94 (by decide) (fun h94 => ?_) (fun h94 => ?_)
                  · rw [show (3 : Int32) = nI 3 from rfl, nIle (by omega) (by omega)] at h94
                    refine zs_iinc (pc := 106) (ls' := [_, _, _, _, _]) dX5_settle_106 rfl (nI_1 s) (by decide) rfl ?_
                    refine zs_iinc (pc := 109) (ls' := [_, _, _, _, _]) dX5_settle_109 rfl (nI_1 i) (by decide) rfl ?_
                    refine zk_goto (pc := 112) 9 dX5_settle_112 (by decide) ?_
                    first
                      | (rw [setR_s, if_pos (by rw [← hf]; exact h28)]; exact ih _ _ _ _ (by omega) (by omega) hs hf hM)
                      | (have hst : ∀ q, q ≠ 23 → q ≠ 24 → q ≠ 25 → stpM nu s (f i) q = nu q := fun q a1 a2 a3 => by funext z; exact stpM_c _ _ a1 a2 a3
                         have key := ih (i + 1) (s + 1) (stpM nu s (f i)) (.int (nu p i)) (by omega) (by omega) (by rw [hst c hc.1 hc.2.1 hc.2.2]; exact hs) (by rw [hst p hp.1 hp.2.1 hp.2.2]; exact hf) (stpM_ok hM _ _)
                         rw [setR_s, if_neg (by rw [← hf]; exact h28)]
                         subst hf
                         first
                           | (have es : stpM nu s (nu p i) = zk_up nu 23 4 (nu p i - 48) := if_pos h36
                              rw [es] at key ⊢; exact key)
                           | (have es : stpM nu s (nu p i) = zk_up nu 23 5 (nu p i - 48) := by unfold stpM; rw [if_neg h36, if_pos h53]
                              rw [es] at key ⊢; exact key)
                           | (have es : stpM nu s (nu p i) = joinM nu (kLet (nu p i)) := by unfold stpM; rw [if_neg h36, if_neg h53, if_pos ⟨by omega, h77⟩]
                              rw [es] at key ⊢; exact key)
                           | (have es : stpM nu s (nu p i) = seatM nu (nu p i - 48) := by unfold stpM; rw [if_neg h36, if_neg h53, if_neg (fun q => by first | exact h77 q.2 | omega), if_pos (by omega)]
                              rw [es] at key ⊢; exact key)
                           | (have es : stpM nu s (nu p i) = nu := by unfold stpM; rw [if_neg h36, if_neg h53, if_neg (fun q => by first | exact h77 q.2 | omega), if_neg (by omega)]
                              rw [es] at key ⊢; exact key))
                  · rw [show (3 : Int32) = nI 3 from rfl, nIle (by omega) (by omega)] at h94
                    refine zk_aload_n (pc := 97) 1 dX5_settle_97 rfl rfl ?_
                    refine zk_iload (pc := 98) dX5_settle_98 rfl ?_
                    refine zk_bipush (pc := 100) (v := 48) dX5_settle_100 (by decide) ?_
                    refine zk_isub (pc := 102) dX5_settle_102 ?_
                    refine zk_callVV (pc := 103) dX5_settle_103 mtX0_seat lkX5_49 stX0_seat (by rfl) (by rfl) [_] _ rfl rfl (Nat.le_of_ble_eq_true rfl) (Nat.le_of_ble_eq_true rfl) (sp_seat2 hM _) ?_
                    refine zs_iinc (pc := 106) (ls' := [_, _, _, _, _]) dX5_settle_106 rfl (nI_1 s) (by decide) rfl ?_
                    refine zs_iinc (pc := 109) (ls' := [_, _, _, _, _]) dX5_settle_109 rfl (nI_1 i) (by decide) rfl ?_
                    refine zk_goto (pc := 112) 9 dX5_settle_112 (by decide) ?_
                    first
                      | (rw [setR_s, if_pos (by rw [← hf]; exact h28)]; exact ih _ _ _ _ (by omega) (by omega) hs hf hM)
                      | (have hst : ∀ q, q ≠ 23 → q ≠ 24 → q ≠ 25 → stpM nu s (f i) q = nu q := fun q a1 a2 a3 => by funext z; exact stpM_c _ _ a1 a2 a3
                         have key := ih (i + 1) (s + 1) (stpM nu s (f i)) (.int (nu p i)) (by omega) (by omega) (by rw [hst c hc.1 hc.2.1 hc.2.2]; exact hs) (by rw [hst p hp.1 hp.2.1 hp.2.2]; exact hf) (stpM_ok hM _ _)
                         rw [setR_s, if_neg (by rw [← hf]; exact h28)]
                         subst hf
                         first
                           | (have es : stpM nu s (nu p i) = zk_up nu 23 4 (nu p i - 48) := if_pos h36
                              rw [es] at key ⊢; exact key)
                           | (have es : stpM nu s (nu p i) = zk_up nu 23 5 (nu p i - 48) := by unfold stpM; rw [if_neg h36, if_pos h53]
                              rw [es] at key ⊢; exact key)
                           | (have es : stpM nu s (nu p i) = joinM nu (kLet (nu p i)) := by unfold stpM; rw [if_neg h36, if_neg h53, if_pos ⟨by omega, h77⟩]
                              rw [es] at key ⊢; exact key)
                           | (have es : stpM nu s (nu p i) = seatM nu (nu p i - 48) := by unfold stpM; rw [if_neg h36, if_neg h53, if_neg (fun q => by first | exact h77 q.2 | omega), if_pos (by omega)]
                              rw [es] at key ⊢; exact key)
                           | (have es : stpM nu s (nu p i) = nu := by unfold stpM; rw [if_neg h36, if_neg h53, if_neg (fun q => by first | exact h77 q.2 | omega), if_neg (by omega)]
                              rw [es] at key ⊢; exact key))
                · rw [zb_n] at h77
                  refine zk_aload_n (pc := 80) 1 dX5_settle_80 rfl rfl ?_
                  refine zk_iload (pc := 81) dX5_settle_81 rfl ?_
                  refine zk_callSI (pc := 83) dX5_settle_83 mtX2_byLetter lkX5_40 stX2_byLetter [_] _ rfl rfl (Nat.le_of_ble_eq_true rfl) (Nat.le_of_ble_eq_true rfl) (sp_X2_byLetter _) ?_
                  refine zk_callVV (pc := 86) dX5_settle_86 mtX0_join lkX5_45 stX0_join (by rfl) (by rfl) [_] _ rfl rfl (Nat.le_of_ble_eq_true rfl) (Nat.le_of_ble_eq_true rfl) (sp_join2 hM _) ?_
                  refine zk_goto (pc := 89) 106 dX5_settle_89 (by decide) ?_
                  refine zs_iinc (pc := 106) (ls' := [_, _, _, _, _]) dX5_settle_106 rfl (nI_1 s) (by decide) rfl ?_
                  refine zs_iinc (pc := 109) (ls' := [_, _, _, _, _]) dX5_settle_109 rfl (nI_1 i) (by decide) rfl ?_
                  refine zk_goto (pc := 112) 9 dX5_settle_112 (by decide) ?_
                  first
                    | (rw [setR_s, if_pos (by rw [← hf]; exact h28)]; exact ih _ _ _ _ (by omega) (by omega) hs hf hM)
                    | (have hst : ∀ q, q ≠ 23 → q ≠ 24 → q ≠ 25 → stpM nu s (f i) q = nu q := fun q a1 a2 a3 => by funext z; exact stpM_c _ _ a1 a2 a3
                       have key := ih (i + 1) (s + 1) (stpM nu s (f i)) (.int (nu p i)) (by omega) (by omega) (by rw [hst c hc.1 hc.2.1 hc.2.2]; exact hs) (by rw [hst p hp.1 hp.2.1 hp.2.2]; exact hf) (stpM_ok hM _ _)
                       rw [setR_s, if_neg (by rw [← hf]; exact h28)]
                       subst hf
                       first
                         | (have es : stpM nu s (nu p i) = zk_up nu 23 4 (nu p i - 48) := if_pos h36
                            rw [es] at key ⊢; exact key)
                         | (have es : stpM nu s (nu p i) = zk_up nu 23 5 (nu p i - 48) := by unfold stpM; rw [if_neg h36, if_pos h53]
                            rw [es] at key ⊢; exact key)
                         | (have es : stpM nu s (nu p i) = joinM nu (kLet (nu p i)) := by unfold stpM; rw [if_neg h36, if_neg h53, if_pos ⟨by omega, h77⟩]
                            rw [es] at key ⊢; exact key)
                         | (have es : stpM nu s (nu p i) = seatM nu (nu p i - 48) := by unfold stpM; rw [if_neg h36, if_neg h53, if_neg (fun q => by first | exact h77 q.2 | omega), if_pos (by omega)]
                            rw [es] at key ⊢; exact key)
                         | (have es : stpM nu s (nu p i) = nu := by unfold stpM; rw [if_neg h36, if_neg h53, if_neg (fun q => by first | exact h77 q.2 | omega), if_neg (by omega)]
                            rw [es] at key ⊢; exact key))
            · rw [show (2 : Int32) = nI 2 from rfl, nIeq (by omega) (by omega)] at h53
              refine zk_aload_n (pc := 56) 1 dX5_settle_56 rfl rfl ?_
              refine zk_iload (pc := 57) dX5_settle_57 rfl ?_
              refine zk_bipush (pc := 59) (v := 48) dX5_settle_59 (by decide) ?_
              refine zk_isub (pc := 61) dX5_settle_61 ?_
              refine zk_putI (pc := 62) dX5_settle_62 flX5_37 rfl rfl ?_
              refine zk_goto (pc := 65) 106 dX5_settle_65 (by decide) ?_
              refine zs_iinc (pc := 106) (ls' := [_, _, _, _, _]) dX5_settle_106 rfl (nI_1 s) (by decide) rfl ?_
              refine zs_iinc (pc := 109) (ls' := [_, _, _, _, _]) dX5_settle_109 rfl (nI_1 i) (by decide) rfl ?_
              refine zk_goto (pc := 112) 9 dX5_settle_112 (by decide) ?_
              first
                | (rw [setR_s, if_pos (by rw [← hf]; exact h28)]; exact ih _ _ _ _ (by omega) (by omega) hs hf hM)
                | (have hst : ∀ q, q ≠ 23 → q ≠ 24 → q ≠ 25 → stpM nu s (f i) q = nu q := fun q a1 a2 a3 => by funext z; exact stpM_c _ _ a1 a2 a3
                   have key := ih (i + 1) (s + 1) (stpM nu s (f i)) (.int (nu p i)) (by omega) (by omega) (by rw [hst c hc.1 hc.2.1 hc.2.2]; exact hs) (by rw [hst p hp.1 hp.2.1 hp.2.2]; exact hf) (stpM_ok hM _ _)
                   rw [setR_s, if_neg (by rw [← hf]; exact h28)]
                   subst hf
                   first
                     | (have es : stpM nu s (nu p i) = zk_up nu 23 4 (nu p i - 48) := if_pos h36
                        rw [es] at key ⊢; exact key)
                     | (have es : stpM nu s (nu p i) = zk_up nu 23 5 (nu p i - 48) := by unfold stpM; rw [if_neg h36, if_pos h53]
                        rw [es] at key ⊢; exact key)
                     | (have es : stpM nu s (nu p i) = joinM nu (kLet (nu p i)) := by unfold stpM; rw [if_neg h36, if_neg h53, if_pos ⟨by omega, h77⟩]
                        rw [es] at key ⊢; exact key)
                     | (have es : stpM nu s (nu p i) = seatM nu (nu p i - 48) := by unfold stpM; rw [if_neg h36, if_neg h53, if_neg (fun q => by first | exact h77 q.2 | omega), if_pos (by omega)]
                        rw [es] at key ⊢; exact key)
                     | (have es : stpM nu s (nu p i) = nu := by unfold stpM; rw [if_neg h36, if_neg h53, if_neg (fun q => by first | exact h77 q.2 | omega), if_neg (by omega)]
                        rw [es] at key ⊢; exact key))
          · rw [show (1 : Int32) = nI 1 from rfl, nIeq (by omega) (by omega)] at h36
            refine zk_aload_n (pc := 39) 1 dX5_settle_39 rfl rfl ?_
            refine zk_iload (pc := 40) dX5_settle_40 rfl ?_
            refine zk_bipush (pc := 42) (v := 48) dX5_settle_42 (by decide) ?_
            refine zk_isub (pc := 44) dX5_settle_44 ?_
            refine zk_putI (pc := 45) dX5_settle_45 flX5_34 rfl rfl ?_
            refine zk_goto (pc := 48) 106 dX5_settle_48 (by decide) ?_
            refine zs_iinc (pc := 106) (ls' := [_, _, _, _, _]) dX5_settle_106 rfl (nI_1 s) (by decide) rfl ?_
            refine zs_iinc (pc := 109) (ls' := [_, _, _, _, _]) dX5_settle_109 rfl (nI_1 i) (by decide) rfl ?_
            refine zk_goto (pc := 112) 9 dX5_settle_112 (by decide) ?_
            first
              | (rw [setR_s, if_pos (by rw [← hf]; exact h28)]; exact ih _ _ _ _ (by omega) (by omega) hs hf hM)
              | (have hst : ∀ q, q ≠ 23 → q ≠ 24 → q ≠ 25 → stpM nu s (f i) q = nu q := fun q a1 a2 a3 => by funext z; exact stpM_c _ _ a1 a2 a3
                 have key := ih (i + 1) (s + 1) (stpM nu s (f i)) (.int (nu p i)) (by omega) (by omega) (by rw [hst c hc.1 hc.2.1 hc.2.2]; exact hs) (by rw [hst p hp.1 hp.2.1 hp.2.2]; exact hf) (stpM_ok hM _ _)
                 rw [setR_s, if_neg (by rw [← hf]; exact h28)]
                 subst hf
                 first
                   | (have es : stpM nu s (nu p i) = zk_up nu 23 4 (nu p i - 48) := if_pos h36
                      rw [es] at key ⊢; exact key)
                   | (have es : stpM nu s (nu p i) = zk_up nu 23 5 (nu p i - 48) := by unfold stpM; rw [if_neg h36, if_pos h53]
                      rw [es] at key ⊢; exact key)
                   | (have es : stpM nu s (nu p i) = joinM nu (kLet (nu p i)) := by unfold stpM; rw [if_neg h36, if_neg h53, if_pos ⟨by omega, h77⟩]
                      rw [es] at key ⊢; exact key)
                   | (have es : stpM nu s (nu p i) = seatM nu (nu p i - 48) := by unfold stpM; rw [if_neg h36, if_neg h53, if_neg (fun q => by first | exact h77 q.2 | omega), if_pos (by omega)]
                      rw [es] at key ⊢; exact key)
                   | (have es : stpM nu s (nu p i) = nu := by unfold stpM; rw [if_neg h36, if_neg h53, if_neg (fun q => by first | exact h77 q.2 | omega), if_neg (by omega)]
                      rw [es] at key ⊢; exact key))
        · skip
          refine zk_goto (pc := 31) 109 dX5_settle_31 (by decide) ?_
          refine zs_iinc (pc := 109) (ls' := [_, _, _, _, _]) dX5_settle_109 rfl (nI_1 i) (by decide) rfl ?_
          refine zk_goto (pc := 112) 9 dX5_settle_112 (by decide) ?_
          first
            | (rw [setR_s, if_pos (by rw [← hf]; exact h28)]; exact ih _ _ _ _ (by omega) (by omega) hs hf hM)
            | (have hst : ∀ q, q ≠ 23 → q ≠ 24 → q ≠ 25 → stpM nu s (f i) q = nu q := fun q a1 a2 a3 => by funext z; exact stpM_c _ _ a1 a2 a3
               have key := ih (i + 1) (s + 1) (stpM nu s (f i)) (.int (nu p i)) (by omega) (by omega) (by rw [hst c hc.1 hc.2.1 hc.2.2]; exact hs) (by rw [hst p hp.1 hp.2.1 hp.2.2]; exact hf) (stpM_ok hM _ _)
               rw [setR_s, if_neg (by rw [← hf]; exact h28)]
               subst hf
               first
                 | (have es : stpM nu s (nu p i) = zk_up nu 23 4 (nu p i - 48) := if_pos h36
                    rw [es] at key ⊢; exact key)
                 | (have es : stpM nu s (nu p i) = zk_up nu 23 5 (nu p i - 48) := by unfold stpM; rw [if_neg h36, if_pos h53]
                    rw [es] at key ⊢; exact key)
                 | (have es : stpM nu s (nu p i) = joinM nu (kLet (nu p i)) := by unfold stpM; rw [if_neg h36, if_neg h53, if_pos ⟨by omega, h77⟩]
                    rw [es] at key ⊢; exact key)
                 | (have es : stpM nu s (nu p i) = seatM nu (nu p i - 48) := by unfold stpM; rw [if_neg h36, if_neg h53, if_neg (fun q => by first | exact h77 q.2 | omega), if_pos (by omega)]
                    rw [es] at key ⊢; exact key)
                 | (have es : stpM nu s (nu p i) = nu := by unfold stpM; rw [if_neg h36, if_neg h53, if_neg (fun q => by first | exact h77 q.2 | omega), if_neg (by omega)]
                    rw [es] at key ⊢; exact key))
  refine zk_iconst (pc := 0) (v := 0) dX5_settle_0 (by decide) ?_
  refine zs_istore_n (pc := 1) (ls' := [_, _, _, _, _]) 2 dX5_settle_1 rfl (by decide) rfl ?_
  refine zk_aload_n (pc := 2) 1 dX5_settle_2 rfl rfl ?_
  refine zk_iconst (pc := 3) (v := 0) dX5_settle_3 (by decide) ?_
  refine zk_putI (pc := 4) dX5_settle_4 flX5_29 rfl rfl ?_
  refine zk_iconst (pc := 7) (v := 0) dX5_settle_7 (by decide) ?_
  refine zs_istore_n (pc := 8) (ls' := [_, _, _, _, _]) 3 dX5_settle_8 rfl (by decide) rfl ?_
  exact loop (mu p) j 0 0 _ _ (by omega) (by omega) (by rw [zup_c _ _ _ hc.1]; exact hs) (by funext z; rw [zup_c _ _ _ hp.1]) ⟨0, by omega, by rw [zup_s]; rfl⟩
end M26
