section M41
variable {d : Nat} {mu : Mem} {lm : MemL}
theorem zsubsub (v k : Int32) : v - (v - k) = k := by
  rw [Int32.sub_eq_add_neg, Int32.neg_sub, Int32.add_comm, Int32.sub_add_cancel]
/-- one talks, in the air s: memory behind it -/
def tkS (mu : Mem) (s j : Nat) (v : Int32) (C : Nat) : Mem := zk_uc mu s (fun q => if q < C then zmin 999 (mu s q + shr (mu 53 j) (mu 54 j) (mu 46 17) v (nI q)) else if q = 10 then mu s 10 + kSay (mu 53 j) v else if q = 11 + j then mu s (11 + j) + 1 else mu s q)
theorem zmin_le {x : Int32} (h : x ≤ 999) : zmin 999 (x + 0) = x := by
  rw [Int32.add_zero, ← zmin999.1 h]
theorem tk_n {mu : Mem} {s j c C : Nat} {v : Int32} (hC : mu 46 17 = nI C) (hC8 : C ≤ 8) (hc : c < C) (hj : j < 6) (hu : mu 54 j = nI c) (hk : ¬ (mu 53 j = 1 ∨ mu 53 j = 4)) (hA : ∀ q, q < C → mu s q ≤ 999) :
    zk_up (zk_up (zk_up mu s 10 (mu s 10 + (v - (v - kSay (mu 53 j) v)))) s (11 + j) (zk_up mu s 10 (mu s 10 + (v - (v - kSay (mu 53 j) v))) s (11 + j) + 1)) s c (zmin 999 (zk_up (zk_up mu s 10 (mu s 10 + (v - (v - kSay (mu 53 j) v)))) s (11 + j) (zk_up mu s 10 (mu s 10 + (v - (v - kSay (mu 53 j) v))) s (11 + j) + 1) s c + (v - kSay (mu 53 j) v))) = tkS mu s j v C := by
  rw [zsubsub]
  funext c' q
  by_cases hcs : c' = s
  · subst hcs
    unfold tkS
    rw [zuc_s]
    by_cases q1 : q = c
    · subst q1
      rw [zup_s, if_pos hc, zup_k _ _ _ (by omega), zup_k _ _ _ (by omega)]
      unfold shr
      rw [if_neg hk, if_pos hu.symm]
    · rw [zup_k _ _ _ q1]
      by_cases q2 : q < C
      · rw [if_pos q2, zup_k _ _ _ (by omega), zup_k _ _ _ (by omega)]
        unfold shr
        rw [if_neg hk, if_neg (by rw [hu, nIeq (by omega) (by omega)]; exact q1), zmin_le (hA q q2)]
      · rw [if_neg q2]
        by_cases q3 : q = 10
        · subst q3; rw [if_pos rfl, zup_k _ _ _ (by omega), zup_s]
        · rw [if_neg q3]
          by_cases q4 : q = 11 + j
          · subst q4; rw [if_pos rfl, zup_s, zup_k _ _ _ (by omega)]
          · rw [if_neg q4, zup_k _ _ _ q4, zup_k _ _ _ q3]
  · rw [zup_c _ _ _ hcs, zup_c _ _ _ hcs, zup_c _ _ _ hcs]
    unfold tkS
    rw [zuc_c _ _ hcs]
theorem tk_b {mu : Mem} {s j c C : Nat} {v : Int32} (hC : mu 46 17 = nI C) (hC3 : 3 ≤ C) (hC8 : C ≤ 8) (hc : c < C) (hj : j < 6) (hu : mu 54 j = nI c) (hk : mu 53 j = 1 ∨ mu 53 j = 4) (hA : ∀ q, q < C → mu s q ≤ 999) {m2 : Mem} (h2 : m2 = zk_up (zk_up mu s 10 (mu s 10 + (v - (v - kSay (mu 53 j) v)))) s (11 + j) (zk_up mu s 10 (mu s 10 + (v - (v - kSay (mu 53 j) v))) s (11 + j) + 1)) {m3 : Mem} (h3 : m3 = zk_up m2 s c (zmin 999 (m2 s c + (v - kSay (mu 53 j) v) / 2))) {m4 : Mem} (h4 : m4 = zk_up m3 s ((c + 1) % C) (zmin 999 (m3 s ((c + 1) % C) + ((v - kSay (mu 53 j) v) - (v - kSay (mu 53 j) v) / 2) / 2))) :
    zk_up m4 s ((c + C - 1) % C) (zmin 999 (m4 s ((c + C - 1) % C) + (((v - kSay (mu 53 j) v) - (v - kSay (mu 53 j) v) / 2) - ((v - kSay (mu 53 j) v) - (v - kSay (mu 53 j) v) / 2) / 2))) = tkS mu s j v C := by
  obtain ⟨b, hb, hbe, hbm⟩ := cBeh_n hC8 hc
  obtain ⟨a, ha, hae, ham⟩ := cAhd_n hC8 hc
  rw [← hbm] at h4
  rw [← ham]
  have hbc : b ≠ c := by
    rw [hbm]
    rcases Nat.lt_or_ge (c + 1) C with g | g
    · rw [Nat.mod_eq_of_lt g]; omega
    · rw [show c + 1 = C by omega, Nat.mod_self]; omega
  have hac : a ≠ c := by
    rw [ham]
    rcases Nat.eq_zero_or_pos c with g | g
    · rw [Nat.mod_eq_of_lt (by omega)]; omega
    · rw [show c + C - 1 = (c - 1) + C by omega, Nat.add_mod_right, Nat.mod_eq_of_lt (by omega)]; omega
  have hab : a ≠ b := by
    rw [ham, hbm]
    rcases Nat.eq_zero_or_pos c with g | g
    · rw [Nat.mod_eq_of_lt (show c + C - 1 < C by omega), Nat.mod_eq_of_lt (show c + 1 < C by omega)]; omega
    · rw [show c + C - 1 = (c - 1) + C by omega, Nat.add_mod_right, Nat.mod_eq_of_lt (show c - 1 < C by omega)]
      rcases Nat.lt_or_ge (c + 1) C with g2 | g2
      · rw [Nat.mod_eq_of_lt g2]; omega
      · rw [show c + 1 = C by omega, Nat.mod_self]; omega
  have e2 : ∀ q, q < C → m2 s q = mu s q := fun q hq => by rw [h2, zup_k _ _ _ (by omega), zup_k _ _ _ (by omega)]
  funext c' q
  by_cases hcs : c' = s
  · subst hcs
    unfold tkS
    rw [zuc_s]
    by_cases q2 : q < C
    · rw [if_pos q2]
      unfold shr
      rw [if_pos hk, hC, hu, hbe, hae]
      by_cases qa : q = a
      · subst qa
        rw [zup_s, h4, zup_k _ _ _ hab, h3, zup_k _ _ _ hac, e2 _ q2, if_neg (by rw [nIeq (by omega) (by omega)]; exact hac), if_neg (by rw [nIeq (by omega) (by omega)]; exact hab), if_pos rfl]
      · rw [zup_k _ _ _ qa, h4]
        by_cases qb : q = b
        · subst qb
          rw [zup_s, h3, zup_k _ _ _ hbc, e2 _ q2, if_neg (by rw [nIeq (by omega) (by omega)]; exact hbc), if_pos rfl]
        · rw [zup_k _ _ _ qb, h3]
          by_cases qc : q = c
          · subst qc
            rw [zup_s, e2 _ q2, if_pos rfl]
          · rw [zup_k _ _ _ qc, e2 _ q2, if_neg (by rw [nIeq (by omega) (by omega)]; exact qc), if_neg (by rw [nIeq (by omega) (by omega)]; exact qb), if_neg (by rw [nIeq (by omega) (by omega)]; exact qa), zmin_le (hA q q2)]
    · rw [if_neg q2, zup_k _ _ _ (by omega), h4, zup_k _ _ _ (by omega), h3, zup_k _ _ _ (by omega), h2, zsubsub]
      by_cases q3 : q = 10
      · subst q3; rw [if_pos rfl, zup_k _ _ _ (by omega), zup_s]
      · rw [if_neg q3]
        by_cases q4 : q = 11 + j
        · subst q4; rw [if_pos rfl, zup_s, zup_k _ _ _ (by omega)]
        · rw [if_neg q4, zup_k _ _ _ q4, zup_k _ _ _ q3]
  · rw [zup_c _ _ _ hcs, h4, zup_c _ _ _ hcs, h3, zup_c _ _ _ hcs, h2, zup_c _ _ _ hcs, zup_c _ _ _ hcs]
    unfold tkS
    rw [zuc_c _ _ hcs]
theorem sp_is1 (k : Int32) : zk_M d RX8 cX8_is 2 (some .boolean) none 0 (zk_loc [.int k, .int 1] 2) [] mu lm (zk_R (some (.int (zb (k = 1 ∨ k = 4)))) mu lm) := by
  have e := sp_X8_is (d := d) (mu := mu) (lm := lm) k 1
  rw [zb_c (show _ ↔ (k = 1 ∨ k = 4) from by simp)] at e
  exact e
theorem sp_is2 (k : Int32) : zk_M d RX8 cX8_is 2 (some .boolean) none 0 (zk_loc [.int k, .int 2] 2) [] mu lm (zk_R (some (.int (zb (k = 2 ∨ k = 5)))) mu lm) := by
  have e := sp_X8_is (d := d) (mu := mu) (lm := lm) k 2
  rw [zb_c (show _ ↔ (k = 2 ∨ k = 5) from by simp)] at e
  exact e
theorem sp_X8_talkIn {s : Nat} (hs : zk_shp[s]? = some (1, 17, [])) (h46 : s ≠ 46) (h53 : s ≠ 53) (h54 : s ≠ 54) {C : Nat} (hC : mu 46 17 = nI C) (hC8 : C ≤ 8) (hC3 : 3 ≤ C) {j c : Nat} (hj : j < 6) (hc : c < C) (hu : mu 54 j = nI c) (hA : ∀ q, q < C → mu s q ≤ 999) (v : Int32) : zk_M (d + 2) RX8 cX8_talkIn 7 (none) none 0 (zk_loc [.ref 46, .ref s, .int (nI j), .int v] 7) [] mu lm (zk_R none (tkS mu s j v C) lm) := by
  refine zk_aload_n (pc := 0) 0 dX8_talkIn_0 rfl rfl ?_
  refine zk_iload_n (pc := 1) 2 dX8_talkIn_1 rfl rfl ?_
  refine zk_iload_n (pc := 2) 3 dX8_talkIn_2 rfl rfl ?_
  refine zk_callVI (pc := 3) dX8_talkIn_3 mtX8_breath lkX8_153 stX8_breath (by rfl) (by rfl) [_, _] _ rfl rfl (Nat.le_of_ble_eq_true rfl) (Nat.le_of_ble_eq_true rfl) (sp_X8_breath hj v) ?_
  refine zs_istore (pc := 6) (ls' := [_, _, _, _, _, _, _]) 4 dX8_talkIn_6 (by decide) rfl ?_
  refine zk_aload_n (pc := 8) 0 dX8_talkIn_8 rfl rfl ?_
  refine zk_getR (pc := 9) dX8_talkIn_9 flX8_35 rfl rfl ?_
  refine zk_iload_n (pc := 12) 2 dX8_talkIn_12 rfl rfl ?_
  refine zk_iaload (pc := 13) j dX8_talkIn_13 rfl rfl hj ?_
  refine zs_istore (pc := 14) (ls' := [_, _, _, _, _, _, _]) 5 dX8_talkIn_14 (by decide) rfl ?_
  refine zk_aload_n (pc := 16) 1 dX8_talkIn_16 rfl rfl ?_
  refine zk_bipush (pc := 17) (v := 10) dX8_talkIn_17 (by decide) ?_
  refine zk_dup2 (pc := 19) dX8_talkIn_19 rfl rfl ?_
  refine zk_iaload (pc := 20) 10 dX8_talkIn_20 hs rfl (by decide) ?_
  refine zk_iload_n (pc := 21) 3 dX8_talkIn_21 rfl rfl ?_
  refine zk_iload (pc := 22) dX8_talkIn_22 rfl ?_
  refine zk_isub (pc := 24) dX8_talkIn_24 ?_
  refine zk_iadd (pc := 25) dX8_talkIn_25 ?_
  refine zk_iastore (pc := 26) 10 dX8_talkIn_26 hs rfl (by decide) ?_
  refine zk_aload_n (pc := 27) 1 dX8_talkIn_27 rfl rfl ?_
  refine zk_bipush (pc := 28) (v := 11) dX8_talkIn_28 (by decide) ?_
  refine zk_iload_n (pc := 30) 2 dX8_talkIn_30 rfl rfl ?_
  refine zk_iadd (pc := 31) dX8_talkIn_31 ?_
  refine zk_dup2 (pc := 32) dX8_talkIn_32 rfl rfl ?_
  refine zk_iaload (pc := 33) (11 + j) dX8_talkIn_33 hs (show (11 : Int32) + nI j = nI (11 + j) from nI_add 11 j) (by omega) ?_
  refine zk_iconst (pc := 34) (v := 1) dX8_talkIn_34 (by decide) ?_
  refine zk_iadd (pc := 35) dX8_talkIn_35 ?_
  refine zk_iastore (pc := 36) (11 + j) dX8_talkIn_36 hs (show (11 : Int32) + nI j = nI (11 + j) from nI_add 11 j) (by omega) ?_
  refine zk_aload_n (pc := 37) 0 dX8_talkIn_37 rfl rfl ?_
  refine zk_getR (pc := 38) dX8_talkIn_38 flX8_32 rfl rfl ?_
  refine zk_iload_n (pc := 41) 2 dX8_talkIn_41 rfl rfl ?_
  refine zk_iaload (pc := 42) j dX8_talkIn_42 rfl rfl hj ?_
  refine zk_iconst (pc := 43) (v := 1) dX8_talkIn_43 (by decide) ?_
  rw [zup_c _ _ _ (Ne.symm h53), zup_c _ _ _ (Ne.symm h53)]
  refine zk_callSI (pc := 44) dX8_talkIn_44 mtX8_is lkX8_143 stX8_is [_, _] _ rfl rfl (Nat.le_of_ble_eq_true rfl) (Nat.le_of_ble_eq_true rfl) (sp_is1 _) ?_
  refine zk_if_eq (pc := 47) 103 dX8_talkIn_47 (by decide) (fun h47 => ?_) (fun h47 => ?_)
  · rw [zb_e] at h47
    have hnb := h47
    refine zk_aload_n (pc := 103) 1 dX8_talkIn_103 rfl rfl ?_
    refine zk_iload (pc := 104) dX8_talkIn_104 rfl ?_
    refine zk_iload (pc := 106) dX8_talkIn_106 rfl ?_
    rw [hu]
    refine zk_callSV (pc := 108) dX8_talkIn_108 mtX8_comes lkX8_163 stX8_comes [_, _, _] _ rfl rfl (Nat.le_of_ble_eq_true rfl) (Nat.le_of_ble_eq_true rfl) (sp_X8_comes hs (by omega) _) ?_
    refine zk_return (pc := 111) dX8_talkIn_111 rfl (zk_rv0 ?_ rfl)
    first
      | (have hq := hnb; exact tk_n hC hC8 hc hj hu hq hA)
      | (have hq := hbi; exact tk_b hC hC3 hC8 hc hj hu hq hA rfl rfl rfl)
  · rw [zb_n] at h47
    have hbi := h47
    refine zk_iload (pc := 50) dX8_talkIn_50 rfl ?_
    refine zk_iload (pc := 52) dX8_talkIn_52 rfl ?_
    refine zk_iconst (pc := 54) (v := 2) dX8_talkIn_54 (by decide) ?_
    refine zk_idiv (pc := 55) dX8_talkIn_55 (by decide) ?_
    refine zk_isub (pc := 56) dX8_talkIn_56 ?_
    refine zs_istore (pc := 57) (ls' := [_, _, _, _, _, _, _]) 6 dX8_talkIn_57 (by decide) rfl ?_
    refine zk_aload_n (pc := 59) 1 dX8_talkIn_59 rfl rfl ?_
    refine zk_iload (pc := 60) dX8_talkIn_60 rfl ?_
    refine zk_iload (pc := 62) dX8_talkIn_62 rfl ?_
    refine zk_iconst (pc := 64) (v := 2) dX8_talkIn_64 (by decide) ?_
    refine zk_idiv (pc := 65) dX8_talkIn_65 (by decide) ?_
    rw [hu]
    refine zk_callSV (pc := 66) dX8_talkIn_66 mtX8_comes lkX8_163 stX8_comes [_, _, _] _ rfl rfl (Nat.le_of_ble_eq_true rfl) (Nat.le_of_ble_eq_true rfl) (sp_X8_comes hs (by omega) _) ?_
    refine zk_aload_n (pc := 69) 1 dX8_talkIn_69 rfl rfl ?_
    refine zk_aload_n (pc := 70) 0 dX8_talkIn_70 rfl rfl ?_
    refine zk_iload (pc := 71) dX8_talkIn_71 rfl ?_
    try rw [hu]
    refine zk_callVI (pc := 73) dX8_talkIn_73 mtX8_behind lkX8_147 stX8_behind (by rfl) (by rfl) [_] _ rfl rfl (Nat.le_of_ble_eq_true rfl) (Nat.le_of_ble_eq_true rfl) (sp_X8_behind (C := C) (by rw [zup_c _ _ _ (Ne.symm h46), zup_c _ _ _ (Ne.symm h46), zup_c _ _ _ (Ne.symm h46)]; exact hC) hC8 hc) ?_
    refine zk_iload (pc := 76) dX8_talkIn_76 rfl ?_
    refine zk_iconst (pc := 78) (v := 2) dX8_talkIn_78 (by decide) ?_
    refine zk_idiv (pc := 79) dX8_talkIn_79 (by decide) ?_
    refine zk_callSV (pc := 80) dX8_talkIn_80 mtX8_comes lkX8_163 stX8_comes [_, _, _] _ rfl rfl (Nat.le_of_ble_eq_true rfl) (Nat.le_of_ble_eq_true rfl) (sp_X8_comes hs (Nat.lt_of_lt_of_le (Nat.mod_lt _ (by omega)) (by omega)) _) ?_
    refine zk_aload_n (pc := 83) 1 dX8_talkIn_83 rfl rfl ?_
    refine zk_aload_n (pc := 84) 0 dX8_talkIn_84 rfl rfl ?_
    refine zk_iload (pc := 85) dX8_talkIn_85 rfl ?_
    try rw [hu]
    refine zk_callVI (pc := 87) dX8_talkIn_87 mtX8_ahead lkX8_150 stX8_ahead (by rfl) (by rfl) [_] _ rfl rfl (Nat.le_of_ble_eq_true rfl) (Nat.le_of_ble_eq_true rfl) (sp_X8_ahead (C := C) (by rw [zup_c _ _ _ (Ne.symm h46), zup_c _ _ _ (Ne.symm h46), zup_c _ _ _ (Ne.symm h46), zup_c _ _ _ (Ne.symm h46)]; exact hC) hC8 hc) ?_
    refine zk_iload (pc := 90) dX8_talkIn_90 rfl ?_
    refine zk_iload (pc := 92) dX8_talkIn_92 rfl ?_
    refine zk_iconst (pc := 94) (v := 2) dX8_talkIn_94 (by decide) ?_
    refine zk_idiv (pc := 95) dX8_talkIn_95 (by decide) ?_
    refine zk_isub (pc := 96) dX8_talkIn_96 ?_
    refine zk_callSV (pc := 97) dX8_talkIn_97 mtX8_comes lkX8_163 stX8_comes [_, _, _] _ rfl rfl (Nat.le_of_ble_eq_true rfl) (Nat.le_of_ble_eq_true rfl) (sp_X8_comes hs (Nat.lt_of_lt_of_le (Nat.mod_lt _ (by omega)) (by omega)) _) ?_
    refine zk_goto (pc := 100) 111 dX8_talkIn_100 (by decide) ?_
    refine zk_return (pc := 111) dX8_talkIn_111 rfl (zk_rv0 ?_ rfl)
    first
      | (have hq := hnb; exact tk_n hC hC8 hc hj hu hq hA)
      | (have hq := hbi; exact tk_b hC hC3 hC8 hc hj hu hq hA rfl rfl rfl)
def hrV (x l : Int32) : Int32 := zmax 0 (x - l * 1)
theorem hrV_a {x l : Int32} (h0 : 0 ≤ x) (h9 : x ≤ 999) (l0 : 0 ≤ l) (l9 : l ≤ 9) : (x < l → x - x = hrV x l ∧ x = x - hrV x l) ∧ (¬ x < l → x - l = hrV x l ∧ l = x - hrV x l) := by
  have e : (x - l).toInt = x.toInt - l.toInt := by
    rw [Int32.toInt_sub]
    simp only [zle, show (0 : Int32).toInt = 0 by decide, show (999 : Int32).toInt = 999 by decide, show (9 : Int32).toInt = 9 by decide] at *
    exact Int.bmod_eq_of_le (by omega) (by omega)
  unfold hrV zmax
  rw [Int32.mul_one]
  constructor
  · intro h
    have g : ¬ 0 < x - l := by simp only [zlt, zle, e, show (0 : Int32).toInt = 0 by decide] at *; omega
    rw [if_neg g, Int32.sub_self, Int32.sub_zero]
    exact ⟨rfl, rfl⟩
  · intro h
    by_cases g : 0 < x - l
    · rw [if_pos g]
      exact ⟨rfl, (zsubsub x l).symm⟩
    · rw [if_neg g]
      have ez : x = l := by rw [zeq]; simp only [zlt, zle, e, show (0 : Int32).toInt = 0 by decide] at *; omega
      rw [ez, Int32.sub_self, Int32.sub_zero]
      exact ⟨rfl, rfl⟩
def hrA (mu : Mem) (s k : Nat) : Mem := zk_uc mu s (fun q => if q < k then hrV (mu s q) (mu 46 16) else mu s q)
theorem hrA_0 (mu : Mem) (s : Nat) : hrA mu s 0 = mu := by
  unfold hrA
  have : (fun q => if q < 0 then hrV (mu s q) (mu 46 16) else mu s q) = mu s := by funext k; simp
  rw [this, zk_uc_self]
theorem hrA_s (mu : Mem) (s j : Nat) : zk_up (hrA mu s j) s j (hrV (mu s j) (mu 46 16)) = hrA mu s (j + 1) := by
  funext c k
  unfold hrA zk_up zk_uc
  by_cases hc : c = s
  · subst hc
    by_cases hk : k = j
    · subst hk; simp
    · have e : (k < j + 1) = (k < j) := propext ⟨fun h => by omega, fun h => by omega⟩
      simp [hk, e]
  · simp [hc]
theorem hrA_c (mu : Mem) {s c : Nat} (k : Nat) (h : c ≠ s) : hrA mu s k c = mu c := by unfold hrA; rw [zuc_c _ _ h]
theorem hrA_k (mu : Mem) (s k : Nat) : hrA mu s k s k = mu s k := by unfold hrA; rw [zuc_s]; simp
/-- an hour in the air s -/
def hrS (mu : Mem) (s C : Nat) : Mem := zk_up (hrA mu s C) s 8 (mu s 8 + 1)
theorem sp_X8_hourIn {s : Nat} (hs : zk_shp[s]? = some (1, 17, [])) (h46 : s ≠ 46) (h53 : s ≠ 53) (h54 : s ≠ 54) {C : Nat} (hC : mu 46 17 = nI C) (hC8 : C ≤ 8) (hL0 : 0 ≤ mu 46 16) (hL9 : mu 46 16 ≤ 9) (hA : ∀ q, q < C → 0 ≤ mu s q ∧ mu s q ≤ 999) : zk_M d RX8 cX8_hourIn 5 (some .int) none 0 (zk_loc [.ref 46, .ref s] 5) [] mu lm (zk_R (some (.int (zsum C (fun q => mu s q - hrV (mu s q) (mu 46 16))))) (hrS mu s C) lm) := by
  have loop : ∀ k, k ≤ C → ∀ b4 : Value, zk_M d RX8 cX8_hourIn 5 (some .int) none 4 [.ref 46, .ref s, .int (zsum k (fun q => mu s q - hrV (mu s q) (mu 46 16))), .int (nI k), b4] [] (hrA mu s k) lm (zk_R (some (.int (zsum C (fun q => mu s q - hrV (mu s q) (mu 46 16))))) (hrS mu s C) lm) := by
    refine zk_ind C (fun k hk ih => ?_)
    intro b4
    refine zk_iload_n (pc := 4) 3 dX8_hourIn_4 rfl rfl ?_
    refine zk_aload_n (pc := 5) 0 dX8_hourIn_5 rfl rfl ?_
    refine zk_getI (pc := 6) dX8_hourIn_6 flX8_70 rfl rfl ?_
    refine zk_icmp_ge (pc := 9) 53 dX8_hourIn_9 (by decide) (fun h9 => ?_) (fun h9 => ?_)
    · rw [hrA_c _ _ (Ne.symm h46), hC, nIle (by omega) (by omega)] at h9
      refine zk_aload_n (pc := 53) 1 dX8_hourIn_53 rfl rfl ?_
      refine zk_bipush (pc := 54) (v := 8) dX8_hourIn_54 (by decide) ?_
      refine zk_dup2 (pc := 56) dX8_hourIn_56 rfl rfl ?_
      refine zk_iaload (pc := 57) 8 dX8_hourIn_57 hs rfl (by decide) ?_
      refine zk_iconst (pc := 58) (v := 1) dX8_hourIn_58 (by decide) ?_
      refine zk_iadd (pc := 59) dX8_hourIn_59 ?_
      refine zk_iastore (pc := 60) 8 dX8_hourIn_60 hs rfl (by decide) ?_
      refine zk_iload_n (pc := 61) 2 dX8_hourIn_61 rfl rfl ?_
      refine zk_ireturn (pc := 62) dX8_hourIn_62 (Or.inl rfl) (zk_rm ?_ ?_ rfl)
      · rw [show k = C by omega]
      · rw [show k = C by omega]
        unfold hrS
        rw [show hrA mu s C s 8 = mu s 8 by unfold hrA; rw [zuc_s, if_neg (by omega)]]
    · rw [hrA_c _ _ (Ne.symm h46), hC, nIle (by omega) (by omega)] at h9
      refine zk_aload_n (pc := 12) 1 dX8_hourIn_12 rfl rfl ?_
      refine zk_iload_n (pc := 13) 3 dX8_hourIn_13 rfl rfl ?_
      refine zk_iaload (pc := 14) k dX8_hourIn_14 hs rfl (by omega) ?_
      rw [hrA_k]
      refine zk_aload_n (pc := 15) 0 dX8_hourIn_15 rfl rfl ?_
      refine zk_getI (pc := 16) dX8_hourIn_16 flX8_127 rfl rfl ?_
      refine zk_icmp_ge (pc := 19) 28 dX8_hourIn_19 (by decide) (fun h19 => ?_) (fun h19 => ?_)
      · rw [hrA_c _ _ (Ne.symm h46)] at h19
        replace h19 : ¬ mu s k < mu 46 16 := by simp only [zlt, zle] at *; omega
        refine zk_aload_n (pc := 28) 0 dX8_hourIn_28 rfl rfl ?_
        refine zk_getI (pc := 29) dX8_hourIn_29 flX8_127 rfl rfl ?_
        refine zs_istore (pc := 32) (ls' := [_, _, _, _, _]) 4 dX8_hourIn_32 (by decide) rfl ?_
        first | rw [hrA_k] | rw [hrA_c _ _ (Ne.symm h46)]
        refine zk_aload_n (pc := 34) 1 dX8_hourIn_34 rfl rfl ?_
        refine zk_iload_n (pc := 35) 3 dX8_hourIn_35 rfl rfl ?_
        refine zk_dup2 (pc := 36) dX8_hourIn_36 rfl rfl ?_
        refine zk_iaload (pc := 37) k dX8_hourIn_37 hs rfl (by omega) ?_
        rw [hrA_k]
        refine zk_iload (pc := 38) dX8_hourIn_38 rfl ?_
        refine zk_isub (pc := 40) dX8_hourIn_40 ?_
        refine zk_iastore (pc := 41) k dX8_hourIn_41 hs rfl (by omega) ?_
        refine zk_iload_n (pc := 42) 2 dX8_hourIn_42 rfl rfl ?_
        refine zk_iload (pc := 43) dX8_hourIn_43 rfl ?_
        refine zk_iadd (pc := 45) dX8_hourIn_45 ?_
        refine zs_istore_n (pc := 46) (ls' := [_, _, _, _, _]) 2 dX8_hourIn_46 rfl (by decide) rfl ?_
        refine zs_iinc (pc := 47) (ls' := [_, _, _, _, _]) dX8_hourIn_47 rfl (nI_1 k) (by decide) rfl ?_
        refine zk_goto (pc := 50) 4 dX8_hourIn_50 (by decide) ?_
        have e := ih (by omega)
        rw [zsum_s, ← hrA_s] at e
        have hh := hrV_a (hA k (by omega)).1 (hA k (by omega)).2 hL0 hL9
        first
          | (rw [← (hh.1 h19).2, ← (hh.1 h19).1] at e; exact e _)
          | (rw [← (hh.2 h19).2, ← (hh.2 h19).1] at e; exact e _)
      · rw [hrA_c _ _ (Ne.symm h46)] at h19
        replace h19 : mu s k < mu 46 16 := by simp only [zlt, zle] at *; omega
        refine zk_aload_n (pc := 22) 1 dX8_hourIn_22 rfl rfl ?_
        refine zk_iload_n (pc := 23) 3 dX8_hourIn_23 rfl rfl ?_
        refine zk_iaload (pc := 24) k dX8_hourIn_24 hs rfl (by omega) ?_
        refine zk_goto (pc := 25) 32 dX8_hourIn_25 (by decide) ?_
        refine zs_istore (pc := 32) (ls' := [_, _, _, _, _]) 4 dX8_hourIn_32 (by decide) rfl ?_
        first | rw [hrA_k] | rw [hrA_c _ _ (Ne.symm h46)]
        refine zk_aload_n (pc := 34) 1 dX8_hourIn_34 rfl rfl ?_
        refine zk_iload_n (pc := 35) 3 dX8_hourIn_35 rfl rfl ?_
        refine zk_dup2 (pc := 36) dX8_hourIn_36 rfl rfl ?_
        refine zk_iaload (pc := 37) k dX8_hourIn_37 hs rfl (by omega) ?_
        rw [hrA_k]
        refine zk_iload (pc := 38) dX8_hourIn_38 rfl ?_
        refine zk_isub (pc := 40) dX8_hourIn_40 ?_
        refine zk_iastore (pc := 41) k dX8_hourIn_41 hs rfl (by omega) ?_
        refine zk_iload_n (pc := 42) 2 dX8_hourIn_42 rfl rfl ?_
        refine zk_iload (pc := 43) dX8_hourIn_43 rfl ?_
        refine zk_iadd (pc := 45) dX8_hourIn_45 ?_
        refine zs_istore_n (pc := 46) (ls' := [_, _, _, _, _]) 2 dX8_hourIn_46 rfl (by decide) rfl ?_
        refine zs_iinc (pc := 47) (ls' := [_, _, _, _, _]) dX8_hourIn_47 rfl (nI_1 k) (by decide) rfl ?_
        refine zk_goto (pc := 50) 4 dX8_hourIn_50 (by decide) ?_
        have e := ih (by omega)
        rw [zsum_s, ← hrA_s] at e
        have hh := hrV_a (hA k (by omega)).1 (hA k (by omega)).2 hL0 hL9
        first
          | (rw [← (hh.1 h19).2, ← (hh.1 h19).1] at e; exact e _)
          | (rw [← (hh.2 h19).2, ← (hh.2 h19).1] at e; exact e _)
  have e0 := loop 0 (Nat.zero_le _)
  rw [hrA_0] at e0
  refine zk_iconst (pc := 0) (v := 0) dX8_hourIn_0 (by decide) ?_
  refine zs_istore_n (pc := 1) (ls' := [_, _, _, _, _]) 2 dX8_hourIn_1 rfl (by decide) rfl ?_
  refine zk_iconst (pc := 2) (v := 0) dX8_hourIn_2 (by decide) ?_
  refine zs_istore_n (pc := 3) (ls' := [_, _, _, _, _]) 3 dX8_hourIn_3 rfl (by decide) rfl ?_
  exact e0 _
def thS (mu : Mem) (s C : Nat) : Mem := zfill (zk_up mu s 9 (mu s 9 + zsum C (mu s))) s C 0
theorem sp_X8_thunderIn {s : Nat} (hs : zk_shp[s]? = some (1, 17, [])) (h46 : s ≠ 46) (h53 : s ≠ 53) (h54 : s ≠ 54) {C : Nat} (hC : mu 46 17 = nI C) (hC8 : C ≤ 8) : zk_M (d + 1) RX8 cX8_thunderIn 3 (none) none 0 (zk_loc [.ref 46, .ref s] 3) [] mu lm (zk_R none (thS mu s C) lm) := by
  have loop : ∀ nu : Mem, nu 46 17 = nI C → ∀ k, k ≤ C → zk_M (d + 1) RX8 cX8_thunderIn 3 (none) none 14 [.ref 46, .ref s, .int (nI k)] [] (zfill nu s k 0) lm (zk_R none (zfill nu s C 0) lm) := by
    intro nu hC
    refine zk_ind C (fun k hk ih => ?_)
    refine zk_iload_n (pc := 14) 2 dX8_thunderIn_14 rfl rfl ?_
    refine zk_aload_n (pc := 15) 0 dX8_thunderIn_15 rfl rfl ?_
    refine zk_getI (pc := 16) dX8_thunderIn_16 flX8_70 rfl rfl ?_
    refine zk_icmp_ge (pc := 19) 32 dX8_thunderIn_19 (by decide) (fun h19 => ?_) (fun h19 => ?_)
    · rw [zfill_c _ _ _ _ (Ne.symm h46), hC, nIle (by omega) (by omega)] at h19
      refine zk_return (pc := 32) dX8_thunderIn_32 rfl (zk_rv0 ?_ rfl)
      rw [show k = C by omega]
    · rw [zfill_c _ _ _ _ (Ne.symm h46), hC, nIle (by omega) (by omega)] at h19
      refine zk_aload_n (pc := 22) 1 dX8_thunderIn_22 rfl rfl ?_
      refine zk_iload_n (pc := 23) 2 dX8_thunderIn_23 rfl rfl ?_
      refine zk_iconst (pc := 24) (v := 0) dX8_thunderIn_24 (by decide) ?_
      refine zk_iastore (pc := 25) k dX8_thunderIn_25 hs rfl (by omega) ?_
      refine zs_iinc (pc := 26) (ls' := [_, _, _]) dX8_thunderIn_26 rfl (nI_1 k) (by decide) rfl ?_
      refine zk_goto (pc := 29) 14 dX8_thunderIn_29 (by decide) ?_
      have e := ih (by omega)
      rw [← zfill_s] at e
      exact e
  have e0 := loop (zk_up mu s 9 (mu s 9 + zsum C (mu s))) (by rw [zup_c _ _ _ (Ne.symm h46)]; exact hC) 0 (Nat.zero_le _)
  rw [zfill_0] at e0
  refine zk_aload_n (pc := 0) 1 dX8_thunderIn_0 rfl rfl ?_
  refine zk_bipush (pc := 1) (v := 9) dX8_thunderIn_1 (by decide) ?_
  refine zk_dup2 (pc := 3) dX8_thunderIn_3 rfl rfl ?_
  refine zk_iaload (pc := 4) 9 dX8_thunderIn_4 hs rfl (by decide) ?_
  refine zk_aload_n (pc := 5) 0 dX8_thunderIn_5 rfl rfl ?_
  refine zk_aload_n (pc := 6) 1 dX8_thunderIn_6 rfl rfl ?_
  refine zk_callVI (pc := 7) dX8_thunderIn_7 mtX8_allIn lkX8_167 stX8_allIn (by rfl) (by rfl) [_] _ rfl rfl (Nat.le_of_ble_eq_true rfl) (Nat.le_of_ble_eq_true rfl) (sp_X8_allIn hs hC hC8 (by decide)) ?_
  refine zk_iadd (pc := 10) dX8_thunderIn_10 ?_
  refine zk_iastore (pc := 11) 9 dX8_thunderIn_11 hs rfl (by decide) ?_
  refine zk_iconst (pc := 12) (v := 0) dX8_thunderIn_12 (by decide) ?_
  refine zs_istore_n (pc := 13) (ls' := [_, _, _]) 2 dX8_thunderIn_13 rfl (by decide) rfl ?_
  exact e0
def ntM (mu : Mem) (n : Nat) : Mem := zk_up (zk_uc mu 57 (va_cpy (mu 55) (mu 57) 0 (17 * n) 17)) 46 24 (nI (n + 1))
theorem sp_X8_note {n : Nat} (hn : mu 46 24 = nI n) (hn4 : n < 40) : zk_M (d + 1) RX8 cX8_note 1 (none) none 0 (zk_loc [.ref 46] 1) [] mu lm (zk_R none (ntM mu n) lm) := by
  refine zk_aload_n (pc := 0) 0 dX8_note_0 rfl rfl ?_
  refine zk_getR (pc := 1) dX8_note_1 flX8_38 rfl rfl ?_
  refine zk_iconst (pc := 4) (v := 0) dX8_note_4 (by decide) ?_
  refine zk_aload_n (pc := 5) 0 dX8_note_5 rfl rfl ?_
  refine zk_getR (pc := 6) dX8_note_6 flX8_44 rfl rfl ?_
  refine zk_bipush (pc := 9) (v := 17) dX8_note_9 (by decide) ?_
  refine zk_aload_n (pc := 11) 0 dX8_note_11 rfl rfl ?_
  refine zk_getI (pc := 12) dX8_note_12 flX8_130 rfl rfl ?_
  refine zk_imul (pc := 15) dX8_note_15 ?_
  refine zk_bipush (pc := 16) (v := 17) dX8_note_16 (by decide) ?_
  rw [hn, show (17 : Int32) = nI 17 from rfl, pk_mul]
  refine zk_callSV (pc := 18) dX8_note_18 mtX8_bring lkX8_159 stX8_bring [_, _, _, _, _] _ rfl rfl (Nat.le_of_ble_eq_true rfl) (Nat.le_of_ble_eq_true rfl) (sp_X8_bring (a := 55) (b := 57) (i := 0) (j := 17 * n) (n := 17) rfl rfl (by decide) (by decide) (by omega)) ?_
  refine zk_aload_n (pc := 21) 0 dX8_note_21 rfl rfl ?_
  refine zk_dup (pc := 22) dX8_note_22 rfl ?_
  refine zk_getI (pc := 23) dX8_note_23 flX8_130 rfl rfl ?_
  refine zk_iconst (pc := 26) (v := 1) dX8_note_26 (by decide) ?_
  refine zk_iadd (pc := 27) dX8_note_27 ?_
  refine zk_putI (pc := 28) dX8_note_28 flX8_130 rfl rfl ?_
  refine zk_return (pc := 31) dX8_note_31 rfl (zk_rv0 ?_ rfl)
  unfold ntM
  rw [zuc_c _ _ (by decide), hn, nI_1]
def bgM (mu : Mem) : Mem := zk_uc mu 56 (va_cpy (mu 55) (mu 56) 0 0 17)
theorem sp_X8_begin  : zk_M (d + 1) RX8 cX8_begin 1 (none) none 0 (zk_loc [.ref 46] 1) [] mu lm (zk_R none (bgM mu) lm) := by
  refine zk_aload_n (pc := 0) 0 dX8_begin_0 rfl rfl ?_
  refine zk_getR (pc := 1) dX8_begin_1 flX8_38 rfl rfl ?_
  refine zk_iconst (pc := 4) (v := 0) dX8_begin_4 (by decide) ?_
  refine zk_aload_n (pc := 5) 0 dX8_begin_5 rfl rfl ?_
  refine zk_getR (pc := 6) dX8_begin_6 flX8_41 rfl rfl ?_
  refine zk_iconst (pc := 9) (v := 0) dX8_begin_9 (by decide) ?_
  refine zk_bipush (pc := 10) (v := 17) dX8_begin_10 (by decide) ?_
  refine zk_callSV (pc := 12) dX8_begin_12 mtX8_bring lkX8_159 stX8_bring [_, _, _, _, _] _ rfl rfl (Nat.le_of_ble_eq_true rfl) (Nat.le_of_ble_eq_true rfl) (sp_X8_bring (a := 55) (b := 56) (i := 0) (j := 0) (n := 17) rfl rfl (by decide) (by decide) (by decide)) ?_
  exact zk_return (pc := 15) dX8_begin_15 rfl (zk_rv0 rfl rfl)
end M41
