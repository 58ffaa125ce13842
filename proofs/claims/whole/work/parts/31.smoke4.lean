section M31
variable {d : Nat} {mu : Mem} {lm : MemL}
/-- the digest goes on over k places of f -/
def dgA (f : Nat → Int32) : Nat → Int64 → Int64
  | 0, h => h
  | k + 1, h => 31 * dgA f k h + (f k).toInt64
/-- a size: missing, or that many -/
def zSz (x : Int32) (N : Nat) : Prop := x = -1 ∨ ∃ j, j ≤ N ∧ x = nI j
def dgS (sz : Nat → Int32) (f : Nat → Nat → Int32) : Nat → Int64 → Int64
  | 0, h => h
  | k + 1, h => dgA (f k) (sz k).toNatClampNeg (31 * dgS sz f k h + (sz k).toInt64)
theorem sp_X7_digestOf {sc n b N : Nat} {rs : List Nat} (hs : zk_shp[sc]? = some (3, n, rs)) (hN : N < 1000) (hr : ∀ k, k < n → zRow (b + 2 * k) (b + 1 + 2 * k) N ∧ rs[k]? = some (b + 2 * k)) (hz : ∀ k, k < n → zSz (mu (b + 2 * k) 1) N) (h0 : Int64) : zk_M (d + 2) RX7 cX7_digestOf 7 (some .long) none 0 (zk_loc [.ref sc, .long h0] 7) [] mu lm (zk_R (some (.long (dgS (fun k => mu (b + 2 * k) 1) (fun k => mu (b + 1 + 2 * k)) n h0))) mu lm) := by
  have hn := zk_sm hs
  simp only at hn
  have loop : ∀ k, k ≤ n → ∀ b6 : Value, zk_M (d + 2) RX7 cX7_digestOf 7 (some .long) none 5 [.ref sc, .long h0, .retAddr 0, .long (dgS (fun k => mu (b + 2 * k) 1) (fun k => mu (b + 1 + 2 * k)) k h0), .retAddr 0, .int (nI k), b6] [] mu lm (zk_R (some (.long (dgS (fun k => mu (b + 2 * k) 1) (fun k => mu (b + 1 + 2 * k)) n h0))) mu lm) := by
    refine zk_ind n (fun k hk ih => ?_)
    intro b6
    have inner : k < n → ∀ h1 : Int64, h1 = 31 * dgS (fun k => mu (b + 2 * k) 1) (fun k => mu (b + 1 + 2 * k)) k h0 + (mu (b + 2 * k) 1).toInt64 → ∀ i, i ≤ (mu (b + 2 * k) 1).toNatClampNeg → zk_M (d + 2) RX7 cX7_digestOf 7 (some .long) none 30 [.ref sc, .long h0, .retAddr 0, .long (dgA (mu (b + 1 + 2 * k)) i h1), .retAddr 0, .int (nI k), .int (nI i)] [] mu lm (zk_R (some (.long (dgS (fun k => mu (b + 2 * k) 1) (fun k => mu (b + 1 + 2 * k)) n h0))) mu lm) := by
      intro hkn h1 eh1
      rcases hz k hkn with q | ⟨j, hj, q⟩
      · intro i hi
        rw [q] at hi
        have hi0 : i = 0 := by
          have : (-1 : Int32).toNatClampNeg = 0 := by decide
          omega
        subst hi0
        refine zk_iload (pc := 30) dX7_digestOf_30 rfl ?_
        refine zk_aload_n (pc := 32) 0 dX7_digestOf_32 rfl rfl ?_
        refine zk_iload (pc := 33) dX7_digestOf_33 rfl ?_
        refine zk_aaload (pc := 35) k dX7_digestOf_35 hs (by decide) rfl (by omega) (hr k (by omega)).2 ?_
        refine zk_getI (pc := 36) dX7_digestOf_36 flX7_96 (hr k (by omega)).1.1 rfl ?_
        refine zk_icmp_ge (pc := 39) 65 dX7_digestOf_39 (by decide) (fun h39 => ?_) (fun h39 => ?_)
        · skip
          refine zs_iinc (pc := 65) (ls' := [_, _, _, _, _, _, _]) dX7_digestOf_65 rfl (nI_1 k) (by decide) rfl ?_
          refine zk_goto (pc := 68) 5 dX7_digestOf_68 (by decide) ?_
          have e := ih (by omega) (.int (nI 0))
          rw [show dgS (fun k => mu (b + 2 * k) 1) (fun k => mu (b + 1 + 2 * k)) (k + 1) h0 = dgA (mu (b + 1 + 2 * k)) (mu (b + 2 * k) 1).toNatClampNeg (31 * dgS (fun k => mu (b + 2 * k) 1) (fun k => mu (b + 1 + 2 * k)) k h0 + (mu (b + 2 * k) 1).toInt64) from rfl, ← eh1, q] at e
          exact e
        · rw [q] at h39
          exact absurd (show (-1 : Int32) ≤ nI 0 by decide) h39 --
      · rw [q, nI_clamp (by omega)]
        refine zk_ind j (fun i hi ih2 => ?_)
        refine zk_iload (pc := 30) dX7_digestOf_30 rfl ?_
        refine zk_aload_n (pc := 32) 0 dX7_digestOf_32 rfl rfl ?_
        refine zk_iload (pc := 33) dX7_digestOf_33 rfl ?_
        refine zk_aaload (pc := 35) k dX7_digestOf_35 hs (by decide) rfl (by omega) (hr k (by omega)).2 ?_
        refine zk_getI (pc := 36) dX7_digestOf_36 flX7_96 (hr k (by omega)).1.1 rfl ?_
        refine zk_icmp_ge (pc := 39) 65 dX7_digestOf_39 (by decide) (fun h39 => ?_) (fun h39 => ?_)
        · rw [q, nIle (by omega) (by omega)] at h39
          refine zs_iinc (pc := 65) (ls' := [_, _, _, _, _, _, _]) dX7_digestOf_65 rfl (nI_1 k) (by decide) rfl ?_
          refine zk_goto (pc := 68) 5 dX7_digestOf_68 (by decide) ?_
          have e := ih (by omega) (.int (nI i))
          rw [show dgS (fun k => mu (b + 2 * k) 1) (fun k => mu (b + 1 + 2 * k)) (k + 1) h0 = dgA (mu (b + 1 + 2 * k)) (mu (b + 2 * k) 1).toNatClampNeg (31 * dgS (fun k => mu (b + 2 * k) 1) (fun k => mu (b + 1 + 2 * k)) k h0 + (mu (b + 2 * k) 1).toInt64) from rfl, ← eh1, q, nI_clamp (by omega), show j = i by omega] at e
          exact e
        · rw [q, nIle (by omega) (by omega)] at h39
          refine zk_ldc2 (pc := 42) dX7_digestOf_42 kcX7_316 ?_
          refine zk_lload_n (pc := 45) 3 dX7_digestOf_45 rfl rfl ?_
          refine zk_lmul (pc := 46) dX7_digestOf_46 ?_
          refine zk_aload_n (pc := 47) 0 dX7_digestOf_47 rfl rfl ?_
          refine zk_iload (pc := 48) dX7_digestOf_48 rfl ?_
          refine zk_aaload (pc := 50) k dX7_digestOf_50 hs (by decide) rfl (by omega) (hr k (by omega)).2 ?_
          refine zk_iload (pc := 51) dX7_digestOf_51 rfl ?_
          refine zk_callVI (pc := 53) dX7_digestOf_53 mtX4_read lkX7_76 stX4_read (hr k (by omega)).1.1 (by rfl) [_] _ rfl rfl (Nat.le_of_ble_eq_true rfl) (Nat.le_of_ble_eq_true rfl) (sp_read (hr k (by omega)).1 q hj (by omega)) ?_
          refine zk_i2l (pc := 56) dX7_digestOf_56 ?_
          refine zk_ladd (pc := 57) dX7_digestOf_57 ?_
          refine zs_lstore_n (pc := 58) (ls' := [_, _, _, _, _, _, _]) 3 dX7_digestOf_58 rfl (by decide) rfl ?_
          refine zs_iinc (pc := 59) (ls' := [_, _, _, _, _, _, _]) dX7_digestOf_59 rfl (nI_1 i) (by decide) rfl ?_
          refine zk_goto (pc := 62) 30 dX7_digestOf_62 (by decide) ?_
          exact ih2 (by omega)
    refine zk_iload (pc := 5) dX7_digestOf_5 rfl ?_
    refine zk_aload_n (pc := 7) 0 dX7_digestOf_7 rfl rfl ?_
    refine zk_alen (pc := 8) dX7_digestOf_8 hs (by decide) ?_
    refine zk_icmp_ge (pc := 9) 71 dX7_digestOf_9 (by decide) (fun h9 => ?_) (fun h9 => ?_)
    · rw [nIle (by omega) (by omega)] at h9
      refine zk_lload_n (pc := 71) 3 dX7_digestOf_71 rfl rfl ?_
      refine zk_lreturn (pc := 72) dX7_digestOf_72 rfl (zk_rl ?_)
      rw [show k = n by omega]
    · rw [nIle (by omega) (by omega)] at h9
      refine zk_ldc2 (pc := 12) dX7_digestOf_12 kcX7_316 ?_
      refine zk_lload_n (pc := 15) 3 dX7_digestOf_15 rfl rfl ?_
      refine zk_lmul (pc := 16) dX7_digestOf_16 ?_
      refine zk_aload_n (pc := 17) 0 dX7_digestOf_17 rfl rfl ?_
      refine zk_iload (pc := 18) dX7_digestOf_18 rfl ?_
      refine zk_aaload (pc := 20) k dX7_digestOf_20 hs (by decide) rfl (by omega) (hr k (by omega)).2 ?_
      refine zk_getI (pc := 21) dX7_digestOf_21 flX7_96 (hr k (by omega)).1.1 rfl ?_
      refine zk_i2l (pc := 24) dX7_digestOf_24 ?_
      refine zk_ladd (pc := 25) dX7_digestOf_25 ?_
      refine zs_lstore_n (pc := 26) (ls' := [_, _, _, _, _, _, _]) 3 dX7_digestOf_26 rfl (by decide) rfl ?_
      refine zk_iconst (pc := 27) (v := 0) dX7_digestOf_27 (by decide) ?_
      refine zs_istore (pc := 28) (ls' := [_, _, _, _, _, _, _]) 6 dX7_digestOf_28 (by decide) rfl ?_
      exact inner (by omega) _ rfl 0 (Nat.zero_le _)
  refine zk_lload_n (pc := 0) 1 dX7_digestOf_0 rfl rfl ?_
  refine zs_lstore_n (pc := 1) (ls' := [_, _, _, _, _, _, _]) 3 dX7_digestOf_1 rfl (by decide) rfl ?_
  refine zk_iconst (pc := 2) (v := 0) dX7_digestOf_2 (by decide) ?_
  refine zs_istore (pc := 3) (ls' := [_, _, _, _, _, _, _]) 5 dX7_digestOf_3 (by decide) rfl ?_
  exact loop 0 (Nat.zero_le _) _
theorem tkA_eq {mu mu' : Mem} {C : Nat} {v : Int32} {a : Nat → Int32} (h3 : mu' 23 = mu 23) (h4 : mu' 24 = mu 24) (h5 : mu' 25 = mu 25) : ∀ k, tkA mu' C v a k = tkA mu C v a k
  | 0 => rfl
  | k + 1 => by funext q; show (if q < C then _ else _) = (if q < C then _ else _); rw [h3, h4, h5]
theorem mstR_eq {g : (Nat → Int32) → Int32} {mu mu' : Mem} {C : Nat} {v : Int32} {a : Nat → Int32} (h3 : mu' 23 = mu 23) (h4 : mu' 24 = mu 24) (h5 : mu' 25 = mu 25) : ∀ k, mstR g mu' C v a k = mstR g mu C v a k
  | 0 => rfl
  | k + 1 => by show zmax _ _ = zmax _ _; rw [mstR_eq h3 h4 h5 k, tkA_eq h3 h4 h5]
/-- evenings of 0, 1, 2 turns each -/
def evn (mu : Mem) (C M : Nat) (v : Int32) (n : Nat) : Int32 := if n = 0 then zsum C (mu 27) else if n = 1 then mstR (opn1 C) mu C v (mu 27) (M + 1) else mstR (fun a => lstR (fun a' => mstR (opn1 C) mu C v a' (M + 1)) a (C + 1)) mu C v (mu 27) (M + 1)
theorem sp_play0 {C M : Nat} (hC : mu 23 5 = nI C) (hC8 : C ≤ 8) (hM : mu 23 6 = nI M) (hM6 : M ≤ 6) (v : Int32) : zk_M (d + 9) RX6 cX6_play 4 (some .int) none 0 (zk_loc [.ref 37, .ref 23, .int v, .int 0] 4) [] mu lm (tQ (evn mu C M v 0) mu lm 38) := by
  refine zk_aload_n (pc := 0) 1 dX6_play_0 rfl rfl ?_
  refine zk_getR (pc := 1) dX6_play_1 flX6_16 rfl rfl ?_
  refine zk_iconst (pc := 4) (v := 0) dX6_play_4 (by decide) ?_
  refine zk_aload_n (pc := 5) 0 dX6_play_5 rfl rfl ?_
  refine zk_getR (pc := 6) dX6_play_6 flX6_11 rfl rfl ?_
  refine zk_iconst (pc := 9) (v := 0) dX6_play_9 (by decide) ?_
  refine zk_aaload2 (pc := 10) 0 dX6_play_10 rfl rfl (by omega) rfl ?_
  refine zk_iconst (pc := 11) (v := 0) dX6_play_11 (by decide) ?_
  refine zk_bipush (pc := 12) (v := 8) dX6_play_12 (by decide) ?_
  refine zk_acopy (pc := 14) 0 0 8 dX6_play_14 lkX6_22 acN acS acI (a0 := 27) (a := 39) rfl rfl rfl rfl rfl (by omega) (by omega) (Nat.le_of_ble_eq_true rfl) zk_nfw ?_
  generalize hnu : zk_uc mu 39 (va_cpy (mu 27) (mu 39) 0 0 8) = nu
  have hc : ∀ c, c ≠ 39 → nu c = mu c := fun c h => by rw [← hnu, zuc_c _ _ h]
  have h39 : ∀ k, k < 8 → nu (39 + 0) k = mu 27 k := fun k hk => by rw [← hnu]; show zk_uc mu 39 _ 39 k = _; rw [zuc_s, va_cpy8 hk]
  have nC : nu 23 5 = nI C := by rw [hc 23 (by decide)]; exact hC
  have nM : nu 23 6 = nI M := by rw [hc 23 (by decide)]; exact hM
  refine zk_aload_n (pc := 17) 0 dX6_play_17 rfl rfl ?_
  refine zk_aload_n (pc := 18) 1 dX6_play_18 rfl rfl ?_
  refine zk_iload_n (pc := 19) 2 dX6_play_19 rfl rfl ?_
  refine zk_iload_n (pc := 20) 3 dX6_play_20 rfl rfl ?_
  refine zk_iconst (pc := 21) (v := 0) dX6_play_21 (by decide) ?_
  refine zk_callV (pc := 22) dX6_play_22 mtX6_mostByTalk lkX6_28 stX6_mostByTalk (by rfl) (by rfl) [_, _, _, _] _ rfl rfl (Nat.le_of_ble_eq_true rfl) (Nat.le_of_ble_eq_true rfl) (zk_deep (by omega) (sp_mbt0 (d := d + 7) (l := 0) (by omega) nC hC8 v)) (fun r m3 l3 q3 => ?_)
  obtain ⟨rfl, rfl, rfl⟩ := q3
  refine zk_ireturn (pc := 25) dX6_play_25 (Or.inl rfl) ⟨?_, rfl, fun c hcc => by rw [hc c (by omega)]⟩
  show _ = some (Value.int (zsum C (mu 27)))
  rw [zsum_cong (g := mu 27) (fun k hk => h39 k (by omega))]
theorem sp_play1 {C M : Nat} (hC : mu 23 5 = nI C) (hC8 : C ≤ 8) (hM : mu 23 6 = nI M) (hM6 : M ≤ 6) (v : Int32) : zk_M (d + 9) RX6 cX6_play 4 (some .int) none 0 (zk_loc [.ref 37, .ref 23, .int v, .int 1] 4) [] mu lm (tQ (evn mu C M v 1) mu lm 38) := by
  refine zk_aload_n (pc := 0) 1 dX6_play_0 rfl rfl ?_
  refine zk_getR (pc := 1) dX6_play_1 flX6_16 rfl rfl ?_
  refine zk_iconst (pc := 4) (v := 0) dX6_play_4 (by decide) ?_
  refine zk_aload_n (pc := 5) 0 dX6_play_5 rfl rfl ?_
  refine zk_getR (pc := 6) dX6_play_6 flX6_11 rfl rfl ?_
  refine zk_iconst (pc := 9) (v := 0) dX6_play_9 (by decide) ?_
  refine zk_aaload2 (pc := 10) 0 dX6_play_10 rfl rfl (by omega) rfl ?_
  refine zk_iconst (pc := 11) (v := 0) dX6_play_11 (by decide) ?_
  refine zk_bipush (pc := 12) (v := 8) dX6_play_12 (by decide) ?_
  refine zk_acopy (pc := 14) 0 0 8 dX6_play_14 lkX6_22 acN acS acI (a0 := 27) (a := 39) rfl rfl rfl rfl rfl (by omega) (by omega) (Nat.le_of_ble_eq_true rfl) zk_nfw ?_
  generalize hnu : zk_uc mu 39 (va_cpy (mu 27) (mu 39) 0 0 8) = nu
  have hc : ∀ c, c ≠ 39 → nu c = mu c := fun c h => by rw [← hnu, zuc_c _ _ h]
  have h39 : ∀ k, k < 8 → nu (39 + 0) k = mu 27 k := fun k hk => by rw [← hnu]; show zk_uc mu 39 _ 39 k = _; rw [zuc_s, va_cpy8 hk]
  have nC : nu 23 5 = nI C := by rw [hc 23 (by decide)]; exact hC
  have nM : nu 23 6 = nI M := by rw [hc 23 (by decide)]; exact hM
  refine zk_aload_n (pc := 17) 0 dX6_play_17 rfl rfl ?_
  refine zk_aload_n (pc := 18) 1 dX6_play_18 rfl rfl ?_
  refine zk_iload_n (pc := 19) 2 dX6_play_19 rfl rfl ?_
  refine zk_iload_n (pc := 20) 3 dX6_play_20 rfl rfl ?_
  refine zk_iconst (pc := 21) (v := 0) dX6_play_21 (by decide) ?_
  refine zk_callV (pc := 22) dX6_play_22 mtX6_mostByTalk lkX6_28 stX6_mostByTalk (by rfl) (by rfl) [_, _, _, _] _ rfl rfl (Nat.le_of_ble_eq_true rfl) (Nat.le_of_ble_eq_true rfl) (zk_deep (by omega) (sp_mbt (d := d + 2) (l := 0) (by omega) nC hC8 nM hM6 v 1 (by decide) (opn1 C) (mu 27) h39 (fun mu' a' g1 g2 => zk_deep (d := d + 4) (by omega) (sp_lbw1 (d := d + 2) (by omega) (by rw [g1 23 (by omega)]; exact nC) hC8 v a' g2)))) (fun r m3 l3 q3 => ?_)
  obtain ⟨rfl, rfl, h3⟩ := q3
  refine zk_ireturn (pc := 25) dX6_play_25 (Or.inl rfl) ⟨?_, rfl, fun c hcc => by rw [h3 c (by omega), hc c (by omega)]⟩
  show _ = some (Value.int (mstR (opn1 C) mu C v (mu 27) (M + 1)))
  rw [mstR_eq (hc 23 (by decide)) (hc 24 (by decide)) (hc 25 (by decide))]
theorem sp_play2 {C M : Nat} (hC : mu 23 5 = nI C) (hC8 : C ≤ 8) (hM : mu 23 6 = nI M) (hM6 : M ≤ 6) (v : Int32) : zk_M (d + 9) RX6 cX6_play 4 (some .int) none 0 (zk_loc [.ref 37, .ref 23, .int v, .int 2] 4) [] mu lm (tQ (evn mu C M v 2) mu lm 38) := by
  refine zk_aload_n (pc := 0) 1 dX6_play_0 rfl rfl ?_
  refine zk_getR (pc := 1) dX6_play_1 flX6_16 rfl rfl ?_
  refine zk_iconst (pc := 4) (v := 0) dX6_play_4 (by decide) ?_
  refine zk_aload_n (pc := 5) 0 dX6_play_5 rfl rfl ?_
  refine zk_getR (pc := 6) dX6_play_6 flX6_11 rfl rfl ?_
  refine zk_iconst (pc := 9) (v := 0) dX6_play_9 (by decide) ?_
  refine zk_aaload2 (pc := 10) 0 dX6_play_10 rfl rfl (by omega) rfl ?_
  refine zk_iconst (pc := 11) (v := 0) dX6_play_11 (by decide) ?_
  refine zk_bipush (pc := 12) (v := 8) dX6_play_12 (by decide) ?_
  refine zk_acopy (pc := 14) 0 0 8 dX6_play_14 lkX6_22 acN acS acI (a0 := 27) (a := 39) rfl rfl rfl rfl rfl (by omega) (by omega) (Nat.le_of_ble_eq_true rfl) zk_nfw ?_
  generalize hnu : zk_uc mu 39 (va_cpy (mu 27) (mu 39) 0 0 8) = nu
  have hc : ∀ c, c ≠ 39 → nu c = mu c := fun c h => by rw [← hnu, zuc_c _ _ h]
  have h39 : ∀ k, k < 8 → nu (39 + 0) k = mu 27 k := fun k hk => by rw [← hnu]; show zk_uc mu 39 _ 39 k = _; rw [zuc_s, va_cpy8 hk]
  have nC : nu 23 5 = nI C := by rw [hc 23 (by decide)]; exact hC
  have nM : nu 23 6 = nI M := by rw [hc 23 (by decide)]; exact hM
  refine zk_aload_n (pc := 17) 0 dX6_play_17 rfl rfl ?_
  refine zk_aload_n (pc := 18) 1 dX6_play_18 rfl rfl ?_
  refine zk_iload_n (pc := 19) 2 dX6_play_19 rfl rfl ?_
  refine zk_iload_n (pc := 20) 3 dX6_play_20 rfl rfl ?_
  refine zk_iconst (pc := 21) (v := 0) dX6_play_21 (by decide) ?_
  refine zk_callV (pc := 22) dX6_play_22 mtX6_mostByTalk lkX6_28 stX6_mostByTalk (by rfl) (by rfl) [_, _, _, _] _ rfl rfl (Nat.le_of_ble_eq_true rfl) (Nat.le_of_ble_eq_true rfl) (sp_mbt (d := d + 2) (l := 0) (by omega) nC hC8 nM hM6 v 2 (by decide) (fun a => lstR (fun a' => mstR (opn1 C) mu C v a' (M + 1)) a (C + 1)) (mu 27) h39 (fun mu1 a1 g1 g2 =>
    sp_lbw2 (d := d) (l := 1) (by omega) (by rw [g1 23 (by omega)]; exact nC) hC8 v (fun a' => mstR (opn1 C) mu C v a' (M + 1)) a1 g2 (fun mu2 a2 k1 k2 => by
      have e23 : mu2 23 = mu 23 := by rw [k1 23 (by omega), g1 23 (by omega), hc 23 (by decide)]
      have e24 : mu2 24 = mu 24 := by rw [k1 24 (by omega), g1 24 (by omega), hc 24 (by decide)]
      have e25 : mu2 25 = mu 25 := by rw [k1 25 (by omega), g1 25 (by omega), hc 25 (by decide)]
      have e := sp_mbt (d := d) (mu := mu2) (lm := lm) (l := 2) (C := C) (M := M) (by omega) (by rw [e23]; exact hC) hC8 (by rw [e23]; exact hM) hM6 v 1 (by decide) (opn1 C) a2 k2 (fun mu3 a3 j1 j2 => zk_deep (d := d + 2) (by omega) (sp_lbw1 (d := d) (by omega) (by rw [j1 23 (by omega), e23]; exact hC) hC8 v a3 j2))
      rw [mstR_eq e23 e24 e25] at e
      exact e))) (fun r m3 l3 q3 => ?_)
  obtain ⟨rfl, rfl, h3⟩ := q3
  refine zk_ireturn (pc := 25) dX6_play_25 (Or.inl rfl) ⟨?_, rfl, fun c hcc => by rw [h3 c (by omega), hc c (by omega)]⟩
  show _ = some (Value.int (mstR _ mu C v (mu 27) (M + 1)))
  rw [mstR_eq (hc 23 (by decide)) (hc 24 (by decide)) (hc 25 (by decide))]
end M31
