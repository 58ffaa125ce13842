section M53
variable {d : Nat} {mu : Mem} {lm : MemL}
/-- one who talks (i, none from M on), one who opens (c, none from C on) -/
def evT (mu : Mem) (M : Nat) (v : Int32) (a : Nat → Int32) (i : Nat) : Nat → Int32 := fun q => if i < M then zmin 999 (a q + shr (mu 53 i) (mu 54 i) (mu 46 17) v (nI q)) else a q
def evO (C : Nat) (a : Nat → Int32) (c : Nat) : Nat → Int32 := fun q => if c < C ∧ q = c then 0 else a q
def mvA (mu : Mem) (C M : Nat) (v : Int32) (a : Nat → Int32) (L : Nat) : Nat → Int32 := evO C (evT mu M v a (L % 7)) (L / 7 % 9)
def mvs (mu : Mem) (C M : Nat) (v : Int32) : Nat → (Nat → Int32) → Nat → Nat → Int32
  | 0, a, _ => a
  | r + 1, a, L => mvs mu C M v r (mvA mu C M v a L) (L / 63)
def evI (mu : Mem) (C : Nat) (a : Nat → Int32) (nu : Mem) : Prop := (∀ c, c ≠ 56 → nu c = mu c) ∧ ∀ q, q < C → nu 56 q = a q ∧ a q ≤ 999
theorem zmin_999 (x : Int32) : zmin 999 x ≤ 999 := by
  unfold zmin
  by_cases g : x < 999
  · rw [if_pos g]; simp only [zlt, zle] at *; omega
  · rw [if_neg g]; decide
theorem evI_T {mu : Mem} {C M i : Nat} {v : Int32} {a : Nat → Int32} {nu : Mem} (h : evI mu C a nu) (hi : i < M) : evI mu C (evT mu M v a i) (tkS nu 56 i v C) := by
  refine ⟨fun c hc => by unfold tkS; rw [zuc_c _ _ hc, h.1 c hc], fun q hq => ?_⟩
  unfold tkS evT
  rw [zuc_s, if_pos hq, if_pos hi, (h.2 q hq).1, h.1 53 (by decide), h.1 54 (by decide), h.1 46 (by decide)]
  exact ⟨rfl, zmin_999 _⟩
theorem evI_T' {mu : Mem} {C M i : Nat} {v : Int32} {a : Nat → Int32} {nu : Mem} (h : evI mu C a nu) (hi : ¬ i < M) : evI mu C (evT mu M v a i) nu := by
  refine ⟨h.1, fun q hq => ?_⟩
  unfold evT
  rw [if_neg hi]
  exact h.2 q hq
theorem evI_O {mu : Mem} {C c : Nat} {a : Nat → Int32} {nu : Mem} (h : evI mu C a nu) (hc : c < C) : evI mu C (evO C a c) (zk_up nu 56 c 0) := by
  refine ⟨fun z hz => by funext k; rw [zup_c _ _ _ hz, h.1 z hz], fun q hq => ?_⟩
  unfold evO
  by_cases e : q = c
  · subst e; rw [zup_s, if_pos ⟨hc, rfl⟩]; exact ⟨rfl, by decide⟩
  · rw [zup_k _ _ _ e, if_neg (fun z => e z.2)]; exact h.2 q hq
theorem evI_O' {mu : Mem} {C c : Nat} {a : Nat → Int32} {nu : Mem} (h : evI mu C a nu) (hc : ¬ c < C) : evI mu C (evO C a c) nu := by
  refine ⟨h.1, fun q hq => ?_⟩
  unfold evO
  rw [if_neg (fun z => hc z.1)]
  exact h.2 q hq
theorem evI_0 {mu nu : Mem} {C : Nat} (hu : ∀ c, c ≠ 56 → nu c = mu c) (hC8 : C ≤ 8) (hA : ∀ q, q < C → 0 ≤ mu 55 q ∧ mu 55 q ≤ 999) : evI mu C (mu 55) (bgM nu) := by
  refine ⟨fun c hc => by unfold bgM; rw [zuc_c _ _ hc, hu c hc], fun q hq => ⟨?_, (hA q hq).2⟩⟩
  unfold bgM
  rw [zuc_s, pk_cpy_in (Nat.zero_le _) (by omega), show (0 + (q - 0)) = q by omega, hu 55 (by decide)]
theorem sp_X8_eveningBy {nu : Mem} {C M : Nat} (hC : mu 46 17 = nI C) (hC8 : C ≤ 8) (hM : mu 46 18 = nI M) (hM6 : M ≤ 6) (hA : ∀ q, q < C → 0 ≤ mu 55 q ∧ mu 55 q ≤ 999) (hC3 : 3 ≤ C) (hS : ∀ j, j < M → ∃ q, q < C ∧ mu 54 j = nI q) (hu : ∀ c, c ≠ 56 → nu c = mu c) {n L : Nat} (hn : n ≤ 2) (hL : L < 100000) (v : Int32) : zk_M (d + 3) RX8 cX8_eveningBy 8 (some .int) none 0 (zk_loc [.ref 46, .int (nI L), .int v, .int (nI n)] 8) [] nu lm (kQ (zsum C (mvs mu C M v n (mu 55) L)) mu lm) := by
  have loop : ∀ (r : Nat) (a : Nat → Int32) (L k : Nat) (code : Int32) (b6 b7 : Value) (nu : Mem), k + r = n → L < 100000 → evI mu C a nu → zk_M (d + 3) RX8 cX8_eveningBy 8 (some .int) none 10 [.ref 46, .int code, .int v, .int (nI n), .int (nI L), .int (nI k), b6, b7] [] nu lm (kQ (zsum C (mvs mu C M v r a L)) mu lm) := by
    intro r
    induction r with
    | zero =>
      intro a L k code b6 b7 nu hk hL hi
      refine zk_iload (pc := 10) dX8_eveningBy_10 rfl ?_
      refine zk_iload_n (pc := 12) 3 dX8_eveningBy_12 rfl rfl ?_
      refine zk_icmp_ge (pc := 13) 83 dX8_eveningBy_13 (by decide) (fun h13 => ?_) (fun h13 => ?_)
      · skip
        refine zk_aload_n (pc := 83) 0 dX8_eveningBy_83 rfl rfl ?_
        refine zk_aload_n (pc := 84) 0 dX8_eveningBy_84 rfl rfl ?_
        refine zk_getR (pc := 85) dX8_eveningBy_85 flX8_41 rfl rfl ?_
        refine zk_callVI (pc := 88) dX8_eveningBy_88 mtX8_allIn lkX8_167 stX8_allIn (by rfl) (by rfl) [_] _ rfl rfl (Nat.le_of_ble_eq_true rfl) (Nat.le_of_ble_eq_true rfl) (sp_X8_allIn (c := 56) (n := 17) rfl (by rw [hi.1 46 (by decide)]; exact hC) hC8 (by decide)) ?_
        refine zk_ireturn (pc := 91) dX8_eveningBy_91 (Or.inl rfl) ⟨?_, rfl, hi.1⟩
        rw [zsum_cong (fun q hq => (hi.2 q hq).1)]
        rfl
      · rw [nIle (by omega) (by omega)] at h13
        exact absurd (show n ≤ k by omega) h13 --
    | succ r ih =>
      intro a L k code b6 b7 nu hk hL hi
      have hM2 : nu 46 18 = nI M := by rw [hi.1 46 (by decide)]; exact hM
      have hC2 : nu 46 17 = nI C := by rw [hi.1 46 (by decide)]; exact hC
      refine zk_iload (pc := 10) dX8_eveningBy_10 rfl ?_
      refine zk_iload_n (pc := 12) 3 dX8_eveningBy_12 rfl rfl ?_
      refine zk_icmp_ge (pc := 13) 83 dX8_eveningBy_13 (by decide) (fun h13 => ?_) (fun h13 => ?_)
      · rw [nIle (by omega) (by omega)] at h13
        exact absurd h13 (by omega) --
      · skip
        refine zk_iload (pc := 16) dX8_eveningBy_16 rfl ?_
        refine zk_bipush (pc := 18) (v := 7) dX8_eveningBy_18 (by decide) ?_
        refine zk_irem (pc := 20) dX8_eveningBy_20 (by decide) ?_
        rw [show (7 : Int32) = nI 7 from rfl, pk_rem (by omega) (by decide) (by decide)]
        refine zs_istore (pc := 21) (ls' := [_, _, _, _, _, _, _, _]) 6 dX8_eveningBy_21 (by decide) rfl ?_
        refine zk_iload (pc := 23) dX8_eveningBy_23 rfl ?_
        refine zk_bipush (pc := 25) (v := 7) dX8_eveningBy_25 (by decide) ?_
        refine zk_idiv (pc := 27) dX8_eveningBy_27 (by decide) ?_
        refine zk_bipush (pc := 28) (v := 9) dX8_eveningBy_28 (by decide) ?_
        refine zk_irem (pc := 30) dX8_eveningBy_30 (by decide) ?_
        rw [show (9 : Int32) = nI 9 from rfl, show (7 : Int32) = nI 7 from rfl, pk_div (by omega) (by decide) (by decide), pk_rem (by omega) (by decide) (by decide)]
        refine zs_istore (pc := 31) (ls' := [_, _, _, _, _, _, _, _]) 7 dX8_eveningBy_31 (by decide) rfl ?_
        refine zk_iload (pc := 33) dX8_eveningBy_33 rfl ?_
        refine zk_bipush (pc := 35) (v := 63) dX8_eveningBy_35 (by decide) ?_
        refine zk_idiv (pc := 37) dX8_eveningBy_37 (by decide) ?_
        rw [show (63 : Int32) = nI 63 from rfl, pk_div (by omega) (by decide) (by decide)]
        refine zs_istore (pc := 38) (ls' := [_, _, _, _, _, _, _, _]) 4 dX8_eveningBy_38 (by decide) rfl ?_
        refine zk_iload (pc := 40) dX8_eveningBy_40 rfl ?_
        refine zk_aload_n (pc := 42) 0 dX8_eveningBy_42 rfl rfl ?_
        refine zk_getI (pc := 43) dX8_eveningBy_43 flX8_63 rfl rfl ?_
        refine zk_icmp_ge (pc := 46) 60 dX8_eveningBy_46 (by decide) (fun h46 => ?_) (fun h46 => ?_)
        · rw [hM2, nIle (by omega) (by omega)] at h46
          refine zk_iload (pc := 60) dX8_eveningBy_60 rfl ?_
          refine zk_aload_n (pc := 62) 0 dX8_eveningBy_62 rfl rfl ?_
          refine zk_getI (pc := 63) dX8_eveningBy_63 flX8_70 rfl rfl ?_
          refine zk_icmp_ge (pc := 66) 77 dX8_eveningBy_66 (by decide) (fun h66 => ?_) (fun h66 => ?_)
          · rw [hC2, nIle (by omega) (by omega)] at h66
            refine zs_iinc (pc := 77) (ls' := [_, _, _, _, _, _, _, _]) dX8_eveningBy_77 rfl (nI_1 k) (by decide) rfl ?_
            refine zk_goto (pc := 80) 10 dX8_eveningBy_80 (by decide) ?_
            first
              | (refine ih (mvA mu C M v a L) (L / 63) (k + 1) _ _ _ _ (by omega) (by omega) ?_
                 unfold mvA
                 first
                   | exact evI_O (evI_T hi (by omega)) (by omega)
                   | exact evI_O' (evI_T hi (by omega)) (by omega)
                   | exact evI_O (evI_T' hi (by omega)) (by omega)
                   | exact evI_O' (evI_T' hi (by omega)) (by omega))
          · rw [hC2, nIle (by omega) (by omega)] at h66
            refine zk_aload_n (pc := 69) 0 dX8_eveningBy_69 rfl rfl ?_
            refine zk_getR (pc := 70) dX8_eveningBy_70 flX8_41 rfl rfl ?_
            refine zk_iload (pc := 73) dX8_eveningBy_73 rfl ?_
            refine zk_iconst (pc := 75) (v := 0) dX8_eveningBy_75 (by decide) ?_
            refine zk_iastore (pc := 76) (L / 7 % 9) dX8_eveningBy_76 rfl rfl (by omega) ?_
            refine zs_iinc (pc := 77) (ls' := [_, _, _, _, _, _, _, _]) dX8_eveningBy_77 rfl (nI_1 k) (by decide) rfl ?_
            refine zk_goto (pc := 80) 10 dX8_eveningBy_80 (by decide) ?_
            first
              | (refine ih (mvA mu C M v a L) (L / 63) (k + 1) _ _ _ _ (by omega) (by omega) ?_
                 unfold mvA
                 first
                   | exact evI_O (evI_T hi (by omega)) (by omega)
                   | exact evI_O' (evI_T hi (by omega)) (by omega)
                   | exact evI_O (evI_T' hi (by omega)) (by omega)
                   | exact evI_O' (evI_T' hi (by omega)) (by omega))
        · rw [hM2, nIle (by omega) (by omega)] at h46
          refine zk_aload_n (pc := 49) 0 dX8_eveningBy_49 rfl rfl ?_
          refine zk_aload_n (pc := 50) 0 dX8_eveningBy_50 rfl rfl ?_
          refine zk_getR (pc := 51) dX8_eveningBy_51 flX8_41 rfl rfl ?_
          refine zk_iload (pc := 54) dX8_eveningBy_54 rfl ?_
          refine zk_iload_n (pc := 56) 2 dX8_eveningBy_56 rfl rfl ?_
          obtain ⟨q, hq, hsq⟩ := hS (L % 7) (by omega)
          refine zk_callVV (pc := 57) dX8_eveningBy_57 mtX8_talkIn lkX8_174 stX8_talkIn (by rfl) (by rfl) [_, _, _] _ rfl rfl (Nat.le_of_ble_eq_true rfl) (Nat.le_of_ble_eq_true rfl) (sp_X8_talkIn (s := 56) rfl (by decide) (by decide) (by decide) hC2 hC8 hC3 (by omega) hq (by rw [hi.1 54 (by decide)]; exact hsq) (fun z hz => by rw [(hi.2 z hz).1]; exact (hi.2 z hz).2) v) ?_
          refine zk_iload (pc := 60) dX8_eveningBy_60 rfl ?_
          refine zk_aload_n (pc := 62) 0 dX8_eveningBy_62 rfl rfl ?_
          refine zk_getI (pc := 63) dX8_eveningBy_63 flX8_70 rfl rfl ?_
          refine zk_icmp_ge (pc := 66) 77 dX8_eveningBy_66 (by decide) (fun h66 => ?_) (fun h66 => ?_)
          · rw [show tkS nu 56 (L % 7) v C 46 17 = nI C from by unfold tkS; rw [zuc_c _ _ (by decide)]; exact hC2, nIle (by omega) (by omega)] at h66
            refine zs_iinc (pc := 77) (ls' := [_, _, _, _, _, _, _, _]) dX8_eveningBy_77 rfl (nI_1 k) (by decide) rfl ?_
            refine zk_goto (pc := 80) 10 dX8_eveningBy_80 (by decide) ?_
            first
              | (refine ih (mvA mu C M v a L) (L / 63) (k + 1) _ _ _ _ (by omega) (by omega) ?_
                 unfold mvA
                 first
                   | exact evI_O (evI_T hi (by omega)) (by omega)
                   | exact evI_O' (evI_T hi (by omega)) (by omega)
                   | exact evI_O (evI_T' hi (by omega)) (by omega)
                   | exact evI_O' (evI_T' hi (by omega)) (by omega))
          · rw [show tkS nu 56 (L % 7) v C 46 17 = nI C from by unfold tkS; rw [zuc_c _ _ (by decide)]; exact hC2, nIle (by omega) (by omega)] at h66
            refine zk_aload_n (pc := 69) 0 dX8_eveningBy_69 rfl rfl ?_
            refine zk_getR (pc := 70) dX8_eveningBy_70 flX8_41 rfl rfl ?_
            refine zk_iload (pc := 73) dX8_eveningBy_73 rfl ?_
            refine zk_iconst (pc := 75) (v := 0) dX8_eveningBy_75 (by decide) ?_
            refine zk_iastore (pc := 76) (L / 7 % 9) dX8_eveningBy_76 rfl rfl (by omega) ?_
            refine zs_iinc (pc := 77) (ls' := [_, _, _, _, _, _, _, _]) dX8_eveningBy_77 rfl (nI_1 k) (by decide) rfl ?_
            refine zk_goto (pc := 80) 10 dX8_eveningBy_80 (by decide) ?_
            first
              | (refine ih (mvA mu C M v a L) (L / 63) (k + 1) _ _ _ _ (by omega) (by omega) ?_
                 unfold mvA
                 first
                   | exact evI_O (evI_T hi (by omega)) (by omega)
                   | exact evI_O' (evI_T hi (by omega)) (by omega)
                   | exact evI_O (evI_T' hi (by omega)) (by omega)
                   | exact evI_O' (evI_T' hi (by omega)) (by omega))
  refine zk_aload_n (pc := 0) 0 dX8_eveningBy_0 rfl rfl ?_
  refine zk_callVV (pc := 1) dX8_eveningBy_1 mtX8_begin lkX8_184 stX8_begin (by rfl) (by rfl) [] _ rfl rfl (Nat.le_of_ble_eq_true rfl) (Nat.le_of_ble_eq_true rfl) (sp_X8_begin) ?_
  refine zk_iload_n (pc := 4) 1 dX8_eveningBy_4 rfl rfl ?_
  refine zs_istore (pc := 5) (ls' := [_, _, _, _, _, _, _, _]) 4 dX8_eveningBy_5 (by decide) rfl ?_
  refine zk_iconst (pc := 7) (v := 0) dX8_eveningBy_7 (by decide) ?_
  refine zs_istore (pc := 8) (ls' := [_, _, _, _, _, _, _, _]) 5 dX8_eveningBy_8 (by decide) rfl ?_
  exact loop n (mu 55) L 0 _ _ _ _ (by omega) hL (evI_0 hu hC8 hA)
def isT (C M i c : Nat) : Bool := (decide (i < M) || decide (i = 6)) && (decide (c < C) || decide (c = 8))
theorem isT_iff {C M i c : Nat} : isT C M i c = true ↔ ((i < M ∨ i = 6) ∧ (c < C ∨ c = 8)) := by simp [isT]
theorem sp_X8_isTurn {C M : Nat} (hC : mu 46 17 = nI C) (hC8 : C ≤ 8) (hM : mu 46 18 = nI M) (hM6 : M ≤ 6) {i c : Nat} (hi : i < 7) (hc : c < 9) : zk_M d RX8 cX8_isTurn 4 (some .boolean) none 0 (zk_loc [.ref 46, .int (nI i + 7 * nI c)] 4) [] mu lm (zk_R (some (.int (zb (isT C M i c)))) mu lm) := by
  rw [show (7 : Int32) = nI 7 from rfl, pk_mul, nI_add]
  refine zk_iload_n (pc := 0) 1 dX8_isTurn_0 rfl rfl ?_
  refine zk_bipush (pc := 1) (v := 7) dX8_isTurn_1 (by decide) ?_
  refine zk_irem (pc := 3) dX8_isTurn_3 (by decide) ?_
  rw [show (7 : Int32) = nI 7 from rfl, pk_rem (by omega) (by decide) (by decide), show (i + 7 * c) % 7 = i by omega]
  refine zs_istore_n (pc := 4) (ls' := [_, _, _, _]) 2 dX8_isTurn_4 rfl (by decide) rfl ?_
  refine zk_iload_n (pc := 5) 1 dX8_isTurn_5 rfl rfl ?_
  refine zk_bipush (pc := 6) (v := 7) dX8_isTurn_6 (by decide) ?_
  refine zk_idiv (pc := 8) dX8_isTurn_8 (by decide) ?_
  rw [show (7 : Int32) = nI 7 from rfl, pk_div (by omega) (by decide) (by decide), show (i + 7 * c) / 7 = c by omega]
  refine zs_istore_n (pc := 9) (ls' := [_, _, _, _]) 3 dX8_isTurn_9 rfl (by decide) rfl ?_
  refine zk_iload_n (pc := 10) 2 dX8_isTurn_10 rfl rfl ?_
  refine zk_aload_n (pc := 11) 0 dX8_isTurn_11 rfl rfl ?_
  refine zk_getI (pc := 12) dX8_isTurn_12 flX8_63 rfl rfl ?_
  refine zk_icmp_lt (pc := 15) 24 dX8_isTurn_15 (by decide) (fun h15 => ?_) (fun h15 => ?_)
  · rw [hM, nIlt (by omega) (by omega)] at h15
    refine zk_iload_n (pc := 24) 3 dX8_isTurn_24 rfl rfl ?_
    refine zk_aload_n (pc := 25) 0 dX8_isTurn_25 rfl rfl ?_
    refine zk_getI (pc := 26) dX8_isTurn_26 flX8_70 rfl rfl ?_
    refine zk_icmp_lt (pc := 29) 38 dX8_isTurn_29 (by decide) (fun h29 => ?_) (fun h29 => ?_)
    · rw [hC, nIlt (by omega) (by omega)] at h29
      refine zk_iconst (pc := 38) (v := 1) dX8_isTurn_38 (by decide) ?_
      refine zk_goto (pc := 39) 43 dX8_isTurn_39 (by decide) ?_
      refine zk_ireturn (pc := 43) dX8_isTurn_43 (Or.inr ⟨rfl, by first | exact Or.inl rfl | exact Or.inr rfl⟩) (zk_ri ?_)
      first
        | (have hz : zb (isT C M i c) = 1 := zb_t (isT_iff.mpr (by omega))
           rw [hz])
        | (have hz : zb (isT C M i c) = 0 := zb_f (fun z => by have := isT_iff.mp z; omega)
           rw [hz])
    · rw [hC, nIlt (by omega) (by omega)] at h29
      refine zk_iload_n (pc := 32) 3 dX8_isTurn_32 rfl rfl ?_
      refine zk_bipush (pc := 33) (v := 8) dX8_isTurn_33 (by decide) ?_
      refine zk_icmp_ne (pc := 35) 42 dX8_isTurn_35 (by decide) (fun h35 => ?_) (fun h35 => ?_)
      · rw [show (8 : Int32) = nI 8 from rfl, nIeq (by omega) (by omega)] at h35
        refine zk_iconst (pc := 42) (v := 0) dX8_isTurn_42 (by decide) ?_
        refine zk_ireturn (pc := 43) dX8_isTurn_43 (Or.inr ⟨rfl, by first | exact Or.inl rfl | exact Or.inr rfl⟩) (zk_ri ?_)
        first
          | (have hz : zb (isT C M i c) = 1 := zb_t (isT_iff.mpr (by omega))
             rw [hz])
          | (have hz : zb (isT C M i c) = 0 := zb_f (fun z => by have := isT_iff.mp z; omega)
             rw [hz])
      · rw [show (8 : Int32) = nI 8 from rfl, nIeq (by omega) (by omega)] at h35
        refine zk_iconst (pc := 38) (v := 1) dX8_isTurn_38 (by decide) ?_
        refine zk_goto (pc := 39) 43 dX8_isTurn_39 (by decide) ?_
        refine zk_ireturn (pc := 43) dX8_isTurn_43 (Or.inr ⟨rfl, by first | exact Or.inl rfl | exact Or.inr rfl⟩) (zk_ri ?_)
        first
          | (have hz : zb (isT C M i c) = 1 := zb_t (isT_iff.mpr (by omega))
             rw [hz])
          | (have hz : zb (isT C M i c) = 0 := zb_f (fun z => by have := isT_iff.mp z; omega)
             rw [hz])
  · rw [hM, nIlt (by omega) (by omega)] at h15
    refine zk_iload_n (pc := 18) 2 dX8_isTurn_18 rfl rfl ?_
    refine zk_bipush (pc := 19) (v := 6) dX8_isTurn_19 (by decide) ?_
    refine zk_icmp_ne (pc := 21) 42 dX8_isTurn_21 (by decide) (fun h21 => ?_) (fun h21 => ?_)
    · rw [show (6 : Int32) = nI 6 from rfl, nIeq (by omega) (by omega)] at h21
      refine zk_iconst (pc := 42) (v := 0) dX8_isTurn_42 (by decide) ?_
      refine zk_ireturn (pc := 43) dX8_isTurn_43 (Or.inr ⟨rfl, by first | exact Or.inl rfl | exact Or.inr rfl⟩) (zk_ri ?_)
      first
        | (have hz : zb (isT C M i c) = 1 := zb_t (isT_iff.mpr (by omega))
           rw [hz])
        | (have hz : zb (isT C M i c) = 0 := zb_f (fun z => by have := isT_iff.mp z; omega)
           rw [hz])
    · rw [show (6 : Int32) = nI 6 from rfl, nIeq (by omega) (by omega)] at h21
      refine zk_iload_n (pc := 24) 3 dX8_isTurn_24 rfl rfl ?_
      refine zk_aload_n (pc := 25) 0 dX8_isTurn_25 rfl rfl ?_
      refine zk_getI (pc := 26) dX8_isTurn_26 flX8_70 rfl rfl ?_
      refine zk_icmp_lt (pc := 29) 38 dX8_isTurn_29 (by decide) (fun h29 => ?_) (fun h29 => ?_)
      · rw [hC, nIlt (by omega) (by omega)] at h29
        refine zk_iconst (pc := 38) (v := 1) dX8_isTurn_38 (by decide) ?_
        refine zk_goto (pc := 39) 43 dX8_isTurn_39 (by decide) ?_
        refine zk_ireturn (pc := 43) dX8_isTurn_43 (Or.inr ⟨rfl, by first | exact Or.inl rfl | exact Or.inr rfl⟩) (zk_ri ?_)
        first
          | (have hz : zb (isT C M i c) = 1 := zb_t (isT_iff.mpr (by omega))
             rw [hz])
          | (have hz : zb (isT C M i c) = 0 := zb_f (fun z => by have := isT_iff.mp z; omega)
             rw [hz])
      · rw [hC, nIlt (by omega) (by omega)] at h29
        refine zk_iload_n (pc := 32) 3 dX8_isTurn_32 rfl rfl ?_
        refine zk_bipush (pc := 33) (v := 8) dX8_isTurn_33 (by decide) ?_
        refine zk_icmp_ne (pc := 35) 42 dX8_isTurn_35 (by decide) (fun h35 => ?_) (fun h35 => ?_)
        · rw [show (8 : Int32) = nI 8 from rfl, nIeq (by omega) (by omega)] at h35
          refine zk_iconst (pc := 42) (v := 0) dX8_isTurn_42 (by decide) ?_
          refine zk_ireturn (pc := 43) dX8_isTurn_43 (Or.inr ⟨rfl, by first | exact Or.inl rfl | exact Or.inr rfl⟩) (zk_ri ?_)
          first
            | (have hz : zb (isT C M i c) = 1 := zb_t (isT_iff.mpr (by omega))
               rw [hz])
            | (have hz : zb (isT C M i c) = 0 := zb_f (fun z => by have := isT_iff.mp z; omega)
               rw [hz])
        · rw [show (8 : Int32) = nI 8 from rfl, nIeq (by omega) (by omega)] at h35
          refine zk_iconst (pc := 38) (v := 1) dX8_isTurn_38 (by decide) ?_
          refine zk_goto (pc := 39) 43 dX8_isTurn_39 (by decide) ?_
          refine zk_ireturn (pc := 43) dX8_isTurn_43 (Or.inr ⟨rfl, by first | exact Or.inl rfl | exact Or.inr rfl⟩) (zk_ri ?_)
          first
            | (have hz : zb (isT C M i c) = 1 := zb_t (isT_iff.mpr (by omega))
               rw [hz])
            | (have hz : zb (isT C M i c) = 0 := zb_f (fun z => by have := isT_iff.mp z; omega)
               rw [hz])
def lsR (C M : Nat) (g : Nat → Nat → Int32) (i : Nat) : Nat → Int32
  | 0 => 9999
  | c + 1 => zmin (lsR C M g i c) (if isT C M i c then g i c else 9999)
theorem lsR_s (C M : Nat) (g : Nat → Nat → Int32) (i c : Nat) : lsR C M g i (c + 1) = zmin (lsR C M g i c) (if isT C M i c then g i c else 9999) := rfl
def msR (C M : Nat) (g : Nat → Nat → Int32) : Nat → Int32
  | 0 => -1
  | i + 1 => if lsR C M g i 9 < 9999 ∧ msR C M g i < lsR C M g i 9 then lsR C M g i 9 else msR C M g i
theorem msR_s (C M : Nat) (g : Nat → Nat → Int32) (i : Nat) : msR C M g (i + 1) = if lsR C M g i 9 < 9999 ∧ msR C M g i < lsR C M g i 9 then lsR C M g i 9 else msR C M g i := rfl
theorem zmin_a {x y : Int32} : (x ≤ y → x = zmin x y) ∧ (¬ x ≤ y → y = zmin x y) := by
  unfold zmin
  constructor
  · intro h
    rw [if_neg (by simp only [zlt, zle] at *; omega)]
  · intro h
    rw [if_pos (by simp only [zlt, zle] at *; omega)]
def g1 (mu : Mem) (C M : Nat) (v : Int32) : Nat → Nat → Int32 := fun i c => zsum C (mvs mu C M v 1 (mu 55) (i + 7 * c))
def g2 (mu : Mem) (C M : Nat) (v : Int32) (F : Nat) : Nat → Nat → Int32 := fun i c => zsum C (mvs mu C M v 2 (mu 55) (F + 63 * (i + 7 * c)))
theorem sp_lastTurn1 {C M : Nat} (hC : mu 46 17 = nI C) (hC8 : C ≤ 8) (hM : mu 46 18 = nI M) (hM6 : M ≤ 6) (hA : ∀ q, q < C → 0 ≤ mu 55 q ∧ mu 55 q ≤ 999) (hC3 : 3 ≤ C) (hS : ∀ j, j < M → ∃ q, q < C ∧ mu 54 j = nI q)  {nu : Mem} (hu : ∀ c, c ≠ 56 → nu c = mu c) (v : Int32) : zk_M (d + 4) RX8 cX8_lastTurn 9 (some .int) none 0 (zk_loc [.ref 46, .int v, .int (-1)] 9) [] nu lm (kQ (msR C M (g1 mu C M v) 7) mu lm) := by
  have l1 : ∀ i, i ≤ 7 → ∀ (nu : Mem) (b5 b6 b7 b8 : Value), (∀ c, c ≠ 56 → nu c = mu c) → zk_M (d + 4) RX8 cX8_lastTurn 9 (some .int) none 5 [.ref 46, .int v, .int (-1), .int (msR C M (g1 mu C M v) i), .int (nI i), b5, b6, b7, b8] [] nu lm (kQ (msR C M (g1 mu C M v) 7) mu lm) := by
    refine zk_ind 7 (fun i hi ih => ?_)
    intro nu b5 b6 b7 b8 hu
    have l2 : i < 7 → ∀ c, c ≤ 9 → ∀ (nu : Mem) (b7 b8 : Value), (∀ c, c ≠ 56 → nu c = mu c) → zk_M (d + 4) RX8 cX8_lastTurn 9 (some .int) none 20 [.ref 46, .int v, .int (-1), .int (msR C M (g1 mu C M v) i), .int (nI i), .int (lsR C M (g1 mu C M v) i c), .int (nI c), b7, b8] [] nu lm (kQ (msR C M (g1 mu C M v) 7) mu lm) := by
      intro hi7
      refine zk_ind 9 (fun c hc ihc => ?_)
      intro nu b7 b8 hu
      have hM2 : nu 46 18 = nI M := by rw [hu 46 (by decide)]; exact hM
      have hC2 : nu 46 17 = nI C := by rw [hu 46 (by decide)]; exact hC
      refine zk_iload (pc := 20) dX8_lastTurn_20 rfl ?_
      refine zk_bipush (pc := 22) (v := 9) dX8_lastTurn_22 (by decide) ?_
      refine zk_icmp_ge (pc := 24) 118 dX8_lastTurn_24 (by decide) (fun h24 => ?_) (fun h24 => ?_)
      · rw [show (9 : Int32) = nI 9 from rfl, nIle (by omega) (by omega)] at h24
        obtain rfl : c = 9 := by omega
        refine zk_iload (pc := 118) dX8_lastTurn_118 rfl ?_
        refine zk_sipush (pc := 120) (v := 9999) dX8_lastTurn_120 (by decide) ?_
        refine zk_icmp_ge (pc := 123) 137 dX8_lastTurn_123 (by decide) (fun h123 => ?_) (fun h123 => ?_)
        · rw [← znl] at h123
          refine zk_iload_n (pc := 137) 3 dX8_lastTurn_137 rfl rfl ?_
          refine zs_istore_n (pc := 138) (ls' := [_, _, _, _, _, _, _, _, _]) 3 dX8_lastTurn_138 rfl (by decide) rfl ?_
          refine zs_iinc (pc := 139) (ls' := [_, _, _, _, _, _, _, _, _]) dX8_lastTurn_139 rfl (nI_1 i) (by decide) rfl ?_
          refine zk_goto (pc := 142) 5 dX8_lastTurn_142 (by decide) ?_
          have e := ih hi7 nu (.int (lsR C M (g1 mu C M v) i 9)) (.int (nI 9)) b7 b8 hu
          rw [msR_s] at e
          first
            | (have hz : ¬ (lsR C M (g1 mu C M v) i 9 < 9999 ∧ msR C M (g1 mu C M v) i < lsR C M (g1 mu C M v) i 9) := fun z => h123 z.1
               rw [if_neg hz] at e; exact e)
            | (have hz : ¬ (lsR C M (g1 mu C M v) i 9 < 9999 ∧ msR C M (g1 mu C M v) i < lsR C M (g1 mu C M v) i 9) := fun z => h129 z.2
               rw [if_neg hz] at e; exact e)
            | (have hz : lsR C M (g1 mu C M v) i 9 < 9999 ∧ msR C M (g1 mu C M v) i < lsR C M (g1 mu C M v) i 9 := ⟨h123, h129⟩
               rw [if_pos hz] at e; exact e)
        · rw [← zltn] at h123
          refine zk_iload (pc := 126) dX8_lastTurn_126 rfl ?_
          refine zk_iload_n (pc := 128) 3 dX8_lastTurn_128 rfl rfl ?_
          refine zk_icmp_le (pc := 129) 137 dX8_lastTurn_129 (by decide) (fun h129 => ?_) (fun h129 => ?_)
          · rw [← znl] at h129
            refine zk_iload_n (pc := 137) 3 dX8_lastTurn_137 rfl rfl ?_
            refine zs_istore_n (pc := 138) (ls' := [_, _, _, _, _, _, _, _, _]) 3 dX8_lastTurn_138 rfl (by decide) rfl ?_
            refine zs_iinc (pc := 139) (ls' := [_, _, _, _, _, _, _, _, _]) dX8_lastTurn_139 rfl (nI_1 i) (by decide) rfl ?_
            refine zk_goto (pc := 142) 5 dX8_lastTurn_142 (by decide) ?_
            have e := ih hi7 nu (.int (lsR C M (g1 mu C M v) i 9)) (.int (nI 9)) b7 b8 hu
            rw [msR_s] at e
            first
              | (have hz : ¬ (lsR C M (g1 mu C M v) i 9 < 9999 ∧ msR C M (g1 mu C M v) i < lsR C M (g1 mu C M v) i 9) := fun z => h123 z.1
                 rw [if_neg hz] at e; exact e)
              | (have hz : ¬ (lsR C M (g1 mu C M v) i 9 < 9999 ∧ msR C M (g1 mu C M v) i < lsR C M (g1 mu C M v) i 9) := fun z => h129 z.2
                 rw [if_neg hz] at e; exact e)
              | (have hz : lsR C M (g1 mu C M v) i 9 < 9999 ∧ msR C M (g1 mu C M v) i < lsR C M (g1 mu C M v) i 9 := ⟨h123, h129⟩
                 rw [if_pos hz] at e; exact e)
          · rw [← zltn] at h129
            refine zk_iload (pc := 132) dX8_lastTurn_132 rfl ?_
            refine zk_goto (pc := 134) 138 dX8_lastTurn_134 (by decide) ?_
            refine zs_istore_n (pc := 138) (ls' := [_, _, _, _, _, _, _, _, _]) 3 dX8_lastTurn_138 rfl (by decide) rfl ?_
            refine zs_iinc (pc := 139) (ls' := [_, _, _, _, _, _, _, _, _]) dX8_lastTurn_139 rfl (nI_1 i) (by decide) rfl ?_
            refine zk_goto (pc := 142) 5 dX8_lastTurn_142 (by decide) ?_
            have e := ih hi7 nu (.int (lsR C M (g1 mu C M v) i 9)) (.int (nI 9)) b7 b8 hu
            rw [msR_s] at e
            first
              | (have hz : ¬ (lsR C M (g1 mu C M v) i 9 < 9999 ∧ msR C M (g1 mu C M v) i < lsR C M (g1 mu C M v) i 9) := fun z => h123 z.1
                 rw [if_neg hz] at e; exact e)
              | (have hz : ¬ (lsR C M (g1 mu C M v) i 9 < 9999 ∧ msR C M (g1 mu C M v) i < lsR C M (g1 mu C M v) i 9) := fun z => h129 z.2
                 rw [if_neg hz] at e; exact e)
              | (have hz : lsR C M (g1 mu C M v) i 9 < 9999 ∧ msR C M (g1 mu C M v) i < lsR C M (g1 mu C M v) i 9 := ⟨h123, h129⟩
                 rw [if_pos hz] at e; exact e)
      · rw [show (9 : Int32) = nI 9 from rfl, nIle (by omega) (by omega)] at h24
        refine zk_aload_n (pc := 27) 0 dX8_lastTurn_27 rfl rfl ?_
        refine zk_iload (pc := 28) dX8_lastTurn_28 rfl ?_
        refine zk_bipush (pc := 30) (v := 7) dX8_lastTurn_30 (by decide) ?_
        refine zk_iload (pc := 32) dX8_lastTurn_32 rfl ?_
        refine zk_imul (pc := 34) dX8_lastTurn_34 ?_
        refine zk_iadd (pc := 35) dX8_lastTurn_35 ?_
        refine zk_callVI (pc := 36) dX8_lastTurn_36 mtX8_isTurn lkX8_219 stX8_isTurn (by rfl) (by rfl) [_] _ rfl rfl (Nat.le_of_ble_eq_true rfl) (Nat.le_of_ble_eq_true rfl) (sp_X8_isTurn hC2 hC8 hM2 hM6 (by omega) (by omega)) ?_
        refine zs_istore (pc := 39) (ls' := [_, _, _, _, _, _, _, _, _]) 7 dX8_lastTurn_39 (by decide) rfl ?_
        refine zk_iload (pc := 41) dX8_lastTurn_41 rfl ?_
        refine zk_if_eq (pc := 43) 91 dX8_lastTurn_43 (by decide) (fun h43 => ?_) (fun h43 => ?_)
        · rw [zb_e] at h43
          refine zk_sipush (pc := 91) (v := 9999) dX8_lastTurn_91 (by decide) ?_
          refine zs_istore (pc := 94) (ls' := [_, _, _, _, _, _, _, _, _]) 8 dX8_lastTurn_94 (by decide) rfl ?_
          refine zk_iload (pc := 96) dX8_lastTurn_96 rfl ?_
          refine zk_iload (pc := 98) dX8_lastTurn_98 rfl ?_
          refine zk_icmp_ge (pc := 100) 108 dX8_lastTurn_100 (by decide) (fun h100 => ?_) (fun h100 => ?_)
          · skip
            refine zk_iload (pc := 108) dX8_lastTurn_108 rfl ?_
            refine zs_istore (pc := 110) (ls' := [_, _, _, _, _, _, _, _, _]) 5 dX8_lastTurn_110 (by decide) rfl ?_
            refine zs_iinc (pc := 112) (ls' := [_, _, _, _, _, _, _, _, _]) dX8_lastTurn_112 rfl (nI_1 c) (by decide) rfl ?_
            refine zk_goto (pc := 115) 20 dX8_lastTurn_115 (by decide) ?_
            first
              | (have hz : (if isT C M i c then (g1 mu C M v) i c else 9999) = 9999 := if_neg h43
                 have e := ihc (by omega) nu (.int (zb (isT C M i c))) (.int 9999) hu
                 rw [lsR_s, hz] at e
                 first | (rw [← zmin_a.1 h100] at e; exact e) | (rw [← zmin_a.2 h100] at e; exact e))
              | (have hz : (if isT C M i c then (g1 mu C M v) i c else 9999) = (g1 mu C M v) i c := if_pos h43
                 have e := ihc (by omega) m3 (.int (zb (isT C M i c))) (.int ((g1 mu C M v) i c)) (fun c hc => g3 c hc)
                 rw [lsR_s, hz] at e
                 first
                   | (have h1 : lsR C M (g1 mu C M v) i c ≤ (g1 mu C M v) i c := h100
                      rw [← zmin_a.1 h1] at e; exact e)
                   | (have h1 : ¬ lsR C M (g1 mu C M v) i c ≤ (g1 mu C M v) i c := h100
                      rw [← zmin_a.2 h1] at e; exact e))
          · skip
            refine zk_iload (pc := 103) dX8_lastTurn_103 rfl ?_
            refine zk_goto (pc := 105) 110 dX8_lastTurn_105 (by decide) ?_
            refine zs_istore (pc := 110) (ls' := [_, _, _, _, _, _, _, _, _]) 5 dX8_lastTurn_110 (by decide) rfl ?_
            refine zs_iinc (pc := 112) (ls' := [_, _, _, _, _, _, _, _, _]) dX8_lastTurn_112 rfl (nI_1 c) (by decide) rfl ?_
            refine zk_goto (pc := 115) 20 dX8_lastTurn_115 (by decide) ?_
            first
              | (have hz : (if isT C M i c then (g1 mu C M v) i c else 9999) = 9999 := if_neg h43
                 have e := ihc (by omega) nu (.int (zb (isT C M i c))) (.int 9999) hu
                 rw [lsR_s, hz] at e
                 first | (rw [← zmin_a.1 h100] at e; exact e) | (rw [← zmin_a.2 h100] at e; exact e))
              | (have hz : (if isT C M i c then (g1 mu C M v) i c else 9999) = (g1 mu C M v) i c := if_pos h43
                 have e := ihc (by omega) m3 (.int (zb (isT C M i c))) (.int ((g1 mu C M v) i c)) (fun c hc => g3 c hc)
                 rw [lsR_s, hz] at e
                 first
                   | (have h1 : lsR C M (g1 mu C M v) i c ≤ (g1 mu C M v) i c := h100
                      rw [← zmin_a.1 h1] at e; exact e)
                   | (have h1 : ¬ lsR C M (g1 mu C M v) i c ≤ (g1 mu C M v) i c := h100
                      rw [← zmin_a.2 h1] at e; exact e))
        · rw [zb_n] at h43
          refine zk_aload_n (pc := 46) 0 dX8_lastTurn_46 rfl rfl ?_
          refine zk_iload_n (pc := 47) 2 dX8_lastTurn_47 rfl rfl ?_
          refine zk_if_ge (pc := 48) 62 dX8_lastTurn_48 (by decide) (fun h48 => ?_) (fun h48 => ?_)
          · exact absurd h48 (by decide) --
          · skip
            refine zk_iload (pc := 51) dX8_lastTurn_51 rfl ?_
            refine zk_bipush (pc := 53) (v := 7) dX8_lastTurn_53 (by decide) ?_
            refine zk_iload (pc := 55) dX8_lastTurn_55 rfl ?_
            refine zk_imul (pc := 57) dX8_lastTurn_57 ?_
            refine zk_iadd (pc := 58) dX8_lastTurn_58 ?_
            refine zk_goto (pc := 59) 75 dX8_lastTurn_59 (by decide) ?_
            refine zk_iload_n (pc := 75) 1 dX8_lastTurn_75 rfl rfl ?_
            refine zk_iload_n (pc := 76) 2 dX8_lastTurn_76 rfl rfl ?_
            refine zk_if_ge (pc := 77) 84 dX8_lastTurn_77 (by decide) (fun h77 => ?_) (fun h77 => ?_)
            · exact absurd h77 (by decide) --
            · skip
              refine zk_iconst (pc := 80) (v := 1) dX8_lastTurn_80 (by decide) ?_
              refine zk_goto (pc := 81) 85 dX8_lastTurn_81 (by decide) ?_
              rw [show (7 : Int32) = nI 7 from rfl, pk_mul, nI_add]
              refine zk_callV (pc := 85) dX8_lastTurn_85 mtX8_eveningBy lkX8_222 stX8_eveningBy (by rfl) (by rfl) [_, _, _] _ rfl rfl (Nat.le_of_ble_eq_true rfl) (Nat.le_of_ble_eq_true rfl) (sp_X8_eveningBy (mu := mu) (nu := nu) hC hC8 hM hM6 hA hC3 hS hu (n := 1) (L := i + 7 * c) (by decide) (by omega) v) (fun r m3 l3' q3 => ?_)
              obtain ⟨rfl, rfl, g3⟩ := q3
              refine zk_goto (pc := 88) 94 dX8_lastTurn_88 (by decide) ?_
              refine zs_istore (pc := 94) (ls' := [_, _, _, _, _, _, _, _, _]) 8 dX8_lastTurn_94 (by decide) rfl ?_
              refine zk_iload (pc := 96) dX8_lastTurn_96 rfl ?_
              refine zk_iload (pc := 98) dX8_lastTurn_98 rfl ?_
              refine zk_icmp_ge (pc := 100) 108 dX8_lastTurn_100 (by decide) (fun h100 => ?_) (fun h100 => ?_)
              · skip
                refine zk_iload (pc := 108) dX8_lastTurn_108 rfl ?_
                refine zs_istore (pc := 110) (ls' := [_, _, _, _, _, _, _, _, _]) 5 dX8_lastTurn_110 (by decide) rfl ?_
                refine zs_iinc (pc := 112) (ls' := [_, _, _, _, _, _, _, _, _]) dX8_lastTurn_112 rfl (nI_1 c) (by decide) rfl ?_
                refine zk_goto (pc := 115) 20 dX8_lastTurn_115 (by decide) ?_
                first
                  | (have hz : (if isT C M i c then (g1 mu C M v) i c else 9999) = 9999 := if_neg h43
                     have e := ihc (by omega) nu (.int (zb (isT C M i c))) (.int 9999) hu
                     rw [lsR_s, hz] at e
                     first | (rw [← zmin_a.1 h100] at e; exact e) | (rw [← zmin_a.2 h100] at e; exact e))
                  | (have hz : (if isT C M i c then (g1 mu C M v) i c else 9999) = (g1 mu C M v) i c := if_pos h43
                     have e := ihc (by omega) m3 (.int (zb (isT C M i c))) (.int ((g1 mu C M v) i c)) (fun c hc => g3 c hc)
                     rw [lsR_s, hz] at e
                     first
                       | (have h1 : lsR C M (g1 mu C M v) i c ≤ (g1 mu C M v) i c := h100
                          rw [← zmin_a.1 h1] at e; exact e)
                       | (have h1 : ¬ lsR C M (g1 mu C M v) i c ≤ (g1 mu C M v) i c := h100
                          rw [← zmin_a.2 h1] at e; exact e))
              · skip
                refine zk_iload (pc := 103) dX8_lastTurn_103 rfl ?_
                refine zk_goto (pc := 105) 110 dX8_lastTurn_105 (by decide) ?_
                refine zs_istore (pc := 110) (ls' := [_, _, _, _, _, _, _, _, _]) 5 dX8_lastTurn_110 (by decide) rfl ?_
                refine zs_iinc (pc := 112) (ls' := [_, _, _, _, _, _, _, _, _]) dX8_lastTurn_112 rfl (nI_1 c) (by decide) rfl ?_
                refine zk_goto (pc := 115) 20 dX8_lastTurn_115 (by decide) ?_
                first
                  | (have hz : (if isT C M i c then (g1 mu C M v) i c else 9999) = 9999 := if_neg h43
                     have e := ihc (by omega) nu (.int (zb (isT C M i c))) (.int 9999) hu
                     rw [lsR_s, hz] at e
                     first | (rw [← zmin_a.1 h100] at e; exact e) | (rw [← zmin_a.2 h100] at e; exact e))
                  | (have hz : (if isT C M i c then (g1 mu C M v) i c else 9999) = (g1 mu C M v) i c := if_pos h43
                     have e := ihc (by omega) m3 (.int (zb (isT C M i c))) (.int ((g1 mu C M v) i c)) (fun c hc => g3 c hc)
                     rw [lsR_s, hz] at e
                     first
                       | (have h1 : lsR C M (g1 mu C M v) i c ≤ (g1 mu C M v) i c := h100
                          rw [← zmin_a.1 h1] at e; exact e)
                       | (have h1 : ¬ lsR C M (g1 mu C M v) i c ≤ (g1 mu C M v) i c := h100
                          rw [← zmin_a.2 h1] at e; exact e))
    refine zk_iload (pc := 5) dX8_lastTurn_5 rfl ?_
    refine zk_bipush (pc := 7) (v := 7) dX8_lastTurn_7 (by decide) ?_
    refine zk_icmp_ge (pc := 9) 145 dX8_lastTurn_9 (by decide) (fun h9 => ?_) (fun h9 => ?_)
    · rw [show (7 : Int32) = nI 7 from rfl, nIle (by omega) (by omega)] at h9
      refine zk_iload_n (pc := 145) 3 dX8_lastTurn_145 rfl rfl ?_
      refine zk_ireturn (pc := 146) dX8_lastTurn_146 (Or.inl rfl) ⟨?_, rfl, hu⟩
      rw [show i = 7 by omega]
    · rw [show (7 : Int32) = nI 7 from rfl, nIle (by omega) (by omega)] at h9
      refine zk_sipush (pc := 12) (v := 9999) dX8_lastTurn_12 (by decide) ?_
      refine zs_istore (pc := 15) (ls' := [_, _, _, _, _, _, _, _, _]) 5 dX8_lastTurn_15 (by decide) rfl ?_
      refine zk_iconst (pc := 17) (v := 0) dX8_lastTurn_17 (by decide) ?_
      refine zs_istore (pc := 18) (ls' := [_, _, _, _, _, _, _, _, _]) 6 dX8_lastTurn_18 (by decide) rfl ?_
      exact l2 (by omega) 0 (Nat.zero_le _) nu _ _ hu
  refine zk_iconst (pc := 0) (v := -1) dX8_lastTurn_0 (by decide) ?_
  refine zs_istore_n (pc := 1) (ls' := [_, _, _, _, _, _, _, _, _]) 3 dX8_lastTurn_1 rfl (by decide) rfl ?_
  refine zk_iconst (pc := 2) (v := 0) dX8_lastTurn_2 (by decide) ?_
  refine zs_istore (pc := 3) (ls' := [_, _, _, _, _, _, _, _, _]) 4 dX8_lastTurn_3 (by decide) rfl ?_
  exact l1 0 (Nat.zero_le _) nu _ _ _ _ hu
theorem sp_lastTurn2 {C M : Nat} (hC : mu 46 17 = nI C) (hC8 : C ≤ 8) (hM : mu 46 18 = nI M) (hM6 : M ≤ 6) (hA : ∀ q, q < C → 0 ≤ mu 55 q ∧ mu 55 q ≤ 999) (hC3 : 3 ≤ C) (hS : ∀ j, j < M → ∃ q, q < C ∧ mu 54 j = nI q) {F : Nat} (hF : F < 63) {nu : Mem} (hu : ∀ c, c ≠ 56 → nu c = mu c) (v : Int32) : zk_M (d + 4) RX8 cX8_lastTurn 9 (some .int) none 0 (zk_loc [.ref 46, .int v, .int (nI F)] 9) [] nu lm (kQ (msR C M (g2 mu C M v F) 7) mu lm) := by
  have l1 : ∀ i, i ≤ 7 → ∀ (nu : Mem) (b5 b6 b7 b8 : Value), (∀ c, c ≠ 56 → nu c = mu c) → zk_M (d + 4) RX8 cX8_lastTurn 9 (some .int) none 5 [.ref 46, .int v, .int (nI F), .int (msR C M (g2 mu C M v F) i), .int (nI i), b5, b6, b7, b8] [] nu lm (kQ (msR C M (g2 mu C M v F) 7) mu lm) := by
    refine zk_ind 7 (fun i hi ih => ?_)
    intro nu b5 b6 b7 b8 hu
    have l2 : i < 7 → ∀ c, c ≤ 9 → ∀ (nu : Mem) (b7 b8 : Value), (∀ c, c ≠ 56 → nu c = mu c) → zk_M (d + 4) RX8 cX8_lastTurn 9 (some .int) none 20 [.ref 46, .int v, .int (nI F), .int (msR C M (g2 mu C M v F) i), .int (nI i), .int (lsR C M (g2 mu C M v F) i c), .int (nI c), b7, b8] [] nu lm (kQ (msR C M (g2 mu C M v F) 7) mu lm) := by
      intro hi7
      refine zk_ind 9 (fun c hc ihc => ?_)
      intro nu b7 b8 hu
      have hM2 : nu 46 18 = nI M := by rw [hu 46 (by decide)]; exact hM
      have hC2 : nu 46 17 = nI C := by rw [hu 46 (by decide)]; exact hC
      refine zk_iload (pc := 20) dX8_lastTurn_20 rfl ?_
      refine zk_bipush (pc := 22) (v := 9) dX8_lastTurn_22 (by decide) ?_
      refine zk_icmp_ge (pc := 24) 118 dX8_lastTurn_24 (by decide) (fun h24 => ?_) (fun h24 => ?_)
      · rw [show (9 : Int32) = nI 9 from rfl, nIle (by omega) (by omega)] at h24
        obtain rfl : c = 9 := by omega
        refine zk_iload (pc := 118) dX8_lastTurn_118 rfl ?_
        refine zk_sipush (pc := 120) (v := 9999) dX8_lastTurn_120 (by decide) ?_
        refine zk_icmp_ge (pc := 123) 137 dX8_lastTurn_123 (by decide) (fun h123 => ?_) (fun h123 => ?_)
        · rw [← znl] at h123
          refine zk_iload_n (pc := 137) 3 dX8_lastTurn_137 rfl rfl ?_
          refine zs_istore_n (pc := 138) (ls' := [_, _, _, _, _, _, _, _, _]) 3 dX8_lastTurn_138 rfl (by decide) rfl ?_
          refine zs_iinc (pc := 139) (ls' := [_, _, _, _, _, _, _, _, _]) dX8_lastTurn_139 rfl (nI_1 i) (by decide) rfl ?_
          refine zk_goto (pc := 142) 5 dX8_lastTurn_142 (by decide) ?_
          have e := ih hi7 nu (.int (lsR C M (g2 mu C M v F) i 9)) (.int (nI 9)) b7 b8 hu
          rw [msR_s] at e
          first
            | (have hz : ¬ (lsR C M (g2 mu C M v F) i 9 < 9999 ∧ msR C M (g2 mu C M v F) i < lsR C M (g2 mu C M v F) i 9) := fun z => h123 z.1
               rw [if_neg hz] at e; exact e)
            | (have hz : ¬ (lsR C M (g2 mu C M v F) i 9 < 9999 ∧ msR C M (g2 mu C M v F) i < lsR C M (g2 mu C M v F) i 9) := fun z => h129 z.2
               rw [if_neg hz] at e; exact e)
            | (have hz : lsR C M (g2 mu C M v F) i 9 < 9999 ∧ msR C M (g2 mu C M v F) i < lsR C M (g2 mu C M v F) i 9 := ⟨h123, h129⟩
               rw [if_pos hz] at e; exact e)
        · rw [← zltn] at h123
          refine zk_iload (pc := 126) dX8_lastTurn_126 rfl ?_
          refine zk_iload_n (pc := 128) 3 dX8_lastTurn_128 rfl rfl ?_
          refine zk_icmp_le (pc := 129) 137 dX8_lastTurn_129 (by decide) (fun h129 => ?_) (fun h129 => ?_)
          · rw [← znl] at h129
            refine zk_iload_n (pc := 137) 3 dX8_lastTurn_137 rfl rfl ?_
            refine zs_istore_n (pc := 138) (ls' := [_, _, _, _, _, _, _, _, _]) 3 dX8_lastTurn_138 rfl (by decide) rfl ?_
            refine zs_iinc (pc := 139) (ls' := [_, _, _, _, _, _, _, _, _]) dX8_lastTurn_139 rfl (nI_1 i) (by decide) rfl ?_
            refine zk_goto (pc := 142) 5 dX8_lastTurn_142 (by decide) ?_
            have e := ih hi7 nu (.int (lsR C M (g2 mu C M v F) i 9)) (.int (nI 9)) b7 b8 hu
            rw [msR_s] at e
            first
              | (have hz : ¬ (lsR C M (g2 mu C M v F) i 9 < 9999 ∧ msR C M (g2 mu C M v F) i < lsR C M (g2 mu C M v F) i 9) := fun z => h123 z.1
                 rw [if_neg hz] at e; exact e)
              | (have hz : ¬ (lsR C M (g2 mu C M v F) i 9 < 9999 ∧ msR C M (g2 mu C M v F) i < lsR C M (g2 mu C M v F) i 9) := fun z => h129 z.2
                 rw [if_neg hz] at e; exact e)
              | (have hz : lsR C M (g2 mu C M v F) i 9 < 9999 ∧ msR C M (g2 mu C M v F) i < lsR C M (g2 mu C M v F) i 9 := ⟨h123, h129⟩
                 rw [if_pos hz] at e; exact e)
          · rw [← zltn] at h129
            refine zk_iload (pc := 132) dX8_lastTurn_132 rfl ?_
            refine zk_goto (pc := 134) 138 dX8_lastTurn_134 (by decide) ?_
            refine zs_istore_n (pc := 138) (ls' := [_, _, _, _, _, _, _, _, _]) 3 dX8_lastTurn_138 rfl (by decide) rfl ?_
            refine zs_iinc (pc := 139) (ls' := [_, _, _, _, _, _, _, _, _]) dX8_lastTurn_139 rfl (nI_1 i) (by decide) rfl ?_
            refine zk_goto (pc := 142) 5 dX8_lastTurn_142 (by decide) ?_
            have e := ih hi7 nu (.int (lsR C M (g2 mu C M v F) i 9)) (.int (nI 9)) b7 b8 hu
            rw [msR_s] at e
            first
              | (have hz : ¬ (lsR C M (g2 mu C M v F) i 9 < 9999 ∧ msR C M (g2 mu C M v F) i < lsR C M (g2 mu C M v F) i 9) := fun z => h123 z.1
                 rw [if_neg hz] at e; exact e)
              | (have hz : ¬ (lsR C M (g2 mu C M v F) i 9 < 9999 ∧ msR C M (g2 mu C M v F) i < lsR C M (g2 mu C M v F) i 9) := fun z => h129 z.2
                 rw [if_neg hz] at e; exact e)
              | (have hz : lsR C M (g2 mu C M v F) i 9 < 9999 ∧ msR C M (g2 mu C M v F) i < lsR C M (g2 mu C M v F) i 9 := ⟨h123, h129⟩
                 rw [if_pos hz] at e; exact e)
      · rw [show (9 : Int32) = nI 9 from rfl, nIle (by omega) (by omega)] at h24
        refine zk_aload_n (pc := 27) 0 dX8_lastTurn_27 rfl rfl ?_
        refine zk_iload (pc := 28) dX8_lastTurn_28 rfl ?_
        refine zk_bipush (pc := 30) (v := 7) dX8_lastTurn_30 (by decide) ?_
        refine zk_iload (pc := 32) dX8_lastTurn_32 rfl ?_
        refine zk_imul (pc := 34) dX8_lastTurn_34 ?_
        refine zk_iadd (pc := 35) dX8_lastTurn_35 ?_
        refine zk_callVI (pc := 36) dX8_lastTurn_36 mtX8_isTurn lkX8_219 stX8_isTurn (by rfl) (by rfl) [_] _ rfl rfl (Nat.le_of_ble_eq_true rfl) (Nat.le_of_ble_eq_true rfl) (sp_X8_isTurn hC2 hC8 hM2 hM6 (by omega) (by omega)) ?_
        refine zs_istore (pc := 39) (ls' := [_, _, _, _, _, _, _, _, _]) 7 dX8_lastTurn_39 (by decide) rfl ?_
        refine zk_iload (pc := 41) dX8_lastTurn_41 rfl ?_
        refine zk_if_eq (pc := 43) 91 dX8_lastTurn_43 (by decide) (fun h43 => ?_) (fun h43 => ?_)
        · rw [zb_e] at h43
          refine zk_sipush (pc := 91) (v := 9999) dX8_lastTurn_91 (by decide) ?_
          refine zs_istore (pc := 94) (ls' := [_, _, _, _, _, _, _, _, _]) 8 dX8_lastTurn_94 (by decide) rfl ?_
          refine zk_iload (pc := 96) dX8_lastTurn_96 rfl ?_
          refine zk_iload (pc := 98) dX8_lastTurn_98 rfl ?_
          refine zk_icmp_ge (pc := 100) 108 dX8_lastTurn_100 (by decide) (fun h100 => ?_) (fun h100 => ?_)
          · skip
            refine zk_iload (pc := 108) dX8_lastTurn_108 rfl ?_
            refine zs_istore (pc := 110) (ls' := [_, _, _, _, _, _, _, _, _]) 5 dX8_lastTurn_110 (by decide) rfl ?_
            refine zs_iinc (pc := 112) (ls' := [_, _, _, _, _, _, _, _, _]) dX8_lastTurn_112 rfl (nI_1 c) (by decide) rfl ?_
            refine zk_goto (pc := 115) 20 dX8_lastTurn_115 (by decide) ?_
            first
              | (have hz : (if isT C M i c then (g2 mu C M v F) i c else 9999) = 9999 := if_neg h43
                 have e := ihc (by omega) nu (.int (zb (isT C M i c))) (.int 9999) hu
                 rw [lsR_s, hz] at e
                 first | (rw [← zmin_a.1 h100] at e; exact e) | (rw [← zmin_a.2 h100] at e; exact e))
              | (have hz : (if isT C M i c then (g2 mu C M v F) i c else 9999) = (g2 mu C M v F) i c := if_pos h43
                 have e := ihc (by omega) m3 (.int (zb (isT C M i c))) (.int ((g2 mu C M v F) i c)) (fun c hc => g3 c hc)
                 rw [lsR_s, hz] at e
                 first
                   | (have h1 : lsR C M (g2 mu C M v F) i c ≤ (g2 mu C M v F) i c := h100
                      rw [← zmin_a.1 h1] at e; exact e)
                   | (have h1 : ¬ lsR C M (g2 mu C M v F) i c ≤ (g2 mu C M v F) i c := h100
                      rw [← zmin_a.2 h1] at e; exact e))
          · skip
            refine zk_iload (pc := 103) dX8_lastTurn_103 rfl ?_
            refine zk_goto (pc := 105) 110 dX8_lastTurn_105 (by decide) ?_
            refine zs_istore (pc := 110) (ls' := [_, _, _, _, _, _, _, _, _]) 5 dX8_lastTurn_110 (by decide) rfl ?_
            refine zs_iinc (pc := 112) (ls' := [_, _, _, _, _, _, _, _, _]) dX8_lastTurn_112 rfl (nI_1 c) (by decide) rfl ?_
            refine zk_goto (pc := 115) 20 dX8_lastTurn_115 (by decide) ?_
            first
              | (have hz : (if isT C M i c then (g2 mu C M v F) i c else 9999) = 9999 := if_neg h43
                 have e := ihc (by omega) nu (.int (zb (isT C M i c))) (.int 9999) hu
                 rw [lsR_s, hz] at e
                 first | (rw [← zmin_a.1 h100] at e; exact e) | (rw [← zmin_a.2 h100] at e; exact e))
              | (have hz : (if isT C M i c then (g2 mu C M v F) i c else 9999) = (g2 mu C M v F) i c := if_pos h43
                 have e := ihc (by omega) m3 (.int (zb (isT C M i c))) (.int ((g2 mu C M v F) i c)) (fun c hc => g3 c hc)
                 rw [lsR_s, hz] at e
                 first
                   | (have h1 : lsR C M (g2 mu C M v F) i c ≤ (g2 mu C M v F) i c := h100
                      rw [← zmin_a.1 h1] at e; exact e)
                   | (have h1 : ¬ lsR C M (g2 mu C M v F) i c ≤ (g2 mu C M v F) i c := h100
                      rw [← zmin_a.2 h1] at e; exact e))
        · rw [zb_n] at h43
          refine zk_aload_n (pc := 46) 0 dX8_lastTurn_46 rfl rfl ?_
          refine zk_iload_n (pc := 47) 2 dX8_lastTurn_47 rfl rfl ?_
          refine zk_if_ge (pc := 48) 62 dX8_lastTurn_48 (by decide) (fun h48 => ?_) (fun h48 => ?_)
          · skip
            refine zk_iload_n (pc := 62) 2 dX8_lastTurn_62 rfl rfl ?_
            refine zk_bipush (pc := 63) (v := 63) dX8_lastTurn_63 (by decide) ?_
            refine zk_iload (pc := 65) dX8_lastTurn_65 rfl ?_
            refine zk_bipush (pc := 67) (v := 7) dX8_lastTurn_67 (by decide) ?_
            refine zk_iload (pc := 69) dX8_lastTurn_69 rfl ?_
            refine zk_imul (pc := 71) dX8_lastTurn_71 ?_
            refine zk_iadd (pc := 72) dX8_lastTurn_72 ?_
            refine zk_imul (pc := 73) dX8_lastTurn_73 ?_
            refine zk_iadd (pc := 74) dX8_lastTurn_74 ?_
            refine zk_iload_n (pc := 75) 1 dX8_lastTurn_75 rfl rfl ?_
            refine zk_iload_n (pc := 76) 2 dX8_lastTurn_76 rfl rfl ?_
            refine zk_if_ge (pc := 77) 84 dX8_lastTurn_77 (by decide) (fun h77 => ?_) (fun h77 => ?_)
            · skip
              refine zk_iconst (pc := 84) (v := 2) dX8_lastTurn_84 (by decide) ?_
              rw [show (7 : Int32) = nI 7 from rfl, show (63 : Int32) = nI 63 from rfl, pk_mul, nI_add, pk_mul, nI_add]
              refine zk_callV (pc := 85) dX8_lastTurn_85 mtX8_eveningBy lkX8_222 stX8_eveningBy (by rfl) (by rfl) [_, _, _] _ rfl rfl (Nat.le_of_ble_eq_true rfl) (Nat.le_of_ble_eq_true rfl) (sp_X8_eveningBy (mu := mu) (nu := nu) hC hC8 hM hM6 hA hC3 hS hu (n := 2) (L := F + 63 * (i + 7 * c)) (by decide) (by omega) v) (fun r m3 l3' q3 => ?_)
              obtain ⟨rfl, rfl, g3⟩ := q3
              refine zk_goto (pc := 88) 94 dX8_lastTurn_88 (by decide) ?_
              refine zs_istore (pc := 94) (ls' := [_, _, _, _, _, _, _, _, _]) 8 dX8_lastTurn_94 (by decide) rfl ?_
              refine zk_iload (pc := 96) dX8_lastTurn_96 rfl ?_
              refine zk_iload (pc := 98) dX8_lastTurn_98 rfl ?_
              refine zk_icmp_ge (pc := 100) 108 dX8_lastTurn_100 (by decide) (fun h100 => ?_) (fun h100 => ?_)
              · skip
                refine zk_iload (pc := 108) dX8_lastTurn_108 rfl ?_
                refine zs_istore (pc := 110) (ls' := [_, _, _, _, _, _, _, _, _]) 5 dX8_lastTurn_110 (by decide) rfl ?_
                refine zs_iinc (pc := 112) (ls' := [_, _, _, _, _, _, _, _, _]) dX8_lastTurn_112 rfl (nI_1 c) (by decide) rfl ?_
                refine zk_goto (pc := 115) 20 dX8_lastTurn_115 (by decide) ?_
                first
                  | (have hz : (if isT C M i c then (g2 mu C M v F) i c else 9999) = 9999 := if_neg h43
                     have e := ihc (by omega) nu (.int (zb (isT C M i c))) (.int 9999) hu
                     rw [lsR_s, hz] at e
                     first | (rw [← zmin_a.1 h100] at e; exact e) | (rw [← zmin_a.2 h100] at e; exact e))
                  | (have hz : (if isT C M i c then (g2 mu C M v F) i c else 9999) = (g2 mu C M v F) i c := if_pos h43
                     have e := ihc (by omega) m3 (.int (zb (isT C M i c))) (.int ((g2 mu C M v F) i c)) (fun c hc => g3 c hc)
                     rw [lsR_s, hz] at e
                     first
                       | (have h1 : lsR C M (g2 mu C M v F) i c ≤ (g2 mu C M v F) i c := h100
                          rw [← zmin_a.1 h1] at e; exact e)
                       | (have h1 : ¬ lsR C M (g2 mu C M v F) i c ≤ (g2 mu C M v F) i c := h100
                          rw [← zmin_a.2 h1] at e; exact e))
              · skip
                refine zk_iload (pc := 103) dX8_lastTurn_103 rfl ?_
                refine zk_goto (pc := 105) 110 dX8_lastTurn_105 (by decide) ?_
                refine zs_istore (pc := 110) (ls' := [_, _, _, _, _, _, _, _, _]) 5 dX8_lastTurn_110 (by decide) rfl ?_
                refine zs_iinc (pc := 112) (ls' := [_, _, _, _, _, _, _, _, _]) dX8_lastTurn_112 rfl (nI_1 c) (by decide) rfl ?_
                refine zk_goto (pc := 115) 20 dX8_lastTurn_115 (by decide) ?_
                first
                  | (have hz : (if isT C M i c then (g2 mu C M v F) i c else 9999) = 9999 := if_neg h43
                     have e := ihc (by omega) nu (.int (zb (isT C M i c))) (.int 9999) hu
                     rw [lsR_s, hz] at e
                     first | (rw [← zmin_a.1 h100] at e; exact e) | (rw [← zmin_a.2 h100] at e; exact e))
                  | (have hz : (if isT C M i c then (g2 mu C M v F) i c else 9999) = (g2 mu C M v F) i c := if_pos h43
                     have e := ihc (by omega) m3 (.int (zb (isT C M i c))) (.int ((g2 mu C M v F) i c)) (fun c hc => g3 c hc)
                     rw [lsR_s, hz] at e
                     first
                       | (have h1 : lsR C M (g2 mu C M v F) i c ≤ (g2 mu C M v F) i c := h100
                          rw [← zmin_a.1 h1] at e; exact e)
                       | (have h1 : ¬ lsR C M (g2 mu C M v F) i c ≤ (g2 mu C M v F) i c := h100
                          rw [← zmin_a.2 h1] at e; exact e))
            · exact absurd (nI_pos' (by omega)) h77 --
          · exact absurd (nI_pos' (by omega)) h48 --
    refine zk_iload (pc := 5) dX8_lastTurn_5 rfl ?_
    refine zk_bipush (pc := 7) (v := 7) dX8_lastTurn_7 (by decide) ?_
    refine zk_icmp_ge (pc := 9) 145 dX8_lastTurn_9 (by decide) (fun h9 => ?_) (fun h9 => ?_)
    · rw [show (7 : Int32) = nI 7 from rfl, nIle (by omega) (by omega)] at h9
      refine zk_iload_n (pc := 145) 3 dX8_lastTurn_145 rfl rfl ?_
      refine zk_ireturn (pc := 146) dX8_lastTurn_146 (Or.inl rfl) ⟨?_, rfl, hu⟩
      rw [show i = 7 by omega]
    · rw [show (7 : Int32) = nI 7 from rfl, nIle (by omega) (by omega)] at h9
      refine zk_sipush (pc := 12) (v := 9999) dX8_lastTurn_12 (by decide) ?_
      refine zs_istore (pc := 15) (ls' := [_, _, _, _, _, _, _, _, _]) 5 dX8_lastTurn_15 (by decide) rfl ?_
      refine zk_iconst (pc := 17) (v := 0) dX8_lastTurn_17 (by decide) ?_
      refine zs_istore (pc := 18) (ls' := [_, _, _, _, _, _, _, _, _]) 6 dX8_lastTurn_18 (by decide) rfl ?_
      exact l2 (by omega) 0 (Nat.zero_le _) nu _ _ hu
  refine zk_iconst (pc := 0) (v := -1) dX8_lastTurn_0 (by decide) ?_
  refine zs_istore_n (pc := 1) (ls' := [_, _, _, _, _, _, _, _, _]) 3 dX8_lastTurn_1 rfl (by decide) rfl ?_
  refine zk_iconst (pc := 2) (v := 0) dX8_lastTurn_2 (by decide) ?_
  refine zs_istore (pc := 3) (ls' := [_, _, _, _, _, _, _, _, _]) 4 dX8_lastTurn_3 (by decide) rfl ?_
  exact l1 0 (Nat.zero_le _) nu _ _ _ _ hu
end M53
