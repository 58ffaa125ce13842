section M49
variable {d : Nat} {mu : Mem} {lm : MemL}
def kSn (k : Int32) (V : Nat) : Nat := (kSay k (nI V)).toNatClampNeg
theorem kSay_n {k : Int32} {V : Nat} (hV : V ≤ 99) : kSn k V ≤ V ∧ kSay k (nI V) = nI (kSn k V) := by
  unfold kSn kSay
  split
  · exact (show ∀ V, V < 100 → ((nI V - (nI V - nI V / 10 * 10)).toNatClampNeg ≤ V ∧ nI V - (nI V - nI V / 10 * 10) = nI (nI V - (nI V - nI V / 10 * 10)).toNatClampNeg) by decide +kernel) V (by omega)
  · split
    · exact (show ∀ V, V < 100 → ((nI V - nI V / 10 * 10).toNatClampNeg ≤ V ∧ nI V - nI V / 10 * 10 = nI (nI V - nI V / 10 * 10).toNatClampNeg) by decide +kernel) V (by omega)
    · split
      · rw [nI_clamp (by omega)]; exact ⟨Nat.le_refl _, rfl⟩
      · split
        · exact (show ∀ V, V < 100 → ((if 0 < nI V / 2 - 1 then nI V / 2 - 1 else 0).toNatClampNeg ≤ V ∧ (if 0 < nI V / 2 - 1 then nI V / 2 - 1 else 0) = nI (if 0 < nI V / 2 - 1 then nI V / 2 - 1 else 0).toNatClampNeg) by decide +kernel) V (by omega)
        · exact (show ∀ V, V < 100 → ((nI V / 2).toNatClampNeg ≤ V ∧ nI V / 2 = nI (nI V / 2).toNatClampNeg) by decide +kernel) V (by omega)
def shN (kind seat cells : Int32) (V : Nat) (c : Int32) : Nat := (shr kind seat cells (nI V) c).toNatClampNeg
theorem shr_ex {kind seat cells c : Int32} {V : Nat} (hV : V ≤ 99) : ∃ S, S ≤ 99 ∧ shr kind seat cells (nI V) c = nI S := by
  obtain ⟨h1, h2⟩ := kSay_n (k := kind) hV
  unfold shr
  rw [h2, pk_sub h1, show (2 : Int32) = nI 2 from rfl, pk_div (by omega) (by decide) (by decide), pk_sub (Nat.div_le_self _ _), pk_div (by omega) (by decide) (by decide), pk_sub (Nat.div_le_self _ _)]
  split
  · split
    · exact ⟨_, by omega, rfl⟩
    · split
      · exact ⟨_, by omega, rfl⟩
      · split
        · exact ⟨_, by omega, rfl⟩
        · exact ⟨0, by omega, rfl⟩
  · split
    · exact ⟨_, by omega, rfl⟩
    · exact ⟨0, by omega, rfl⟩
theorem shr_n {kind seat cells c : Int32} {V : Nat} (hV : V ≤ 99) : shN kind seat cells V c ≤ 99 ∧ shr kind seat cells (nI V) c = nI (shN kind seat cells V c) := by
  obtain ⟨S, h1, h2⟩ := shr_ex (kind := kind) (seat := seat) (cells := cells) (c := c) hV
  unfold shN
  rw [h2, nI_clamp (by omega)]
  exact ⟨h1, rfl⟩
theorem zmin_n {a : Nat} (ha : a < 100000) : zmin 999 (nI a) = nI (min 999 a) := by
  unfold zmin
  by_cases h : a < 999
  · rw [if_pos (show nI a < (999 : Int32) from (show nI a < nI 999 from nI_lt h (by decide))), Nat.min_eq_right (by omega)]
  · rw [if_neg (show ¬ nI a < (999 : Int32) from (show ¬ nI a < nI 999 from nI_nlt (by omega) (by omega))), Nat.min_eq_left (by omega)]; rfl
def nsum : Nat → (Nat → Nat) → Nat
  | 0, _ => 0
  | k + 1, f => nsum k f + f k
theorem nsum_le {f : Nat → Nat} {b : Nat} (h : ∀ q, f q ≤ b) : ∀ k, nsum k f ≤ b * k
  | 0 => Nat.zero_le _
  | k + 1 => by rw [nsum, Nat.mul_succ]; exact Nat.add_le_add (nsum_le h k) (h k)
theorem by_s {M e : Nat} (h0 : 0 < M) : (M ^ e ≤ 1 → 1 = M ^ (e - 1)) ∧ (¬ M ^ e ≤ 1 → M ^ e / M = M ^ (e - 1)) := by
  cases e with
  | zero => exact ⟨fun _ => rfl, fun h => absurd (Nat.le_refl _) h⟩
  | succ e =>
    rw [show e + 1 - 1 = e from rfl]
    constructor
    · intro h
      have h1 : M ^ e ≤ M ^ (e + 1) := Nat.pow_le_pow_right h0 (by omega)
      have h2 : 0 < M ^ e := Nat.pow_pos h0
      omega
    · intro _
      rw [Nat.pow_succ, Nat.mul_div_cancel _ h0]
/-- how much the line ln of t brings to cell c, the first talker first -/
def lnN (mu : Mem) (M V c ln t k : Nat) : Nat := nsum k (fun q => shN (mu 53 (ln / M ^ (t - 1 - q) % M)) (mu 54 (ln / M ^ (t - 1 - q) % M)) (mu 46 17) V (nI c))
theorem lnN_le (mu : Mem) (M V c ln t k : Nat) (hV : V ≤ 99) : lnN mu M V c ln t k ≤ 99 * k := nsum_le (fun _ => (shr_n hV).1) k
def hbP (mu : Mem) (M V c : Nat) (w : Int32) (t ln : Nat) : Bool := decide (w ≤ nI (min 999 ((mu 55 c).toNatClampNeg + lnN mu M V c ln t t)))
def hbI (mu : Mem) (C M V c ln t k : Nat) (nu : Mem) : Prop := (∀ c, c ≠ 56 → nu c = mu c) ∧ (∀ q, q < C → nu 56 q ≤ 999) ∧ nu 56 c = nI (min 999 ((mu 55 c).toNatClampNeg + lnN mu M V c ln t k))
theorem hbI_0 {mu : Mem} {C M V c ln t : Nat} (hC8 : C ≤ 8) (hc : c < C) (hA : ∀ q, q < C → 0 ≤ mu 55 q ∧ mu 55 q ≤ 999) : hbI mu C M V c ln t 0 (bgM mu) := by
  have hb : ∀ q, q < C → bgM mu 56 q = mu 55 q := fun q hq => by unfold bgM; rw [zuc_s, pk_cpy_in (Nat.zero_le _) (by omega), show (0 + (q - 0)) = q by omega]
  refine ⟨fun c hc => by unfold bgM; rw [zuc_c _ _ hc], fun q hq => by rw [hb q hq]; exact (hA q hq).2, ?_⟩
  rw [hb c hc]
  obtain ⟨X, hX, eX⟩ := zgetb (b := 999) (by decide) (hA c hc)
  rw [eX, nI_clamp (by omega)]
  show nI X = nI (min 999 (X + 0))
  rw [Nat.min_eq_right (by omega)]; rfl
theorem hbI_s {mu : Mem} {C M V c ln t k : Nat} {nu : Mem} (h : hbI mu C M V c ln t k nu) (hC8 : C ≤ 8) (hc : c < C) (hV : V ≤ 99) (hk : k ≤ 100) (hA : ∀ q, q < C → 0 ≤ mu 55 q ∧ mu 55 q ≤ 999) : hbI mu C M V c ln t (k + 1) (tkS nu 56 (ln / M ^ (t - 1 - k) % M) (nI V) C) := by
  have h999 : ∀ x : Int32, zmin 999 x ≤ 999 := fun x => by
    unfold zmin
    by_cases g : x < 999
    · rw [if_pos g]; simp only [zlt, zle] at *; omega
    · rw [if_neg g]; decide
  refine ⟨fun c hc => by unfold tkS; rw [zuc_c _ _ hc, h.1 c hc], fun q hq => ?_, ?_⟩
  · unfold tkS; rw [zuc_s, if_pos hq]; exact h999 _
  · unfold tkS
    rw [zuc_s, if_pos hc, h.2.2, h.1 53 (by decide), h.1 54 (by decide), h.1 46 (by decide), (shr_n hV).2, nI_add]
    obtain ⟨X, hX, eX⟩ := zgetb (b := 999) (by decide) (hA c hc)
    have hl := lnN_le mu M V c ln t k hV
    have hs := (shr_n (kind := mu 53 (ln / M ^ (t - 1 - k) % M)) (seat := mu 54 (ln / M ^ (t - 1 - k) % M)) (cells := mu 46 17) (c := nI c) hV).1
    rw [eX, nI_clamp (by omega), zmin_n (by omega)]
    congr 1
    have e2 : lnN mu M V c ln t (k + 1) = lnN mu M V c ln t k + shN (mu 53 (ln / M ^ (t - 1 - k) % M)) (mu 54 (ln / M ^ (t - 1 - k) % M)) (mu 46 17) V (nI c) := rfl
    rw [e2]
    omega
theorem sp_X8_hangsBy {C M : Nat} (hC : mu 46 17 = nI C) (hC8 : C ≤ 8) (hM : mu 46 18 = nI M) (hM6 : M ≤ 6) (hA : ∀ q, q < C → 0 ≤ mu 55 q ∧ mu 55 q ≤ 999) (hL : 0 ≤ mu 46 16 ∧ mu 46 16 ≤ 9) (hC3 : 3 ≤ C) (hM0 : 0 < M) (hS : ∀ j, j < M → ∃ q, q < C ∧ mu 54 j = nI q) {ln t V c : Nat} (hl : ln < 1000) (ht : t ≤ 3) (hV : V ≤ 99) (hc : c < C) (w : Int32) : zk_M (d + 3) RX8 cX8_hangsBy 8 (some .boolean) none 0 (zk_loc [.ref 46, .int (nI ln), .int (nI t), .int (nI V), .int (nI c), .int w] 8) [] mu lm (kQ (zb (hbP mu M V c w t ln = true)) mu lm) := by
  have hpw : ∀ e, e ≤ 3 → M ^ e ≤ 216 := fun e he => Nat.le_trans (Nat.pow_le_pow_left hM6 e) (Nat.le_trans (Nat.pow_le_pow_right (by decide) he) (by decide))
  have l2 : ∀ k, k ≤ t → ∀ nu, hbI mu C M V c ln t k nu → zk_M (d + 3) RX8 cX8_hangsBy 8 (some .boolean) none 34 [.ref 46, .int (nI ln), .int (nI t), .int (nI V), .int (nI c), .int w, .int (nI (M ^ (t - 1 - k))), .int (nI k)] [] nu lm (kQ (zb (hbP mu M V c w t ln = true)) mu lm) := by
    refine zk_ind t (fun k hk ih => ?_)
    intro nu hi
    have hp0 : 0 < M ^ (t - 1 - k) := Nat.pow_pos hM0
    have hp1 := hpw (t - 1 - k) (by omega)
    have hM2 : nu 46 18 = nI M := by rw [hi.1 46 (by decide)]; exact hM
    have hd : ln / M ^ (t - 1 - k) % M < M := Nat.mod_lt _ hM0
    have hlt : ln / M ^ (t - 1 - k) < 1000 := Nat.lt_of_le_of_lt (Nat.div_le_self _ _) hl
    obtain ⟨q, hq, hsq⟩ := hS _ hd
    refine zk_iload (pc := 34) dX8_hangsBy_34 rfl ?_
    refine zk_iload_n (pc := 36) 2 dX8_hangsBy_36 rfl rfl ?_
    refine zk_icmp_ge (pc := 37) 83 dX8_hangsBy_37 (by decide) (fun h37 => ?_) (fun h37 => ?_)
    · rw [nIle (by omega) (by omega)] at h37
      refine zk_aload_n (pc := 83) 0 dX8_hangsBy_83 rfl rfl ?_
      refine zk_getR (pc := 84) dX8_hangsBy_84 flX8_41 rfl rfl ?_
      refine zk_iload (pc := 87) dX8_hangsBy_87 rfl ?_
      refine zk_iaload (pc := 89) c dX8_hangsBy_89 rfl rfl (by omega) ?_
      refine zk_iload (pc := 90) dX8_hangsBy_90 rfl ?_
      refine zk_icmp_lt (pc := 92) 99 dX8_hangsBy_92 (by decide) (fun h92 => ?_) (fun h92 => ?_)
      · rw [zltn] at h92
        refine zk_iconst (pc := 99) (v := 0) dX8_hangsBy_99 (by decide) ?_
        refine zk_ireturn (pc := 100) dX8_hangsBy_100 (Or.inr ⟨rfl, by first | exact Or.inl rfl | exact Or.inr rfl⟩) ⟨?_, rfl, hi.1⟩
        rw [hi.2.2, show k = t by omega] at h92
        first
          | (have hz : zb (hbP mu M V c w t ln = true) = 1 := zb_t (decide_eq_true h92)
             rw [hz])
          | (have hz : zb (hbP mu M V c w t ln = true) = 0 := zb_f (fun z => h92 (of_decide_eq_true z))
             rw [hz])
      · rw [znl] at h92
        refine zk_iconst (pc := 95) (v := 1) dX8_hangsBy_95 (by decide) ?_
        refine zk_goto (pc := 96) 100 dX8_hangsBy_96 (by decide) ?_
        refine zk_ireturn (pc := 100) dX8_hangsBy_100 (Or.inr ⟨rfl, by first | exact Or.inl rfl | exact Or.inr rfl⟩) ⟨?_, rfl, hi.1⟩
        rw [hi.2.2, show k = t by omega] at h92
        first
          | (have hz : zb (hbP mu M V c w t ln = true) = 1 := zb_t (decide_eq_true h92)
             rw [hz])
          | (have hz : zb (hbP mu M V c w t ln = true) = 0 := zb_f (fun z => h92 (of_decide_eq_true z))
             rw [hz])
    · rw [nIle (by omega) (by omega)] at h37
      refine zk_aload_n (pc := 40) 0 dX8_hangsBy_40 rfl rfl ?_
      refine zk_aload_n (pc := 41) 0 dX8_hangsBy_41 rfl rfl ?_
      refine zk_getR (pc := 42) dX8_hangsBy_42 flX8_41 rfl rfl ?_
      refine zk_iload_n (pc := 45) 1 dX8_hangsBy_45 rfl rfl ?_
      refine zk_iload (pc := 46) dX8_hangsBy_46 rfl ?_
      refine zk_idiv (pc := 48) dX8_hangsBy_48 (nI_ne0 hp0 (by omega)) ?_
      rw [pk_div (by omega) hp0 (by omega)]
      refine zk_aload_n (pc := 49) 0 dX8_hangsBy_49 rfl rfl ?_
      refine zk_getI (pc := 50) dX8_hangsBy_50 flX8_63 rfl rfl ?_
      refine zk_irem (pc := 53) dX8_hangsBy_53 (by rw [hM2]; exact nI_ne0 hM0 (by omega)) ?_
      rw [hM2, pk_rem (by omega) hM0 (by omega)]
      refine zk_iload_n (pc := 54) 3 dX8_hangsBy_54 rfl rfl ?_
      refine zk_callVV (pc := 55) dX8_hangsBy_55 mtX8_talkIn lkX8_174 stX8_talkIn (by rfl) (by rfl) [_, _, _] _ rfl rfl (Nat.le_of_ble_eq_true rfl) (Nat.le_of_ble_eq_true rfl) (sp_X8_talkIn (s := 56) rfl (by decide) (by decide) (by decide) (by rw [hi.1 46 (by decide)]; exact hC) hC8 hC3 (by omega) hq (by rw [hi.1 54 (by decide)]; exact hsq) hi.2.1 (nI V)) ?_
      have hM3 : tkS nu 56 (ln / M ^ (t - 1 - k) % M) (nI V) C 46 18 = nI M := by unfold tkS; rw [zuc_c _ _ (by decide)]; exact hM2
      refine zk_iload (pc := 58) dX8_hangsBy_58 rfl ?_
      refine zk_iconst (pc := 60) (v := 1) dX8_hangsBy_60 (by decide) ?_
      refine zk_icmp_le (pc := 61) 74 dX8_hangsBy_61 (by decide) (fun h61 => ?_) (fun h61 => ?_)
      · rw [show (1 : Int32) = nI 1 from rfl, nIle (by omega) (by omega)] at h61
        refine zk_iconst (pc := 74) (v := 1) dX8_hangsBy_74 (by decide) ?_
        refine zs_istore (pc := 75) (ls' := [_, _, _, _, _, _, _, _]) 6 dX8_hangsBy_75 (by decide) rfl ?_
        refine zs_iinc (pc := 77) (ls' := [_, _, _, _, _, _, _, _]) dX8_hangsBy_77 rfl (nI_1 k) (by decide) rfl ?_
        refine zk_goto (pc := 80) 34 dX8_hangsBy_80 (by decide) ?_
        have e := ih (by omega) _ (hbI_s hi hC8 hc hV (by omega) hA)
        first
          | (rw [show t - 1 - (k + 1) = t - 1 - k - 1 by omega, ← (by_s hM0).1 h61] at e; exact e)
          | (rw [show t - 1 - (k + 1) = t - 1 - k - 1 by omega, ← (by_s hM0).2 h61] at e; exact e)
      · rw [show (1 : Int32) = nI 1 from rfl, nIle (by omega) (by omega)] at h61
        refine zk_iload (pc := 64) dX8_hangsBy_64 rfl ?_
        refine zk_aload_n (pc := 66) 0 dX8_hangsBy_66 rfl rfl ?_
        refine zk_getI (pc := 67) dX8_hangsBy_67 flX8_63 rfl rfl ?_
        refine zk_idiv (pc := 70) dX8_hangsBy_70 (by rw [hM3]; exact nI_ne0 hM0 (by omega)) ?_
        rw [hM3, pk_div (by omega) hM0 (by omega)]
        refine zk_goto (pc := 71) 75 dX8_hangsBy_71 (by decide) ?_
        refine zs_istore (pc := 75) (ls' := [_, _, _, _, _, _, _, _]) 6 dX8_hangsBy_75 (by decide) rfl ?_
        refine zs_iinc (pc := 77) (ls' := [_, _, _, _, _, _, _, _]) dX8_hangsBy_77 rfl (nI_1 k) (by decide) rfl ?_
        refine zk_goto (pc := 80) 34 dX8_hangsBy_80 (by decide) ?_
        have e := ih (by omega) _ (hbI_s hi hC8 hc hV (by omega) hA)
        first
          | (rw [show t - 1 - (k + 1) = t - 1 - k - 1 by omega, ← (by_s hM0).1 h61] at e; exact e)
          | (rw [show t - 1 - (k + 1) = t - 1 - k - 1 by omega, ← (by_s hM0).2 h61] at e; exact e)
  have l1 : ∀ k, 1 ≤ k → k ≤ 3 → (k ≤ t ∨ k = 1) → zk_M (d + 3) RX8 cX8_hangsBy 8 (some .boolean) none 10 [.ref 46, .int (nI ln), .int (nI t), .int (nI V), .int (nI c), .int w, .int (nI (M ^ (k - 1))), .int (nI k)] [] (bgM mu) lm (kQ (zb (hbP mu M V c w t ln = true)) mu lm) := by
    have aux : ∀ g k, g = 4 - k → 1 ≤ k → k ≤ 3 → (k ≤ t ∨ k = 1) → zk_M (d + 3) RX8 cX8_hangsBy 8 (some .boolean) none 10 [.ref 46, .int (nI ln), .int (nI t), .int (nI V), .int (nI c), .int w, .int (nI (M ^ (k - 1))), .int (nI k)] [] (bgM mu) lm (kQ (zb (hbP mu M V c w t ln = true)) mu lm) := by
      refine zk_dn (fun g ih => ?_)
      intro k hg h1 h3 hkt
      have hM2 : bgM mu 46 18 = nI M := by unfold bgM; rw [zuc_c _ _ (by decide)]; exact hM
      have hp1 := hpw (k - 1) (by omega)
      refine zk_iload (pc := 10) dX8_hangsBy_10 rfl ?_
      refine zk_iload_n (pc := 12) 2 dX8_hangsBy_12 rfl rfl ?_
      refine zk_icmp_ge (pc := 13) 31 dX8_hangsBy_13 (by decide) (fun h13 => ?_) (fun h13 => ?_)
      · rw [nIle (by omega) (by omega)] at h13
        refine zk_iconst (pc := 31) (v := 0) dX8_hangsBy_31 (by decide) ?_
        refine zs_istore (pc := 32) (ls' := [_, _, _, _, _, _, _, _]) 7 dX8_hangsBy_32 (by decide) rfl ?_
        have e := l2 0 (Nat.zero_le _) _ (hbI_0 hC8 hc hA)
        rw [show t - 1 - 0 = k - 1 by omega] at e
        exact e
      · rw [nIle (by omega) (by omega)] at h13
        refine zk_iload (pc := 16) dX8_hangsBy_16 rfl ?_
        refine zk_aload_n (pc := 18) 0 dX8_hangsBy_18 rfl rfl ?_
        refine zk_getI (pc := 19) dX8_hangsBy_19 flX8_63 rfl rfl ?_
        refine zk_imul (pc := 22) dX8_hangsBy_22 ?_
        rw [hM2, pk_mul]
        refine zs_istore (pc := 23) (ls' := [_, _, _, _, _, _, _, _]) 6 dX8_hangsBy_23 (by decide) rfl ?_
        refine zs_iinc (pc := 25) (ls' := [_, _, _, _, _, _, _, _]) dX8_hangsBy_25 rfl (nI_1 k) (by decide) rfl ?_
        refine zk_goto (pc := 28) 10 dX8_hangsBy_28 (by decide) ?_
        have e := ih (g - 1) (by omega) (k + 1) (by omega) (by omega) (by omega) (by omega)
        rw [show k + 1 - 1 = k - 1 + 1 by omega, Nat.pow_succ] at e
        exact e
    exact fun k => aux _ k rfl
  refine zk_aload_n (pc := 0) 0 dX8_hangsBy_0 rfl rfl ?_
  refine zk_callVV (pc := 1) dX8_hangsBy_1 mtX8_begin lkX8_184 stX8_begin (by rfl) (by rfl) [] _ rfl rfl (Nat.le_of_ble_eq_true rfl) (Nat.le_of_ble_eq_true rfl) (sp_X8_begin) ?_
  refine zk_iconst (pc := 4) (v := 1) dX8_hangsBy_4 (by decide) ?_
  refine zs_istore (pc := 5) (ls' := [_, _, _, _, _, _, _, _]) 6 dX8_hangsBy_5 (by decide) rfl ?_
  refine zk_iconst (pc := 7) (v := 1) dX8_hangsBy_7 (by decide) ?_
  refine zs_istore (pc := 8) (ls' := [_, _, _, _, _, _, _, _]) 7 dX8_hangsBy_8 (by decide) rfl ?_
  exact l1 1 (by decide) (by decide) (Or.inr rfl)
def mwl (mu : Mem) (k M ln t x : Nat) : Mem := zk_uc (zk_up mu 47 k (nI t)) 48 (fun q => if 40 * k + x ≤ q ∧ q < 40 * k + t then nI (ln / M ^ (t - 1 - (q - 40 * k)) % M) else mu 48 q)
theorem mwl_t (mu : Mem) (k M ln t : Nat) : mwl mu k M ln t t = zk_up mu 47 k (nI t) := by
  unfold mwl
  have h : (fun q => if 40 * k + t ≤ q ∧ q < 40 * k + t then nI (ln / M ^ (t - 1 - (q - 40 * k)) % M) else mu 48 q) = (zk_up mu 47 k (nI t)) 48 := by funext q; rw [if_neg (by omega), zup_c _ _ _ (by decide)]
  rw [h, zk_uc_self]
theorem mwl_s (mu : Mem) {k M ln t x : Nat} (hx : x < t) : zk_up (mwl mu k M ln t (x + 1)) 48 (40 * k + x) (nI (ln / M ^ (t - 1 - x) % M)) = mwl mu k M ln t x := by
  funext c q
  unfold mwl
  by_cases hc : c = 48
  · subst hc
    by_cases hq : q = 40 * k + x
    · subst hq
      rw [zup_s, zuc_s, if_pos (by omega), show 40 * k + x - 40 * k = x by omega]
    · rw [zup_k _ _ _ hq, zuc_s, zuc_s]
      by_cases h1 : 40 * k + (x + 1) ≤ q ∧ q < 40 * k + t
      · rw [if_pos h1, if_pos (by omega)]
      · rw [if_neg h1, if_neg (by omega)]
  · rw [zup_c _ _ _ hc, zuc_c _ _ hc, zuc_c _ _ hc]
theorem mwl_c (mu : Mem) {k M ln t x c : Nat} (h1 : c ≠ 47) (h2 : c ≠ 48) : mwl mu k M ln t x c = mu c := by
  unfold mwl; funext z; rw [zuc_c _ _ h2, zup_c _ _ _ h1]
theorem mwl_a {mu nu : Mem} (h : ∀ c, c ≠ 56 → nu c = mu c) {k M ln t x : Nat} : ∀ c, c ≠ 56 → mwl nu k M ln t x c = mwl mu k M ln t x c := by
  intro c hc
  unfold mwl
  by_cases h8 : c = 48
  · subst h8; rw [zuc_s, zuc_s, h 48 (by decide)]
  · rw [zuc_c _ _ h8, zuc_c _ _ h8]
    funext z
    unfold zk_up
    rw [h c hc]
def tlQ (mu : Mem) (lm : MemL) (k M : Nat) (o : Option (Nat × Nat)) : Option Value → Mem → MemL → Prop := fun r m l => l = lm ∧ match o with
  | some (t, ln) => r = some (.int (nI t)) ∧ ∀ c, c ≠ 56 → m c = mwl mu k M ln t 0 c
  | none => r = some (.int (-9)) ∧ ∀ c, c ≠ 56 → m c = mu c
theorem sp_X8_talks {C M : Nat} (hC : mu 46 17 = nI C) (hC8 : C ≤ 8) (hM : mu 46 18 = nI M) (hM6 : M ≤ 6) (hA : ∀ q, q < C → 0 ≤ mu 55 q ∧ mu 55 q ≤ 999) (hL : 0 ≤ mu 46 16 ∧ mu 46 16 ≤ 9) (hC3 : 3 ≤ C) (hM0 : 0 < M) (hS : ∀ j, j < M → ∃ q, q < C ∧ mu 54 j = nI q) {k V c : Nat} (hk : k < 6) (hV : V ≤ 99) (hc : c < C) {w : Int32} (hw : 0 ≤ w ∧ w ≤ 999) : zk_M (d + 4) RX8 cX8_talks 10 (some .int) none 0 (zk_loc [.ref 46, .int (nI V), .int (nI c), .int w, .int (nI k)] 10) [] mu lm (tlQ mu lm k M (fnd2 (hbP mu M V c w) M 4 0)) := by
  have hm : 0 ≤ nI c ∧ nI c < mu 46 17 := ⟨nI_pos' (by omega), by rw [hC, nIlt (by omega) (by omega)]; exact hc⟩
  have hv : (0 : Int32) ≤ nI V ∧ nI V ≤ 99 := ⟨nI_pos' (by omega), show nI V ≤ nI 99 from nI_le hV (by decide)⟩
  have hkk : (0 : Int32) ≤ nI k ∧ nI k ≤ 5 := ⟨nI_pos' (by omega), show nI k ≤ nI 5 from nI_le (by omega) (by decide)⟩
  have hpw : ∀ e, e ≤ 4 → M ^ e ≤ 1296 := fun e he => Nat.le_trans (Nat.pow_le_pow_left hM6 e) (Nat.le_trans (Nat.pow_le_pow_right (by decide) he) (by decide))
  have l3 : ∀ (nu : Mem) (t ln : Nat), (∀ c, c ≠ 56 → nu c = mu c) → t ≤ 3 → ln < 1000 → ∀ x, x ≤ t → zk_M (d + 4) RX8 cX8_talks 10 (some .int) none 96 [.ref 46, .int (nI V), .int (nI c), .int w, .int (nI k), .int (nI (M ^ t)), .int (nI t), .int (nI ln), .int (nI (ln / M ^ (t - x))), .int (nI x - 1)] [] (mwl nu k M ln t x) lm (tlQ mu lm k M (some (t, ln))) := by
    intro nu t ln hu ht hl
    refine zk_dn (fun x ih => ?_)
    intro hx
    have hM2 : mwl nu k M ln t x 46 18 = nI M := by rw [mwl_c _ (by decide) (by decide), hu 46 (by decide)]; exact hM
    have hlt : ln / M ^ (t - x) < 1000 := Nat.lt_of_le_of_lt (Nat.div_le_self _ _) hl
    refine zk_iload (pc := 96) dX8_talks_96 rfl ?_
    refine zk_if_lt (pc := 98) 136 dX8_talks_98 (by decide) (fun h98 => ?_) (fun h98 => ?_)
    · rw [zm_lt (by omega)] at h98
      subst h98
      refine zk_iload (pc := 136) dX8_talks_136 rfl ?_
      exact zk_ireturn (pc := 138) dX8_talks_138 (Or.inl rfl) ⟨rfl, rfl, mwl_a hu⟩
    · rw [zm_lt (by omega)] at h98
      obtain ⟨z, rfl⟩ : ∃ z, x = z + 1 := ⟨x - 1, by omega⟩
      rw [nI_pred]
      refine zk_aload_n (pc := 101) 0 dX8_talks_101 rfl rfl ?_
      refine zk_getR (pc := 102) dX8_talks_102 flX8_13 rfl rfl ?_
      refine zk_bipush (pc := 105) (v := 40) dX8_talks_105 (by decide) ?_
      refine zk_iload (pc := 107) dX8_talks_107 rfl ?_
      refine zk_imul (pc := 109) dX8_talks_109 ?_
      refine zk_iload (pc := 110) dX8_talks_110 rfl ?_
      refine zk_iadd (pc := 112) dX8_talks_112 ?_
      refine zk_iload (pc := 113) dX8_talks_113 rfl ?_
      refine zk_aload_n (pc := 115) 0 dX8_talks_115 rfl rfl ?_
      refine zk_getI (pc := 116) dX8_talks_116 flX8_63 rfl rfl ?_
      refine zk_irem (pc := 119) dX8_talks_119 (by rw [hM2]; exact nI_ne0 hM0 (by omega)) ?_
      rw [hM2, pk_rem (by omega) hM0 (by omega)]
      refine zk_iastore (pc := 120) (40 * k + z) dX8_talks_120 rfl (by rw [show (40 : Int32) = nI 40 from rfl, pk_mul, nI_add]) (by omega) ?_
      have hM3 : zk_up (mwl nu k M ln t (z + 1)) 48 (40 * k + z) (nI (ln / M ^ (t - (z + 1)) % M)) 46 18 = nI M := by rw [zup_c _ _ _ (by decide)]; exact hM2
      refine zk_iload (pc := 121) dX8_talks_121 rfl ?_
      refine zk_aload_n (pc := 123) 0 dX8_talks_123 rfl rfl ?_
      refine zk_getI (pc := 124) dX8_talks_124 flX8_63 rfl rfl ?_
      refine zk_idiv (pc := 127) dX8_talks_127 (by rw [hM3]; exact nI_ne0 hM0 (by omega)) ?_
      rw [hM3, pk_div (by omega) hM0 (by omega)]
      refine zs_istore (pc := 128) (ls' := [_, _, _, _, _, _, _, _, _, _]) 8 dX8_talks_128 (by decide) rfl ?_
      refine zs_iinc (pc := 130) (ls' := [_, _, _, _, _, _, _, _, _, _]) dX8_talks_130 rfl (show nI z + Int32.ofInt (-1) = nI z - 1 from by rw [Int32.sub_eq_add_neg]; rfl) (by decide) rfl ?_
      refine zk_goto (pc := 133) 96 dX8_talks_133 (by decide) ?_
      have e := ih z rfl (by omega)
      rw [show t - z = (t - (z + 1)) + 1 by omega, Nat.pow_succ, ← Nat.div_div_eq_div_mul, ← mwl_s nu (show z < t by omega), show t - 1 - z = t - (z + 1) by omega] at e
      exact e
  have l1 : ∀ t, t ≤ 4 → ∀ (nu : Mem) b7, (∀ c, c ≠ 56 → nu c = mu c) → zk_M (d + 4) RX8 cX8_talks 10 (some .int) none 47 [.ref 46, .int (nI V), .int (nI c), .int w, .int (nI k), .int (nI (M ^ t)), .int (nI t), b7, .retAddr 0, .retAddr 0] [] nu lm (tlQ mu lm k M (fnd2 (hbP mu M V c w) M (4 - t) t)) := by
    refine zk_ind 4 (fun t ht ih => ?_)
    intro nu b7 hu
    have l2 : t < 4 → ∀ ln, ln ≤ M ^ t → ∀ nu : Mem, (∀ c, c ≠ 56 → nu c = mu c) → zk_M (d + 4) RX8 cX8_talks 10 (some .int) none 56 [.ref 46, .int (nI V), .int (nI c), .int w, .int (nI k), .int (nI (M ^ t)), .int (nI t), .int (nI ln), .retAddr 0, .retAddr 0] [] nu lm (tlQ mu lm k M (match fnd1 (hbP mu M V c w t) (M ^ t - ln) ln with | some l => some (t, l) | none => fnd2 (hbP mu M V c w) M (3 - t) (t + 1))) := by
      intro ht4
      have hp := hpw t (by omega)
      have hp3 : M ^ t ≤ 216 := Nat.le_trans (Nat.pow_le_pow_left hM6 t) (Nat.le_trans (Nat.pow_le_pow_right (by decide) (show t ≤ 3 by omega)) (by decide))
      refine zk_ind (M ^ t) (fun ln hln ihl => ?_)
      intro nu hu
      have hM2 : nu 46 18 = nI M := by rw [hu 46 (by decide)]; exact hM
      refine zk_iload (pc := 56) dX8_talks_56 rfl ?_
      refine zk_iload (pc := 58) dX8_talks_58 rfl ?_
      refine zk_icmp_ge (pc := 60) 145 dX8_talks_60 (by decide) (fun h60 => ?_) (fun h60 => ?_)
      · rw [nIle (by omega) (by omega)] at h60
        refine zk_iload (pc := 145) dX8_talks_145 rfl ?_
        refine zk_aload_n (pc := 147) 0 dX8_talks_147 rfl rfl ?_
        refine zk_getI (pc := 148) dX8_talks_148 flX8_63 rfl rfl ?_
        refine zk_imul (pc := 151) dX8_talks_151 ?_
        rw [hM2, pk_mul]
        refine zs_istore (pc := 152) (ls' := [_, _, _, _, _, _, _, _, _, _]) 5 dX8_talks_152 (by decide) rfl ?_
        refine zs_iinc (pc := 154) (ls' := [_, _, _, _, _, _, _, _, _, _]) dX8_talks_154 rfl (nI_1 t) (by decide) rfl ?_
        refine zk_goto (pc := 157) 47 dX8_talks_157 (by decide) ?_
        rw [show M ^ t - ln = 0 by omega]
        have e := ih (by omega) nu (.int (nI ln)) hu
        rw [show 4 - (t + 1) = 3 - t by omega, Nat.pow_succ] at e
        exact e
      · rw [nIle (by omega) (by omega)] at h60
        refine zk_aload_n (pc := 63) 0 dX8_talks_63 rfl rfl ?_
        refine zk_iload (pc := 64) dX8_talks_64 rfl ?_
        refine zk_iload (pc := 66) dX8_talks_66 rfl ?_
        refine zk_iload_n (pc := 68) 1 dX8_talks_68 rfl rfl ?_
        refine zk_iload_n (pc := 69) 2 dX8_talks_69 rfl rfl ?_
        refine zk_iload_n (pc := 70) 3 dX8_talks_70 rfl rfl ?_
        refine zk_callV (pc := 71) dX8_talks_71 mtX8_hangsBy lkX8_193 stX8_hangsBy (by rfl) (by rfl) [_, _, _, _, _] _ rfl rfl (Nat.le_of_ble_eq_true rfl) (Nat.le_of_ble_eq_true rfl) (sp_X8_hangsBy (mu := nu) (C := C) (M := M) (by rw [hu 46 (by decide)]; exact hC) hC8 hM2 hM6 (fun q hq => by rw [hu 55 (by decide)]; exact hA q hq) (by rw [hu 46 (by decide)]; exact hL) hC3 hM0 (fun j hj => by rw [hu 54 (by decide)]; exact hS j hj) (ln := ln) (t := t) (V := V) (c := c) (by omega) (by omega) hV hc w) (fun r m3 l3' q3 => ?_)
        obtain ⟨rfl, rfl, g3⟩ := q3
        have hbE : hbP nu M V c w t ln = hbP mu M V c w t ln := by unfold hbP lnN; rw [hu 55 (by decide), hu 53 (by decide), hu 54 (by decide), hu 46 (by decide)]
        refine zk_if_eq (pc := 74) 139 dX8_talks_74 (by decide) (fun h74 => ?_) (fun h74 => ?_)
        · rw [zb_e] at h74
          refine zs_iinc (pc := 139) (ls' := [_, _, _, _, _, _, _, _, _, _]) dX8_talks_139 rfl (nI_1 ln) (by decide) rfl ?_
          refine zk_goto (pc := 142) 56 dX8_talks_142 (by decide) ?_
          have e := ihl (by omega) m3 (fun c hc => (g3 c hc).trans (hu c hc))
          have hP : hbP nu M V c w t ln = false := by
            by_cases hq : hbP nu M V c w t ln = true
            · exact absurd hq h74
            · exact Bool.eq_false_iff.mpr hq
          rw [hbE] at hP
          rw [show M ^ t - ln = (M ^ t - (ln + 1)) + 1 by omega, fnd1_f hP]
          exact e
        · rw [zb_n] at h74
          refine zk_aload_n (pc := 77) 0 dX8_talks_77 rfl rfl ?_
          refine zk_getR (pc := 78) dX8_talks_78 flX8_7 rfl rfl ?_
          refine zk_iload (pc := 81) dX8_talks_81 rfl ?_
          refine zk_iload (pc := 83) dX8_talks_83 rfl ?_
          refine zk_iastore (pc := 85) k dX8_talks_85 rfl rfl hk ?_
          refine zk_iload (pc := 86) dX8_talks_86 rfl ?_
          refine zs_istore (pc := 88) (ls' := [_, _, _, _, _, _, _, _, _, _]) 8 dX8_talks_88 (by decide) rfl ?_
          refine zk_iload (pc := 90) dX8_talks_90 rfl ?_
          refine zk_iconst (pc := 92) (v := 1) dX8_talks_92 (by decide) ?_
          refine zk_isub (pc := 93) dX8_talks_93 ?_
          refine zs_istore (pc := 94) (ls' := [_, _, _, _, _, _, _, _, _, _]) 9 dX8_talks_94 (by decide) rfl ?_
          have hP : hbP nu M V c w t ln = true := h74
          rw [hbE] at hP
          rw [show M ^ t - ln = (M ^ t - (ln + 1)) + 1 by omega, fnd1_t hP]
          have e := l3 m3 t ln (fun c hc => (g3 c hc).trans (hu c hc)) (by omega) (by omega) t (Nat.le_refl _)
          rw [show t - t = 0 by omega, Nat.pow_zero, Nat.div_one, mwl_t] at e
          exact e
    refine zk_iload (pc := 47) dX8_talks_47 rfl ?_
    refine zk_iconst (pc := 49) (v := 3) dX8_talks_49 (by decide) ?_
    refine zk_icmp_gt (pc := 50) 160 dX8_talks_50 (by decide) (fun h50 => ?_) (fun h50 => ?_)
    · rw [show (3 : Int32) = nI 3 from rfl, nIlt (by omega) (by omega)] at h50
      refine zk_bipush (pc := 160) (v := -9) dX8_talks_160 (by decide) ?_
      rw [show 4 - t = 0 by omega]
      exact zk_ireturn (pc := 162) dX8_talks_162 (Or.inl rfl) ⟨rfl, rfl, hu⟩
    · rw [show (3 : Int32) = nI 3 from rfl, nIlt (by omega) (by omega)] at h50
      refine zk_iconst (pc := 53) (v := 0) dX8_talks_53 (by decide) ?_
      refine zs_istore (pc := 54) (ls' := [_, _, _, _, _, _, _, _, _, _]) 7 dX8_talks_54 (by decide) rfl ?_
      have e := l2 (by omega) 0 (Nat.zero_le _) nu hu
      rw [show 4 - t = (3 - t) + 1 by omega]
      exact e
  refine zk_iload_n (pc := 0) 1 dX8_talks_0 rfl rfl ?_
  refine zk_iconst (pc := 1) (v := 0) dX8_talks_1 (by decide) ?_
  refine zk_bipush (pc := 2) (v := 99) dX8_talks_2 (by decide) ?_
  refine zk_callSI (pc := 4) dX8_talks_4 mtX8_in lkX8_66 stX8_in [_, _, _] _ rfl rfl (Nat.le_of_ble_eq_true rfl) (Nat.le_of_ble_eq_true rfl) (sp_X8_in _ _ _) ?_
  refine zk_if_eq (pc := 7) 39 dX8_talks_7 (by decide) (fun h7 => ?_) (fun h7 => ?_)
  · rw [zb_e] at h7
    exact absurd hv h7 --
  · skip
    refine zk_aload_n (pc := 10) 0 dX8_talks_10 rfl rfl ?_
    refine zk_iload_n (pc := 11) 2 dX8_talks_11 rfl rfl ?_
    refine zk_callVI (pc := 12) dX8_talks_12 mtX8_isCell lkX8_156 stX8_isCell (by rfl) (by rfl) [_] _ rfl rfl (Nat.le_of_ble_eq_true rfl) (Nat.le_of_ble_eq_true rfl) (sp_X8_isCell hC hC8 _) ?_
    refine zk_if_eq (pc := 15) 39 dX8_talks_15 (by decide) (fun h15 => ?_) (fun h15 => ?_)
    · rw [zb_e] at h15
      exact absurd hm h15 --
    · skip
      refine zk_iload_n (pc := 18) 3 dX8_talks_18 rfl rfl ?_
      refine zk_iconst (pc := 19) (v := 0) dX8_talks_19 (by decide) ?_
      refine zk_sipush (pc := 20) (v := 999) dX8_talks_20 (by decide) ?_
      refine zk_callSI (pc := 23) dX8_talks_23 mtX8_in lkX8_66 stX8_in [_, _, _] _ rfl rfl (Nat.le_of_ble_eq_true rfl) (Nat.le_of_ble_eq_true rfl) (sp_X8_in _ _ _) ?_
      refine zk_if_eq (pc := 26) 39 dX8_talks_26 (by decide) (fun h26 => ?_) (fun h26 => ?_)
      · rw [zb_e] at h26
        exact absurd hw h26 --
      · skip
        refine zk_iload (pc := 29) dX8_talks_29 rfl ?_
        refine zk_iconst (pc := 31) (v := 0) dX8_talks_31 (by decide) ?_
        refine zk_iconst (pc := 32) (v := 5) dX8_talks_32 (by decide) ?_
        refine zk_callSI (pc := 33) dX8_talks_33 mtX8_in lkX8_66 stX8_in [_, _, _] _ rfl rfl (Nat.le_of_ble_eq_true rfl) (Nat.le_of_ble_eq_true rfl) (sp_X8_in _ _ _) ?_
        refine zk_if_ne (pc := 36) 41 dX8_talks_36 (by decide) (fun h36 => ?_) (fun h36 => ?_)
        · skip
          refine zk_iconst (pc := 41) (v := 1) dX8_talks_41 (by decide) ?_
          refine zs_istore (pc := 42) (ls' := [_, _, _, _, _, _, _, _, _, _]) 5 dX8_talks_42 (by decide) rfl ?_
          refine zk_iconst (pc := 44) (v := 0) dX8_talks_44 (by decide) ?_
          refine zs_istore (pc := 45) (ls' := [_, _, _, _, _, _, _, _, _, _]) 6 dX8_talks_45 (by decide) rfl ?_
          exact l1 0 (Nat.zero_le _) _ _ (fun _ _ => rfl)
        · rw [zb_e] at h36
          exact absurd hkk h36 --
theorem sp_X8_talks_n {C M : Nat} (hC : mu 46 17 = nI C) (hC8 : C ≤ 8) (hM : mu 46 18 = nI M) (hM6 : M ≤ 6) (v c w r : Int32) (hb : ¬ ((0 ≤ v ∧ v ≤ 99) ∧ (0 ≤ c ∧ c < mu 46 17) ∧ (0 ≤ w ∧ w ≤ 999) ∧ (0 ≤ r ∧ r ≤ 5))) : zk_M (d + 2) RX8 cX8_talks 10 (some .int) none 0 (zk_loc [.ref 46, .int v, .int c, .int w, .int r] 10) [] mu lm (zk_R (some (.int (-1))) mu lm) := by
  refine zk_iload_n (pc := 0) 1 dX8_talks_0 rfl rfl ?_
  refine zk_iconst (pc := 1) (v := 0) dX8_talks_1 (by decide) ?_
  refine zk_bipush (pc := 2) (v := 99) dX8_talks_2 (by decide) ?_
  refine zk_callSI (pc := 4) dX8_talks_4 mtX8_in lkX8_66 stX8_in [_, _, _] _ rfl rfl (Nat.le_of_ble_eq_true rfl) (Nat.le_of_ble_eq_true rfl) (sp_X8_in _ _ _) ?_
  refine zk_if_eq (pc := 7) 39 dX8_talks_7 (by decide) (fun h7 => ?_) (fun h7 => ?_)
  · rw [zb_e] at h7
    refine zk_iconst (pc := 39) (v := -1) dX8_talks_39 (by decide) ?_
    exact zk_ireturn (pc := 40) dX8_talks_40 (Or.inl rfl) (zk_ri rfl)
  · rw [zb_n] at h7
    refine zk_aload_n (pc := 10) 0 dX8_talks_10 rfl rfl ?_
    refine zk_iload_n (pc := 11) 2 dX8_talks_11 rfl rfl ?_
    refine zk_callVI (pc := 12) dX8_talks_12 mtX8_isCell lkX8_156 stX8_isCell (by rfl) (by rfl) [_] _ rfl rfl (Nat.le_of_ble_eq_true rfl) (Nat.le_of_ble_eq_true rfl) (sp_X8_isCell hC hC8 _) ?_
    refine zk_if_eq (pc := 15) 39 dX8_talks_15 (by decide) (fun h15 => ?_) (fun h15 => ?_)
    · rw [zb_e] at h15
      refine zk_iconst (pc := 39) (v := -1) dX8_talks_39 (by decide) ?_
      exact zk_ireturn (pc := 40) dX8_talks_40 (Or.inl rfl) (zk_ri rfl)
    · rw [zb_n] at h15
      refine zk_iload_n (pc := 18) 3 dX8_talks_18 rfl rfl ?_
      refine zk_iconst (pc := 19) (v := 0) dX8_talks_19 (by decide) ?_
      refine zk_sipush (pc := 20) (v := 999) dX8_talks_20 (by decide) ?_
      refine zk_callSI (pc := 23) dX8_talks_23 mtX8_in lkX8_66 stX8_in [_, _, _] _ rfl rfl (Nat.le_of_ble_eq_true rfl) (Nat.le_of_ble_eq_true rfl) (sp_X8_in _ _ _) ?_
      refine zk_if_eq (pc := 26) 39 dX8_talks_26 (by decide) (fun h26 => ?_) (fun h26 => ?_)
      · rw [zb_e] at h26
        refine zk_iconst (pc := 39) (v := -1) dX8_talks_39 (by decide) ?_
        exact zk_ireturn (pc := 40) dX8_talks_40 (Or.inl rfl) (zk_ri rfl)
      · rw [zb_n] at h26
        refine zk_iload (pc := 29) dX8_talks_29 rfl ?_
        refine zk_iconst (pc := 31) (v := 0) dX8_talks_31 (by decide) ?_
        refine zk_iconst (pc := 32) (v := 5) dX8_talks_32 (by decide) ?_
        refine zk_callSI (pc := 33) dX8_talks_33 mtX8_in lkX8_66 stX8_in [_, _, _] _ rfl rfl (Nat.le_of_ble_eq_true rfl) (Nat.le_of_ble_eq_true rfl) (sp_X8_in _ _ _) ?_
        refine zk_if_ne (pc := 36) 41 dX8_talks_36 (by decide) (fun h36 => ?_) (fun h36 => ?_)
        · rw [zb_n] at h36
          exact absurd ⟨h7, h15, h26, h36⟩ hb --
        · rw [zb_e] at h36
          refine zk_iconst (pc := 39) (v := -1) dX8_talks_39 (by decide) ?_
          exact zk_ireturn (pc := 40) dX8_talks_40 (Or.inl rfl) (zk_ri rfl)
end M49
