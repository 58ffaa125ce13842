/-! ===== plain words for answers ===== -/
def zb (P : Prop) [Decidable P] : Int32 := if P then 1 else 0
theorem zb_e {P : Prop} [Decidable P] : (zb P = 0) = ¬ P := by
  unfold zb; by_cases h : P <;> simp [h]
theorem zb_n {P : Prop} [Decidable P] : (¬ zb P = 0) = P := by
  unfold zb; by_cases h : P <;> simp [h]
theorem zb_t {P : Prop} [Decidable P] (h : P) : zb P = 1 := if_pos h
theorem zb_f {P : Prop} [Decidable P] (h : ¬ P) : zb P = 0 := if_neg h
theorem zb_01 {P : Prop} [Decidable P] : zb P = 0 ∨ zb P = 1 := by
  unfold zb; by_cases h : P <;> simp [h]
theorem zk_ri {x y : Int32} {mu : Mem} {lm : MemL} (h : x = y) : zk_R (some (.int y)) mu lm (some (.int x)) mu lm := ⟨by rw [h], rfl, rfl⟩
theorem zk_rl {x y : Int64} {mu : Mem} {lm : MemL} (h : x = y) : zk_R (some (.long y)) mu lm (some (.long x)) mu lm := ⟨by rw [h], rfl, rfl⟩
theorem zk_rm {x y : Int32} {mu mu' : Mem} {lm lm' : MemL} (h : x = y) (h2 : mu = mu') (h3 : lm = lm') : zk_R (some (.int y)) mu' lm' (some (.int x)) mu lm := ⟨by rw [h], h2, h3⟩
theorem zk_rv0 {mu mu' : Mem} {lm lm' : MemL} (h2 : mu = mu') (h3 : lm = lm') : zk_R none mu' lm' none mu lm := ⟨rfl, h2, h3⟩
/-- a loop that counts up to C -/
theorem zk_ind {P : Nat → Prop} (C : Nat) (h : ∀ k, k ≤ C → (k < C → P (k + 1)) → P k) : ∀ k, k ≤ C → P k := by
  have key : ∀ m k, k + m = C → P k := by
    intro m
    induction m with
    | zero => intro k hk; exact h k (by omega) (fun q => by omega)
    | succ m ih => intro k hk; exact h k (by omega) (fun _ => ih (k + 1) (by omega))
  intro k hk
  exact key (C - k) k (by omega)
/-- a loop that counts down to 0: P k is the loop's head with k to go -/
theorem zk_dn {P : Nat → Prop} (h : ∀ k, (∀ j, k = j + 1 → P j) → P k) : ∀ k, P k := by
  intro k
  induction k with
  | zero => exact h 0 (fun j q => by omega)
  | succ k ih => exact h (k + 1) (fun j q => by rw [show j = k by omega]; exact ih)
def zsum : Nat → (Nat → Int32) → Int32
  | 0, _ => 0
  | k + 1, f => zsum k f + f k
theorem zsum_s (k : Nat) (f : Nat → Int32) : zsum (k + 1) f = zsum k f + f k := rfl
theorem zsum_cong {f g : Nat → Int32} : ∀ {n : Nat}, (∀ k, k < n → f k = g k) → zsum n f = zsum n g
  | 0, _ => rfl
  | n + 1, h => by rw [zsum, zsum, zsum_cong (fun k hk => h k (by omega)), h n (by omega)]
theorem zlt {x y : Int32} : (x < y) = (x.toInt < y.toInt) := propext Int32.lt_iff_toInt_lt
theorem zle {x y : Int32} : (x ≤ y) = (x.toInt ≤ y.toInt) := propext Int32.le_iff_toInt_le
theorem zeq {x y : Int32} : (x = y) = (x.toInt = y.toInt) := propext Int32.toInt_inj.symm
theorem nIle {a b : Nat} (ha : a < 2147483648) (hb : b < 2147483648) : (nI a ≤ nI b) = (a ≤ b) := propext (nI_leI ha hb)
theorem nIlt {a b : Nat} (ha : a < 2147483648) (hb : b < 2147483648) : (nI a < nI b) = (a < b) := propext (nI_ltI ha hb)
theorem nIeq {a b : Nat} (ha : a < 2147483648) (hb : b < 2147483648) : (nI a = nI b) = (a = b) := propext (nI_eq ha hb)
theorem zi_10 : ((10 : Int32) = 0) = False := by decide
section M20
variable {d : Nat} {mu : Mem} {lm : MemL}
theorem sp_X7_within (x a b : Int32) : zk_M d RX7 cX7_within 3 (some .boolean) none 0 (zk_loc [.int x, .int a, .int b] 3) [] mu lm (zk_R (some (.int (zb (a ≤ x ∧ x ≤ b)))) mu lm) := by
  refine zk_iload_n (pc := 0) 0 dX7_within_0 rfl rfl ?_
  refine zk_iload_n (pc := 1) 1 dX7_within_1 rfl rfl ?_
  refine zk_icmp_lt (pc := 2) 14 dX7_within_2 (by decide) (fun h2 => ?_) (fun h2 => ?_)
  · skip
    refine zk_iconst (pc := 14) (v := 0) dX7_within_14 (by decide) ?_
    refine zk_ireturn (pc := 15) dX7_within_15 (Or.inr ⟨rfl, by first | exact Or.inl rfl | exact Or.inr rfl⟩) ?_
    apply zk_ri; unfold zb; simp only [zlt, zle] at *; split <;> first | rfl | (exfalso; omega)
  · skip
    refine zk_iload_n (pc := 5) 0 dX7_within_5 rfl rfl ?_
    refine zk_iload_n (pc := 6) 2 dX7_within_6 rfl rfl ?_
    refine zk_icmp_gt (pc := 7) 14 dX7_within_7 (by decide) (fun h7 => ?_) (fun h7 => ?_)
    · skip
      refine zk_iconst (pc := 14) (v := 0) dX7_within_14 (by decide) ?_
      refine zk_ireturn (pc := 15) dX7_within_15 (Or.inr ⟨rfl, by first | exact Or.inl rfl | exact Or.inr rfl⟩) ?_
      apply zk_ri; unfold zb; simp only [zlt, zle] at *; split <;> first | rfl | (exfalso; omega)
    · skip
      refine zk_iconst (pc := 10) (v := 1) dX7_within_10 (by decide) ?_
      refine zk_goto (pc := 11) 15 dX7_within_11 (by decide) ?_
      refine zk_ireturn (pc := 15) dX7_within_15 (Or.inr ⟨rfl, by first | exact Or.inl rfl | exact Or.inr rfl⟩) ?_
      apply zk_ri; unfold zb; simp only [zlt, zle] at *; split <;> first | rfl | (exfalso; omega)
theorem sp_X2_isOf (k w : Int32) (hw : w = 0 ∨ w = 1 ∨ w = 2 ∨ w = 3 ∨ w = 4 ∨ w = 5) : zk_M d RX2 cX2_isOf 2 (some .boolean) none 0 (zk_loc [.int k, .int w] 2) [] mu lm (zk_R (some (.int (zb (w = 0 ∨ (w = 1 ∧ (k = 1 ∨ k = 4)) ∨ (w = 2 ∧ (k = 2 ∨ k = 5)) ∨ (w ≠ 0 ∧ w ≠ 1 ∧ w ≠ 2 ∧ k = w))))) mu lm) := by
  refine zk_iload_n (pc := 0) 1 dX2_isOf_0 rfl rfl ?_
  by_cases e0 : w = 0
  · subst e0
    refine zk_tabIn (pc := 1) 28 dX2_isOf_1 (by decide) (by decide) (by rfl) (by decide) ?_
    refine zk_iconst (pc := 28) (v := 1) dX2_isOf_28 (by decide) ?_
    refine zk_ireturn (pc := 29) dX2_isOf_29 (Or.inr ⟨rfl, by first | exact Or.inl rfl | exact Or.inr rfl⟩) ?_
    apply zk_ri; unfold zb; simp
  by_cases e1 : w = 1
  · subst e1
    refine zk_tabIn (pc := 1) 30 dX2_isOf_1 (by decide) (by decide) (by rfl) (by decide) ?_
    refine zk_iload_n (pc := 30) 0 dX2_isOf_30 rfl rfl ?_
    refine zk_iconst (pc := 31) (v := 1) dX2_isOf_31 (by decide) ?_
    refine zk_icmp_eq (pc := 32) 40 dX2_isOf_32 (by decide) (fun h32 => ?_) (fun h32 => ?_)
    · skip
      refine zk_iconst (pc := 40) (v := 1) dX2_isOf_40 (by decide) ?_
      refine zk_goto (pc := 41) 45 dX2_isOf_41 (by decide) ?_
      refine zk_ireturn (pc := 45) dX2_isOf_45 (Or.inr ⟨rfl, by first | exact Or.inl rfl | exact Or.inr rfl⟩) ?_
      apply zk_ri; unfold zb; simp_all
    · skip
      refine zk_iload_n (pc := 35) 0 dX2_isOf_35 rfl rfl ?_
      refine zk_iconst (pc := 36) (v := 4) dX2_isOf_36 (by decide) ?_
      refine zk_icmp_ne (pc := 37) 44 dX2_isOf_37 (by decide) (fun h37 => ?_) (fun h37 => ?_)
      · skip
        refine zk_iconst (pc := 44) (v := 0) dX2_isOf_44 (by decide) ?_
        refine zk_ireturn (pc := 45) dX2_isOf_45 (Or.inr ⟨rfl, by first | exact Or.inl rfl | exact Or.inr rfl⟩) ?_
        apply zk_ri; unfold zb; simp_all
      · skip
        refine zk_iconst (pc := 40) (v := 1) dX2_isOf_40 (by decide) ?_
        refine zk_goto (pc := 41) 45 dX2_isOf_41 (by decide) ?_
        refine zk_ireturn (pc := 45) dX2_isOf_45 (Or.inr ⟨rfl, by first | exact Or.inl rfl | exact Or.inr rfl⟩) ?_
        apply zk_ri; unfold zb; simp_all
  by_cases e2 : w = 2
  · subst e2
    refine zk_tabIn (pc := 1) 46 dX2_isOf_1 (by decide) (by decide) (by rfl) (by decide) ?_
    refine zk_iload_n (pc := 46) 0 dX2_isOf_46 rfl rfl ?_
    refine zk_iconst (pc := 47) (v := 2) dX2_isOf_47 (by decide) ?_
    refine zk_icmp_eq (pc := 48) 56 dX2_isOf_48 (by decide) (fun h48 => ?_) (fun h48 => ?_)
    · skip
      refine zk_iconst (pc := 56) (v := 1) dX2_isOf_56 (by decide) ?_
      refine zk_goto (pc := 57) 61 dX2_isOf_57 (by decide) ?_
      refine zk_ireturn (pc := 61) dX2_isOf_61 (Or.inr ⟨rfl, by first | exact Or.inl rfl | exact Or.inr rfl⟩) ?_
      apply zk_ri; unfold zb; simp_all
    · skip
      refine zk_iload_n (pc := 51) 0 dX2_isOf_51 rfl rfl ?_
      refine zk_iconst (pc := 52) (v := 5) dX2_isOf_52 (by decide) ?_
      refine zk_icmp_ne (pc := 53) 60 dX2_isOf_53 (by decide) (fun h53 => ?_) (fun h53 => ?_)
      · skip
        refine zk_iconst (pc := 60) (v := 0) dX2_isOf_60 (by decide) ?_
        refine zk_ireturn (pc := 61) dX2_isOf_61 (Or.inr ⟨rfl, by first | exact Or.inl rfl | exact Or.inr rfl⟩) ?_
        apply zk_ri; unfold zb; simp_all
      · skip
        refine zk_iconst (pc := 56) (v := 1) dX2_isOf_56 (by decide) ?_
        refine zk_goto (pc := 57) 61 dX2_isOf_57 (by decide) ?_
        refine zk_ireturn (pc := 61) dX2_isOf_61 (Or.inr ⟨rfl, by first | exact Or.inl rfl | exact Or.inr rfl⟩) ?_
        apply zk_ri; unfold zb; simp_all
  · refine zk_tabOut (pc := 1) 62 dX2_isOf_1 (by rcases hw with rfl | rfl | rfl | rfl | rfl | rfl <;> first | exact absurd rfl e0 | exact absurd rfl e1 | exact absurd rfl e2 | (right; decide)) (by decide) ?_
    refine zk_iload_n (pc := 62) 0 dX2_isOf_62 rfl rfl ?_
    refine zk_iload_n (pc := 63) 1 dX2_isOf_63 rfl rfl ?_
    refine zk_icmp_ne (pc := 64) 71 dX2_isOf_64 (by decide) (fun h64 => ?_) (fun h64 => ?_)
    · skip
      refine zk_iconst (pc := 71) (v := 0) dX2_isOf_71 (by decide) ?_
      refine zk_ireturn (pc := 72) dX2_isOf_72 (Or.inr ⟨rfl, by first | exact Or.inl rfl | exact Or.inr rfl⟩) ?_
      apply zk_ri; unfold zb; simp_all
    · skip
      refine zk_iconst (pc := 67) (v := 1) dX2_isOf_67 (by decide) ?_
      refine zk_goto (pc := 68) 72 dX2_isOf_68 (by decide) ?_
      refine zk_ireturn (pc := 72) dX2_isOf_72 (Or.inr ⟨rfl, by first | exact Or.inl rfl | exact Or.inr rfl⟩) ?_
      apply zk_ri; unfold zb; simp_all
/-- what a kind says of v -/
def kSay (k v : Int32) : Int32 := if k = 2 then v - (v - v / 10 * 10) else if k = 5 then v - v / 10 * 10 else if k = 3 then v else if k = 4 then (if 0 < v / 2 - 1 then v / 2 - 1 else 0) else v / 2
theorem sp_X2_spoken (k v : Int32) : zk_M (d + 1) RX2 cX2_spoken 2 (some .int) none 0 (zk_loc [.int k, .int v] 2) [] mu lm (zk_R (some (.int (kSay k v))) mu lm) := by
  refine zk_iload_n (pc := 0) 0 dX2_spoken_0 rfl rfl ?_
  by_cases e2 : k = 2
  · subst e2
    refine zk_tabIn (pc := 1) 32 dX2_spoken_1 (by decide) (by decide) (by rfl) (by decide) ?_
    refine zk_iload_n (pc := 32) 1 dX2_spoken_32 rfl rfl ?_
    refine zk_iload_n (pc := 33) 1 dX2_spoken_33 rfl rfl ?_
    refine zk_bipush (pc := 34) (v := 10) dX2_spoken_34 (by decide) ?_
    refine zk_irem (pc := 36) dX2_spoken_36 (by decide) ?_
    refine zk_isub (pc := 37) dX2_spoken_37 ?_
    refine zk_ireturn (pc := 38) dX2_spoken_38 (Or.inl rfl) ?_
    exact zk_ri rfl
  by_cases e3 : k = 3
  · subst e3
    refine zk_tabIn (pc := 1) 44 dX2_spoken_1 (by decide) (by decide) (by rfl) (by decide) ?_
    refine zk_iload_n (pc := 44) 1 dX2_spoken_44 rfl rfl ?_
    refine zk_ireturn (pc := 45) dX2_spoken_45 (Or.inl rfl) ?_
    exact zk_ri rfl
  by_cases e4 : k = 4
  · subst e4
    refine zk_tabIn (pc := 1) 46 dX2_spoken_1 (by decide) (by decide) (by rfl) (by decide) ?_
    refine zk_iconst (pc := 46) (v := 0) dX2_spoken_46 (by decide) ?_
    refine zk_iload_n (pc := 47) 1 dX2_spoken_47 rfl rfl ?_
    refine zk_iconst (pc := 48) (v := 2) dX2_spoken_48 (by decide) ?_
    refine zk_idiv (pc := 49) dX2_spoken_49 (by decide) ?_
    refine zk_iconst (pc := 50) (v := 1) dX2_spoken_50 (by decide) ?_
    refine zk_isub (pc := 51) dX2_spoken_51 ?_
    refine zk_mmax (pc := 52) dX2_spoken_52 lkX2_11 (Nat.le_of_ble_eq_true rfl) ?_
    refine zk_ireturn (pc := 55) dX2_spoken_55 (Or.inl rfl) ?_
    exact zk_ri rfl
  by_cases e5 : k = 5
  · subst e5
    refine zk_tabIn (pc := 1) 39 dX2_spoken_1 (by decide) (by decide) (by rfl) (by decide) ?_
    refine zk_iload_n (pc := 39) 1 dX2_spoken_39 rfl rfl ?_
    refine zk_bipush (pc := 40) (v := 10) dX2_spoken_40 (by decide) ?_
    refine zk_irem (pc := 42) dX2_spoken_42 (by decide) ?_
    refine zk_ireturn (pc := 43) dX2_spoken_43 (Or.inl rfl) ?_
    exact zk_ri rfl
  · have a2 : (2 : Int32).toInt = 2 := by decide
    have a3 : (3 : Int32).toInt = 3 := by decide
    have a4 : (4 : Int32).toInt = 4 := by decide
    have a5 : (5 : Int32).toInt = 5 := by decide
    have b2 : ¬ k.toInt = 2 := fun q => e2 (Int32.toInt_inj.mp (q.trans a2.symm))
    have b3 : ¬ k.toInt = 3 := fun q => e3 (Int32.toInt_inj.mp (q.trans a3.symm))
    have b4 : ¬ k.toInt = 4 := fun q => e4 (Int32.toInt_inj.mp (q.trans a4.symm))
    have b5 : ¬ k.toInt = 5 := fun q => e5 (Int32.toInt_inj.mp (q.trans a5.symm))
    refine zk_tabOut (pc := 1) (x := k) 56 dX2_spoken_1 (by omega) (by decide) ?_
    refine zk_iload_n (pc := 56) 1 dX2_spoken_56 rfl rfl ?_
    refine zk_iconst (pc := 57) (v := 2) dX2_spoken_57 (by decide) ?_
    refine zk_idiv (pc := 58) dX2_spoken_58 (by decide) ?_
    refine zk_ireturn (pc := 59) dX2_spoken_59 (Or.inl rfl) ?_
    exact zk_ri (by unfold kSay; rw [if_neg e2, if_neg e5, if_neg e3, if_neg e4])
theorem sp_X2_breathed (k v : Int32) : zk_M (d + 2) RX2 cX2_breathed 2 (some .int) none 0 (zk_loc [.int k, .int v] 2) [] mu lm (zk_R (some (.int (v - kSay k v))) mu lm) := by
  refine zk_iload_n (pc := 0) 1 dX2_breathed_0 rfl rfl ?_
  refine zk_iload_n (pc := 1) 0 dX2_breathed_1 rfl rfl ?_
  refine zk_iload_n (pc := 2) 1 dX2_breathed_2 rfl rfl ?_
  refine zk_callSI (pc := 3) dX2_breathed_3 mtX2_spoken lkX2_17 stX2_spoken [_, _] _ rfl rfl (Nat.le_of_ble_eq_true rfl) (Nat.le_of_ble_eq_true rfl) (sp_X2_spoken _ _) ?_
  refine zk_isub (pc := 6) dX2_breathed_6 ?_
  refine zk_ireturn (pc := 7) dX2_breathed_7 (Or.inl rfl) ?_
  exact zk_ri rfl
theorem sp_X2_meaningsOf (k s : Int32) : zk_M (d + 2) RX2 cX2_meaningsOf 4 (some .int) none 0 (zk_loc [.int k, .int s] 4) [] mu lm (zk_R (some (.int (zsum 100 (fun v => zb (kSay k (nI v) = s))))) mu lm) := by
  have loop : ∀ j, j ≤ 100 → zk_M (d + 2) RX2 cX2_meaningsOf 4 (some .int) none 4 [.int k, .int s, .int (zsum j (fun v => zb (kSay k (nI v) = s))), .int (nI j)] [] mu lm (zk_R (some (.int (zsum 100 (fun v => zb (kSay k (nI v) = s))))) mu lm) := by
    refine zk_ind 100 (fun j hj ih => ?_)
    refine zk_iload_n (pc := 4) 3 dX2_meaningsOf_4 rfl rfl ?_
    refine zk_bipush (pc := 5) (v := 99) dX2_meaningsOf_5 (by decide) ?_
    refine zk_icmp_gt (pc := 7) 33 dX2_meaningsOf_7 (by decide) (fun h7 => ?_) (fun h7 => ?_)
    · rw [show (99 : Int32) = nI 99 from rfl, nIlt (by omega) (by omega)] at h7
      refine zk_iload_n (pc := 33) 2 dX2_meaningsOf_33 rfl rfl ?_
      refine zk_ireturn (pc := 34) dX2_meaningsOf_34 (Or.inl rfl) ?_
      exact zk_ri (by rw [show j = 100 by omega])
    · rw [show (99 : Int32) = nI 99 from rfl, nIlt (by omega) (by omega)] at h7
      refine zk_iload_n (pc := 10) 2 dX2_meaningsOf_10 rfl rfl ?_
      refine zk_iload_n (pc := 11) 0 dX2_meaningsOf_11 rfl rfl ?_
      refine zk_iload_n (pc := 12) 3 dX2_meaningsOf_12 rfl rfl ?_
      refine zk_callSI (pc := 13) dX2_meaningsOf_13 mtX2_spoken lkX2_17 stX2_spoken [_, _] _ rfl rfl (Nat.le_of_ble_eq_true rfl) (Nat.le_of_ble_eq_true rfl) (sp_X2_spoken _ _) ?_
      refine zk_iload_n (pc := 16) 1 dX2_meaningsOf_16 rfl rfl ?_
      refine zk_icmp_ne (pc := 17) 24 dX2_meaningsOf_17 (by decide) (fun h17 => ?_) (fun h17 => ?_)
      · skip
        refine zk_iconst (pc := 24) (v := 0) dX2_meaningsOf_24 (by decide) ?_
        refine zk_iadd (pc := 25) dX2_meaningsOf_25 ?_
        refine zs_istore_n (pc := 26) (ls' := [_, _, _, _]) 2 dX2_meaningsOf_26 rfl (by decide) rfl ?_
        refine zs_iinc (pc := 27) (ls' := [_, _, _, _]) dX2_meaningsOf_27 rfl (nI_1 j) (by decide) rfl ?_
        refine zk_goto (pc := 30) 4 dX2_meaningsOf_30 (by decide) ?_
        have e := ih (by omega)
        rw [zsum_s] at e
        first | (rw [zb_t h17] at e; exact e) | (rw [zb_f h17] at e; exact e)
      · skip
        refine zk_iconst (pc := 20) (v := 1) dX2_meaningsOf_20 (by decide) ?_
        refine zk_goto (pc := 21) 25 dX2_meaningsOf_21 (by decide) ?_
        refine zk_iadd (pc := 25) dX2_meaningsOf_25 ?_
        refine zs_istore_n (pc := 26) (ls' := [_, _, _, _]) 2 dX2_meaningsOf_26 rfl (by decide) rfl ?_
        refine zs_iinc (pc := 27) (ls' := [_, _, _, _]) dX2_meaningsOf_27 rfl (nI_1 j) (by decide) rfl ?_
        refine zk_goto (pc := 30) 4 dX2_meaningsOf_30 (by decide) ?_
        have e := ih (by omega)
        rw [zsum_s] at e
        first | (rw [zb_t h17] at e; exact e) | (rw [zb_f h17] at e; exact e)
  refine zk_iconst (pc := 0) (v := 0) dX2_meaningsOf_0 (by decide) ?_
  refine zs_istore_n (pc := 1) (ls' := [_, _, _, _]) 2 dX2_meaningsOf_1 rfl (by decide) rfl ?_
  refine zk_iconst (pc := 2) (v := 0) dX2_meaningsOf_2 (by decide) ?_
  refine zs_istore_n (pc := 3) (ls' := [_, _, _, _]) 3 dX2_meaningsOf_3 rfl (by decide) rfl ?_
  exact loop 0 (by omega)
/-- the first k below n from j on with p k, or d -/
def zfst (p : Nat → Bool) (dflt : Int32) : Nat → Nat → Int32
  | 0, _ => dflt
  | m + 1, j => if p j then nI j else zfst p dflt m (j + 1)
theorem sp_X2_leastMeaningOf (k s : Int32) : zk_M (d + 2) RX2 cX2_leastMeaningOf 3 (some .int) none 0 (zk_loc [.int k, .int s] 3) [] mu lm (zk_R (some (.int (zfst (fun v => decide (kSay k (nI v) = s)) (-9) 100 0))) mu lm) := by
  have loop : ∀ j, j ≤ 100 → zk_M (d + 2) RX2 cX2_leastMeaningOf 3 (some .int) none 2 [.int k, .int s, .int (nI j)] [] mu lm (zk_R (some (.int (zfst (fun v => decide (kSay k (nI v) = s)) (-9) (100 - j) j))) mu lm) := by
    refine zk_ind 100 (fun j hj ih => ?_)
    refine zk_iload_n (pc := 2) 2 dX2_leastMeaningOf_2 rfl rfl ?_
    refine zk_bipush (pc := 3) (v := 99) dX2_leastMeaningOf_3 (by decide) ?_
    refine zk_icmp_gt (pc := 5) 25 dX2_leastMeaningOf_5 (by decide) (fun h5 => ?_) (fun h5 => ?_)
    · rw [show (99 : Int32) = nI 99 from rfl, nIlt (by omega) (by omega)] at h5
      refine zk_bipush (pc := 25) (v := -9) dX2_leastMeaningOf_25 (by decide) ?_
      refine zk_ireturn (pc := 27) dX2_leastMeaningOf_27 (Or.inl rfl) (zk_ri ?_)
      rw [show 100 - j = 0 by omega]
      rfl
    · rw [show (99 : Int32) = nI 99 from rfl, nIlt (by omega) (by omega)] at h5
      refine zk_iload_n (pc := 8) 0 dX2_leastMeaningOf_8 rfl rfl ?_
      refine zk_iload_n (pc := 9) 2 dX2_leastMeaningOf_9 rfl rfl ?_
      refine zk_callSI (pc := 10) dX2_leastMeaningOf_10 mtX2_spoken lkX2_17 stX2_spoken [_, _] _ rfl rfl (Nat.le_of_ble_eq_true rfl) (Nat.le_of_ble_eq_true rfl) (sp_X2_spoken _ _) ?_
      refine zk_iload_n (pc := 13) 1 dX2_leastMeaningOf_13 rfl rfl ?_
      refine zk_icmp_ne (pc := 14) 19 dX2_leastMeaningOf_14 (by decide) (fun h14 => ?_) (fun h14 => ?_)
      · skip
        refine zs_iinc (pc := 19) (ls' := [_, _, _]) dX2_leastMeaningOf_19 rfl (nI_1 j) (by decide) rfl ?_
        refine zk_goto (pc := 22) 2 dX2_leastMeaningOf_22 (by decide) ?_
        have e := ih (by omega)
        rw [show 100 - j = (100 - (j + 1)) + 1 by omega]
        have e2 : zfst (fun v => decide (kSay k (nI v) = s)) (-9) (100 - (j + 1) + 1) j = zfst (fun v => decide (kSay k (nI v) = s)) (-9) (100 - (j + 1)) (j + 1) := by
          show (if decide (kSay k (nI j) = s) = true then _ else _) = _
          rw [if_neg (by simpa using h14)]
        rw [e2]
        exact e
      · skip
        refine zk_iload_n (pc := 17) 2 dX2_leastMeaningOf_17 rfl rfl ?_
        refine zk_ireturn (pc := 18) dX2_leastMeaningOf_18 (Or.inl rfl) (zk_ri ?_)
        rw [show 100 - j = (100 - (j + 1)) + 1 by omega]
        show _ = (if decide (kSay k (nI j) = s) = true then _ else _)
        rw [if_pos (by simpa using h14)]
  refine zk_iconst (pc := 0) (v := 0) dX2_leastMeaningOf_0 (by decide) ?_
  refine zs_istore_n (pc := 1) (ls' := [_, _, _]) 2 dX2_leastMeaningOf_1 rfl (by decide) rfl ?_
  exact loop 0 (by omega)
end M20
