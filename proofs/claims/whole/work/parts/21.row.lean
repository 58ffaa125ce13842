section M21
variable {d : Nat} {mu : Mem} {lm : MemL}
theorem zup_s {α : Type} (mu : Nat → Nat → α) (c k : Nat) (v : α) : zk_up mu c k v c k = v := by simp [zk_up]
theorem zup_c {α : Type} (mu : Nat → Nat → α) {c k c' : Nat} (v : α) (k' : Nat) (h : c' ≠ c) : zk_up mu c k v c' k' = mu c' k' := by simp [zk_up, h]
theorem zup_k {α : Type} (mu : Nat → Nat → α) {c k k' : Nat} (v : α) (c' : Nat) (h : k' ≠ k) : zk_up mu c k v c' k' = mu c' k' := by simp [zk_up, h]
theorem zuc_s {α : Type} (mu : Nat → Nat → α) (c : Nat) (f : Nat → α) : zk_uc mu c f c = f := by simp [zk_uc]
theorem zuc_c {α : Type} (mu : Nat → Nat → α) {c c' : Nat} (f : Nat → α) (h : c' ≠ c) : zk_uc mu c f c' = mu c' := by simp [zk_uc, h]
theorem zix {i : Int32} {n : Nat} (h0 : 0 ≤ i) (h1 : i < nI n) (hn : n < 2147483648) : i = nI i.toNatClampNeg ∧ i.toNatClampNeg < n := by
  obtain ⟨j, hj, rfl⟩ := nI_of (x := i) (by simp only [zlt, zle] at *; omega)
  rw [nIlt hj hn] at h1
  rw [nI_clamp hj]
  exact ⟨rfl, h1⟩
theorem zrow_ne {c p n : Nat} {fs rs : List Nat} {ci : Nat} (hc : zk_shp[c]? = some (0, ci, fs)) (hp : zk_shp[p]? = some (1, n, rs)) : c ≠ p := by
  intro h; rw [h, hp] at hc; cases hc
/-- a Row: its cell, the cell of its places, how many they are -/
def zRow (c p n : Nat) : Prop := zk_shp[c]? = some (0, 2, [p + 2, 0]) ∧ zk_shp[p]? = some (1, n, []) ∧ n < 2147483648
def rHas (mu : Mem) (c n : Nat) (i : Int32) : Prop := 0 ≤ i ∧ i < mu c 1 ∧ i < nI n
theorem sp_X4_isThere {c p n : Nat} (hr : zRow c p n) : zk_M d RX4 cX4_isThere 1 (some .boolean) none 0 (zk_loc [.ref c] 1) [] mu lm (zk_R (some (.int (zb (0 ≤ mu c 1)))) mu lm) := by
  refine zk_aload_n (pc := 0) 0 dX4_isThere_0 rfl rfl ?_
  refine zk_getI (pc := 1) dX4_isThere_1 flX4_13 hr.1 rfl ?_
  refine zk_if_lt (pc := 4) 11 dX4_isThere_4 (by decide) (fun h4 => ?_) (fun h4 => ?_)
  · skip
    refine zk_iconst (pc := 11) (v := 0) dX4_isThere_11 (by decide) ?_
    refine zk_ireturn (pc := 12) dX4_isThere_12 (Or.inr ⟨rfl, by first | exact Or.inl rfl | exact Or.inr rfl⟩) ?_
    apply zk_ri; unfold zb; simp only [zlt, zle] at *; split <;> first | rfl | (exfalso; omega)
  · skip
    refine zk_iconst (pc := 7) (v := 1) dX4_isThere_7 (by decide) ?_
    refine zk_goto (pc := 8) 12 dX4_isThere_8 (by decide) ?_
    refine zk_ireturn (pc := 12) dX4_isThere_12 (Or.inr ⟨rfl, by first | exact Or.inl rfl | exact Or.inr rfl⟩) ?_
    apply zk_ri; unfold zb; simp only [zlt, zle] at *; split <;> first | rfl | (exfalso; omega)
theorem sp_X4_has {c p n : Nat} (hr : zRow c p n) (i : Int32) : zk_M d RX4 cX4_has 2 (some .boolean) none 0 (zk_loc [.ref c, .int i] 2) [] mu lm (zk_R (some (.int (zb (0 ≤ i ∧ i < mu c 1 ∧ i < nI n)))) mu lm) := by
  refine zk_iload_n (pc := 0) 1 dX4_has_0 rfl rfl ?_
  refine zk_if_lt (pc := 1) 25 dX4_has_1 (by decide) (fun h1 => ?_) (fun h1 => ?_)
  · skip
    refine zk_iconst (pc := 25) (v := 0) dX4_has_25 (by decide) ?_
    refine zk_ireturn (pc := 26) dX4_has_26 (Or.inr ⟨rfl, by first | exact Or.inl rfl | exact Or.inr rfl⟩) ?_
    apply zk_ri; unfold zb; simp only [zlt, zle] at *; split <;> first | rfl | (exfalso; omega)
  · skip
    refine zk_iload_n (pc := 4) 1 dX4_has_4 rfl rfl ?_
    refine zk_aload_n (pc := 5) 0 dX4_has_5 rfl rfl ?_
    refine zk_getI (pc := 6) dX4_has_6 flX4_13 hr.1 rfl ?_
    refine zk_icmp_ge (pc := 9) 25 dX4_has_9 (by decide) (fun h9 => ?_) (fun h9 => ?_)
    · skip
      refine zk_iconst (pc := 25) (v := 0) dX4_has_25 (by decide) ?_
      refine zk_ireturn (pc := 26) dX4_has_26 (Or.inr ⟨rfl, by first | exact Or.inl rfl | exact Or.inr rfl⟩) ?_
      apply zk_ri; unfold zb; simp only [zlt, zle] at *; split <;> first | rfl | (exfalso; omega)
    · skip
      refine zk_iload_n (pc := 12) 1 dX4_has_12 rfl rfl ?_
      refine zk_aload_n (pc := 13) 0 dX4_has_13 rfl rfl ?_
      refine zk_getR (pc := 14) dX4_has_14 flX4_7 hr.1 rfl ?_
      refine zk_alen (pc := 17) dX4_has_17 hr.2.1 (by decide) ?_
      refine zk_icmp_ge (pc := 18) 25 dX4_has_18 (by decide) (fun h18 => ?_) (fun h18 => ?_)
      · skip
        refine zk_iconst (pc := 25) (v := 0) dX4_has_25 (by decide) ?_
        refine zk_ireturn (pc := 26) dX4_has_26 (Or.inr ⟨rfl, by first | exact Or.inl rfl | exact Or.inr rfl⟩) ?_
        apply zk_ri; unfold zb; simp only [zlt, zle] at *; split <;> first | rfl | (exfalso; omega)
      · skip
        refine zk_iconst (pc := 21) (v := 1) dX4_has_21 (by decide) ?_
        refine zk_goto (pc := 22) 26 dX4_has_22 (by decide) ?_
        refine zk_ireturn (pc := 26) dX4_has_26 (Or.inr ⟨rfl, by first | exact Or.inl rfl | exact Or.inr rfl⟩) ?_
        apply zk_ri; unfold zb; simp only [zlt, zle] at *; split <;> first | rfl | (exfalso; omega)
theorem sp_X4_holds {c p n : Nat} (hr : zRow c p n) (i k : Int32) : zk_M d RX4 cX4_holds 3 (some .boolean) none 0 (zk_loc [.ref c, .int i, .int k] 3) [] mu lm (zk_R (some (.int (zb (0 ≤ i ∧ 0 ≤ k ∧ k ≤ mu c 1 ∧ i ≤ mu c 1 - k)))) mu lm) := by
  refine zk_iload_n (pc := 0) 1 dX4_holds_0 rfl rfl ?_
  refine zk_if_lt (pc := 1) 30 dX4_holds_1 (by decide) (fun h1 => ?_) (fun h1 => ?_)
  · skip
    refine zk_iconst (pc := 30) (v := 0) dX4_holds_30 (by decide) ?_
    refine zk_ireturn (pc := 31) dX4_holds_31 (Or.inr ⟨rfl, by first | exact Or.inl rfl | exact Or.inr rfl⟩) ?_
    apply zk_ri; unfold zb; simp only [zlt, zle] at *; split <;> first | rfl | (exfalso; omega)
  · skip
    refine zk_iload_n (pc := 4) 2 dX4_holds_4 rfl rfl ?_
    refine zk_if_lt (pc := 5) 30 dX4_holds_5 (by decide) (fun h5 => ?_) (fun h5 => ?_)
    · skip
      refine zk_iconst (pc := 30) (v := 0) dX4_holds_30 (by decide) ?_
      refine zk_ireturn (pc := 31) dX4_holds_31 (Or.inr ⟨rfl, by first | exact Or.inl rfl | exact Or.inr rfl⟩) ?_
      apply zk_ri; unfold zb; simp only [zlt, zle] at *; split <;> first | rfl | (exfalso; omega)
    · skip
      refine zk_iload_n (pc := 8) 2 dX4_holds_8 rfl rfl ?_
      refine zk_aload_n (pc := 9) 0 dX4_holds_9 rfl rfl ?_
      refine zk_getI (pc := 10) dX4_holds_10 flX4_13 hr.1 rfl ?_
      refine zk_icmp_gt (pc := 13) 30 dX4_holds_13 (by decide) (fun h13 => ?_) (fun h13 => ?_)
      · skip
        refine zk_iconst (pc := 30) (v := 0) dX4_holds_30 (by decide) ?_
        refine zk_ireturn (pc := 31) dX4_holds_31 (Or.inr ⟨rfl, by first | exact Or.inl rfl | exact Or.inr rfl⟩) ?_
        apply zk_ri; unfold zb; simp only [zlt, zle] at *; split <;> first | rfl | (exfalso; omega)
      · skip
        refine zk_iload_n (pc := 16) 1 dX4_holds_16 rfl rfl ?_
        refine zk_aload_n (pc := 17) 0 dX4_holds_17 rfl rfl ?_
        refine zk_getI (pc := 18) dX4_holds_18 flX4_13 hr.1 rfl ?_
        refine zk_iload_n (pc := 21) 2 dX4_holds_21 rfl rfl ?_
        refine zk_isub (pc := 22) dX4_holds_22 ?_
        refine zk_icmp_gt (pc := 23) 30 dX4_holds_23 (by decide) (fun h23 => ?_) (fun h23 => ?_)
        · skip
          refine zk_iconst (pc := 30) (v := 0) dX4_holds_30 (by decide) ?_
          refine zk_ireturn (pc := 31) dX4_holds_31 (Or.inr ⟨rfl, by first | exact Or.inl rfl | exact Or.inr rfl⟩) ?_
          apply zk_ri; unfold zb; simp only [zlt, zle] at *; split <;> first | rfl | (exfalso; omega)
        · skip
          refine zk_iconst (pc := 26) (v := 1) dX4_holds_26 (by decide) ?_
          refine zk_goto (pc := 27) 31 dX4_holds_27 (by decide) ?_
          refine zk_ireturn (pc := 31) dX4_holds_31 (Or.inr ⟨rfl, by first | exact Or.inl rfl | exact Or.inr rfl⟩) ?_
          apply zk_ri; unfold zb; simp only [zlt, zle] at *; split <;> first | rfl | (exfalso; omega)
theorem sp_X4_read {c p n : Nat} (hr : zRow c p n) (i : Int32) : zk_M (d + 1) RX4 cX4_read 2 (some .int) none 0 (zk_loc [.ref c, .int i] 2) [] mu lm (zk_R (some (.int (if 0 ≤ i ∧ i < mu c 1 ∧ i < nI n then mu p i.toNatClampNeg else 0))) mu lm) := by
  refine zk_aload_n (pc := 0) 0 dX4_read_0 rfl rfl ?_
  refine zk_iload_n (pc := 1) 1 dX4_read_1 rfl rfl ?_
  refine zk_callVI (pc := 2) dX4_read_2 mtX4_has lkX4_17 stX4_has hr.1 (by rfl) [_] _ rfl rfl (Nat.le_of_ble_eq_true rfl) (Nat.le_of_ble_eq_true rfl) (sp_X4_has hr i) ?_
  refine zk_if_eq (pc := 5) 17 dX4_read_5 (by decide) (fun h5 => ?_) (fun h5 => ?_)
  · rw [zb_e] at h5
    refine zk_iconst (pc := 17) (v := 0) dX4_read_17 (by decide) ?_
    refine zk_ireturn (pc := 18) dX4_read_18 (Or.inl rfl) (zk_ri ?_)
    first | rw [if_pos h5] | rw [if_neg h5]
  · rw [zb_n] at h5
    refine zk_aload_n (pc := 8) 0 dX4_read_8 rfl rfl ?_
    refine zk_getR (pc := 9) dX4_read_9 flX4_7 hr.1 rfl ?_
    refine zk_iload_n (pc := 12) 1 dX4_read_12 rfl rfl ?_
    refine zk_iaload (pc := 13) i.toNatClampNeg dX4_read_13 hr.2.1 (zix h5.1 h5.2.2 hr.2.2).1 (zix h5.1 h5.2.2 hr.2.2).2 ?_
    refine zk_goto (pc := 14) 18 dX4_read_14 (by decide) ?_
    refine zk_ireturn (pc := 18) dX4_read_18 (Or.inl rfl) (zk_ri ?_)
    first | rw [if_pos h5] | rw [if_neg h5]
theorem sp_X4_write {c p n : Nat} (hr : zRow c p n) (i v : Int32) : zk_M (d + 1) RX4 cX4_write 3 (none) none 0 (zk_loc [.ref c, .int i, .int v] 3) [] mu lm (zk_R none (if 0 ≤ i ∧ i < mu c 1 ∧ i < nI n then zk_up mu p i.toNatClampNeg v else mu) lm) := by
  refine zk_aload_n (pc := 0) 0 dX4_write_0 rfl rfl ?_
  refine zk_iload_n (pc := 1) 1 dX4_write_1 rfl rfl ?_
  refine zk_callVI (pc := 2) dX4_write_2 mtX4_has lkX4_17 stX4_has hr.1 (by rfl) [_] _ rfl rfl (Nat.le_of_ble_eq_true rfl) (Nat.le_of_ble_eq_true rfl) (sp_X4_has hr i) ?_
  refine zk_if_eq (pc := 5) 15 dX4_write_5 (by decide) (fun h5 => ?_) (fun h5 => ?_)
  · rw [zb_e] at h5
    refine zk_return (pc := 15) dX4_write_15 rfl (zk_rv0 ?_ rfl)
    first | rw [if_pos h5] | rw [if_neg h5]
  · rw [zb_n] at h5
    refine zk_aload_n (pc := 8) 0 dX4_write_8 rfl rfl ?_
    refine zk_getR (pc := 9) dX4_write_9 flX4_7 hr.1 rfl ?_
    refine zk_iload_n (pc := 12) 1 dX4_write_12 rfl rfl ?_
    refine zk_iload_n (pc := 13) 2 dX4_write_13 rfl rfl ?_
    refine zk_iastore (pc := 14) i.toNatClampNeg dX4_write_14 hr.2.1 (zix h5.1 h5.2.2 hr.2.2).1 (zix h5.1 h5.2.2 hr.2.2).2 ?_
    refine zk_return (pc := 15) dX4_write_15 rfl (zk_rv0 ?_ rfl)
    first | rw [if_pos h5] | rw [if_neg h5]
/-- places 0 .. j - 1 of the cell p are v -/
def zfill (mu : Mem) (p j : Nat) (v : Int32) : Mem := zk_uc mu p (fun k => if k < j then v else mu p k)
theorem zfill_0 (mu : Mem) (p : Nat) (v : Int32) : zfill mu p 0 v = mu := by
  unfold zfill
  have : (fun k => if k < 0 then v else mu p k) = mu p := by funext k; simp
  rw [this, zk_uc_self]
theorem zfill_s (mu : Mem) (p j : Nat) (v : Int32) : zk_up (zfill mu p j v) p j v = zfill mu p (j + 1) v := by
  funext c k
  unfold zfill zk_up zk_uc
  by_cases hc : c = p
  · subst hc
    by_cases hk : k = j
    · subst hk; simp
    · have e : (k < j + 1) = (k < j) := propext ⟨fun h => by omega, fun h => by omega⟩
      simp [hk, e]
  · simp [hc]
theorem zfill_c (mu : Mem) {p c : Nat} (j : Nat) (v : Int32) (k : Nat) (h : c ≠ p) : zfill mu p j v c k = mu c k := by
  unfold zfill; rw [zuc_c _ _ h]
theorem sp_X4_renew {c p n j : Nat} (hr : zRow c p n) (hj : j ≤ n) (v : Int32) : zk_M (d + 1) RX4 cX4_renew 4 (none) none 0 (zk_loc [.ref c, .int (nI j), .int v] 4) [] mu lm (zk_R none (zfill (zk_up mu c 1 (nI j)) p j v) lm) := by
  have hcp := zrow_ne hr.1 hr.2.1
  have hn := hr.2.2
  have loop : ∀ k, k ≤ j → zk_M (d + 1) RX4 cX4_renew 4 (none) none 15 [.ref c, .int (nI j), .int v, .int (nI k)] [] (zfill (zk_up mu c 1 (nI j)) p k v) lm (zk_R none (zfill (zk_up mu c 1 (nI j)) p j v) lm) := by
    refine zk_ind j (fun k hk ih => ?_)
    refine zk_iload_n (pc := 15) 3 dX4_renew_15 rfl rfl ?_
    refine zk_aload_n (pc := 16) 0 dX4_renew_16 rfl rfl ?_
    refine zk_getI (pc := 17) dX4_renew_17 flX4_13 hr.1 rfl ?_
    refine zk_icmp_ge (pc := 20) 36 dX4_renew_20 (by decide) (fun h20 => ?_) (fun h20 => ?_)
    · rw [zfill_c _ _ _ _ hcp, zup_s, nIle (by omega) (by omega)] at h20
      refine zk_return (pc := 36) dX4_renew_36 rfl (zk_rv0 ?_ rfl)
      rw [show k = j by omega]
    · rw [zfill_c _ _ _ _ hcp, zup_s, nIle (by omega) (by omega)] at h20
      refine zk_aload_n (pc := 23) 0 dX4_renew_23 rfl rfl ?_
      refine zk_getR (pc := 24) dX4_renew_24 flX4_7 hr.1 rfl ?_
      refine zk_iload_n (pc := 27) 3 dX4_renew_27 rfl rfl ?_
      refine zk_iload_n (pc := 28) 2 dX4_renew_28 rfl rfl ?_
      refine zk_iastore (pc := 29) k dX4_renew_29 hr.2.1 rfl (by omega) ?_
      refine zs_iinc (pc := 30) (ls' := [_, _, _, _]) dX4_renew_30 rfl (nI_1 k) (by decide) rfl ?_
      refine zk_goto (pc := 33) 15 dX4_renew_33 (by decide) ?_
      have e := ih (by omega)
      rw [← zfill_s] at e
      exact e
  have e0 := loop 0 (by omega)
  rw [zfill_0] at e0
  refine zk_aload_n (pc := 0) 0 dX4_renew_0 rfl rfl ?_
  refine zk_iload_n (pc := 1) 1 dX4_renew_1 rfl rfl ?_
  refine zk_aload_n (pc := 2) 0 dX4_renew_2 rfl rfl ?_
  refine zk_getR (pc := 3) dX4_renew_3 flX4_7 hr.1 rfl ?_
  refine zk_alen (pc := 6) dX4_renew_6 hr.2.1 (by decide) ?_
  refine zk_mmin (pc := 7) dX4_renew_7 lkX4_21 (Nat.le_of_ble_eq_true rfl) ?_
  refine zk_putI (pc := 10) dX4_renew_10 flX4_13 hr.1 rfl ?_
  refine zk_iconst (pc := 13) (v := 0) dX4_renew_13 (by decide) ?_
  refine zs_istore_n (pc := 14) (ls' := [_, _, _, _]) 3 dX4_renew_14 rfl (by decide) rfl ?_
  rw [if_neg (show ¬ nI n < nI j by rw [nIlt (by omega) (by omega)]; omega)]
  exact e0
/-- p of k, k + 1, .. (m of them) -/
def zall (p : Nat → Bool) : Nat → Nat → Bool
  | 0, _ => true
  | m + 1, k => p k && zall p m (k + 1)
theorem zall_iff (p : Nat → Bool) : ∀ m k, zall p m k = true ↔ ∀ i, i < m → p (k + i) = true
  | 0, k => by simp [zall]
  | m + 1, k => by
    rw [zall, Bool.and_eq_true, zall_iff p m (k + 1)]
    constructor
    · rintro ⟨h1, h2⟩ i hi
      cases i with
      | zero => exact h1
      | succ i => have := h2 i (by omega); rwa [show k + 1 + i = k + (i + 1) by omega] at this
    · intro h
      exact ⟨h 0 (by omega), fun i hi => by have := h (i + 1) (by omega); rwa [show k + (i + 1) = k + 1 + i by omega] at this⟩
theorem zall_t {p : Nat → Bool} {m k : Nat} (h : p k = true) : zall p (m + 1) k = zall p m (k + 1) := by rw [zall, h, Bool.true_and]
theorem zall_f {p : Nat → Bool} {m k : Nat} (h : p k = false) : zall p (m + 1) k = false := by rw [zall, h, Bool.false_and]
theorem zall_0 {p : Nat → Bool} {k : Nat} : zall p 0 k = true := rfl
theorem sp_X4_isAllWithin {c p n j : Nat} (hr : zRow c p n) (hs : mu c 1 = nI j) (hj : j ≤ n) (a b : Int32) : zk_M (d + 2) RX4 cX4_isAllWithin 4 (some .boolean) none 0 (zk_loc [.ref c, .int a, .int b] 4) [] mu lm (zk_R (some (.int (zb (zall (fun i => decide (a ≤ mu p i ∧ mu p i ≤ b)) j 0 = true)))) mu lm) := by
  have hn := hr.2.2
  have loop : ∀ k, k ≤ j → zk_M (d + 2) RX4 cX4_isAllWithin 4 (some .boolean) none 2 [.ref c, .int a, .int b, .int (nI k)] [] mu lm (zk_R (some (.int (zb (zall (fun i => decide (a ≤ mu p i ∧ mu p i ≤ b)) (j - k) k = true)))) mu lm) := by
    refine zk_ind j (fun k hk ih => ?_)
    refine zk_iload_n (pc := 2) 3 dX4_isAllWithin_2 rfl rfl ?_
    refine zk_aload_n (pc := 3) 0 dX4_isAllWithin_3 rfl rfl ?_
    refine zk_getI (pc := 4) dX4_isAllWithin_4 flX4_13 hr.1 rfl ?_
    refine zk_icmp_ge (pc := 7) 31 dX4_isAllWithin_7 (by decide) (fun h7 => ?_) (fun h7 => ?_)
    · rw [hs, nIle (by omega) (by omega)] at h7
      refine zk_iconst (pc := 31) (v := 1) dX4_isAllWithin_31 (by decide) ?_
      refine zk_ireturn (pc := 32) dX4_isAllWithin_32 (Or.inr ⟨rfl, Or.inr rfl⟩) (zk_ri ?_)
      rw [show j - k = 0 by omega, zall_0, zb_t rfl]
    · rw [hs, nIle (by omega) (by omega)] at h7
      refine zk_aload_n (pc := 10) 0 dX4_isAllWithin_10 rfl rfl ?_
      refine zk_iload_n (pc := 11) 3 dX4_isAllWithin_11 rfl rfl ?_
      refine zk_callVI (pc := 12) dX4_isAllWithin_12 mtX4_read lkX4_27 stX4_read hr.1 (by rfl) [_] _ rfl rfl (Nat.le_of_ble_eq_true rfl) (Nat.le_of_ble_eq_true rfl) (by have e := sp_X4_read (d := d) (mu := mu) (lm := lm) hr (nI k); rw [if_pos ⟨nI_pos' (by omega), by rw [hs, nIlt (by omega) (by omega)]; omega, by rw [nIlt (by omega) (by omega)]; omega⟩, nI_clamp (by omega)] at e; exact e) ?_
      refine zk_iload_n (pc := 15) 1 dX4_isAllWithin_15 rfl rfl ?_
      refine zk_iload_n (pc := 16) 2 dX4_isAllWithin_16 rfl rfl ?_
      refine zk_callSNI (pc := 17) dX4_isAllWithin_17 mtX7_within lkX4_31 stX7_within [_, _, _] _ rfl rfl (Nat.le_of_ble_eq_true rfl) (Nat.le_of_ble_eq_true rfl) (sp_X7_within _ _ _) ?_
      refine zk_if_ne (pc := 20) 25 dX4_isAllWithin_20 (by decide) (fun h20 => ?_) (fun h20 => ?_)
      · rw [zb_n] at h20
        refine zs_iinc (pc := 25) (ls' := [_, _, _, _]) dX4_isAllWithin_25 rfl (nI_1 k) (by decide) rfl ?_
        refine zk_goto (pc := 28) 2 dX4_isAllWithin_28 (by decide) ?_
        rw [show j - k = (j - (k + 1)) + 1 by omega, zall_t (by simpa using h20)]
        exact ih (by omega)
      · rw [zb_e] at h20
        refine zk_iconst (pc := 23) (v := 0) dX4_isAllWithin_23 (by decide) ?_
        refine zk_ireturn (pc := 24) dX4_isAllWithin_24 (Or.inr ⟨rfl, Or.inl rfl⟩) (zk_ri ?_)
        rw [show j - k = (j - (k + 1)) + 1 by omega, zall_f (by simpa using h20), zb_f (by decide)]
  refine zk_iconst (pc := 0) (v := 0) dX4_isAllWithin_0 (by decide) ?_
  refine zs_istore_n (pc := 1) (ls' := [_, _, _, _]) 3 dX4_isAllWithin_1 rfl (by decide) rfl ?_
  exact loop 0 (by omega)
end M21
