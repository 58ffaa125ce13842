section M25
variable {d : Nat} {mu : Mem} {lm : MemL}
theorem sp_read {c p n j k : Nat} (hr : zRow c p n) (hs : mu c 1 = nI j) (hj : j ≤ n) (hk : k < j) : zk_M (d + 1) RX4 cX4_read 2 (some .int) none 0 (zk_loc [.ref c, .int (nI k)] 2) [] mu lm (zk_R (some (.int (mu p k))) mu lm) := by
  have hn := hr.2.2
  have e := sp_X4_read (d := d) (mu := mu) (lm := lm) hr (nI k)
  rw [if_pos ⟨nI_pos' (by omega), by rw [hs, nIlt (by omega) (by omega)]; omega, by rw [nIlt (by omega) (by omega)]; omega⟩, nI_clamp (by omega)] at e
  exact e
def zor : Nat → (Nat → Int32) → Int32
  | 0, _ => 0
  | k + 1, f => zor k f ||| f k
theorem zor_s (k : Nat) (f : Nat → Int32) : zor (k + 1) f = zor k f ||| f k := rfl
theorem sp_X3_fit {c p n h : Nat} (hr : zRow c p n) (hs : mu c 1 = nI (2 * h)) (hj : 2 * h ≤ n) (kind : Int32) : zk_M (d + 2) RX3 cX3_fit 3 (some .boolean) none 0 (zk_loc [.ref c, .int kind] 3) [] mu lm (zk_R (some (.int (zb (zall (fun t => decide (kSay kind (mu p (2 * t)) = mu p (2 * t + 1))) h 0 = true)))) mu lm) := by
  have hn := hr.2.2
  have loop : ∀ t, t ≤ h → zk_M (d + 2) RX3 cX3_fit 3 (some .boolean) none 2 [.ref c, .int kind, .int (nI (2 * t))] [] mu lm (zk_R (some (.int (zb (zall (fun t => decide (kSay kind (mu p (2 * t)) = mu p (2 * t + 1))) (h - t) t = true)))) mu lm) := by
    refine zk_ind h (fun t ht ih => ?_)
    refine zk_iload_n (pc := 2) 2 dX3_fit_2 rfl rfl ?_
    refine zk_iconst (pc := 3) (v := 1) dX3_fit_3 (by decide) ?_
    refine zk_iadd (pc := 4) dX3_fit_4 ?_
    refine zk_aload_n (pc := 5) 0 dX3_fit_5 rfl rfl ?_
    refine zk_getI (pc := 6) dX3_fit_6 flX3_7 hr.1 rfl ?_
    refine zk_icmp_ge (pc := 9) 39 dX3_fit_9 (by decide) (fun h9 => ?_) (fun h9 => ?_)
    · rw [hs, nI_1, nIle (by omega) (by omega)] at h9
      refine zk_iconst (pc := 39) (v := 1) dX3_fit_39 (by decide) ?_
      refine zk_ireturn (pc := 40) dX3_fit_40 (Or.inr ⟨rfl, Or.inr rfl⟩) (zk_ri ?_)
      rw [show h - t = 0 by omega, zall_0, zb_t rfl]
    · rw [hs, nI_1, nIle (by omega) (by omega)] at h9
      refine zk_iload_n (pc := 12) 1 dX3_fit_12 rfl rfl ?_
      refine zk_aload_n (pc := 13) 0 dX3_fit_13 rfl rfl ?_
      refine zk_iload_n (pc := 14) 2 dX3_fit_14 rfl rfl ?_
      refine zk_callVI (pc := 15) dX3_fit_15 mtX4_read lkX3_13 stX4_read hr.1 (by rfl) [_] _ rfl rfl (Nat.le_of_ble_eq_true rfl) (Nat.le_of_ble_eq_true rfl) (sp_read hr hs hj (by omega)) ?_
      refine zk_callSI (pc := 18) dX3_fit_18 mtX2_spoken lkX3_17 stX2_spoken [_, _] _ rfl rfl (Nat.le_of_ble_eq_true rfl) (Nat.le_of_ble_eq_true rfl) (sp_X2_spoken _ _) ?_
      refine zk_aload_n (pc := 21) 0 dX3_fit_21 rfl rfl ?_
      refine zk_iload_n (pc := 22) 2 dX3_fit_22 rfl rfl ?_
      refine zk_iconst (pc := 23) (v := 1) dX3_fit_23 (by decide) ?_
      refine zk_iadd (pc := 24) dX3_fit_24 ?_
      rw [nI_1]
      refine zk_callVI (pc := 25) dX3_fit_25 mtX4_read lkX3_13 stX4_read hr.1 (by rfl) [_] _ rfl rfl (Nat.le_of_ble_eq_true rfl) (Nat.le_of_ble_eq_true rfl) (sp_read (k := 2 * t + 1) hr hs hj (by omega)) ?_
      refine zk_icmp_eq (pc := 28) 33 dX3_fit_28 (by decide) (fun h28 => ?_) (fun h28 => ?_)
      · skip
        refine zs_iinc (pc := 33) (ls' := [_, _, _]) dX3_fit_33 rfl (show nI (2 * t) + Int32.ofInt 2 = nI (2 * (t + 1)) from nI_add (2 * t) 2) (by decide) rfl ?_
        refine zk_goto (pc := 36) 2 dX3_fit_36 (by decide) ?_
        rw [show h - t = (h - (t + 1)) + 1 by omega, zall_t (by simpa using h28)]
        exact ih (by omega)
      · skip
        refine zk_iconst (pc := 31) (v := 0) dX3_fit_31 (by decide) ?_
        refine zk_ireturn (pc := 32) dX3_fit_32 (Or.inr ⟨rfl, Or.inl rfl⟩) (zk_ri ?_)
        rw [show h - t = (h - (t + 1)) + 1 by omega, zall_f (by simpa using h28), zb_f (by decide)]
  refine zk_iconst (pc := 0) (v := 0) dX3_fit_0 (by decide) ?_
  refine zs_istore_n (pc := 1) (ls' := [_, _, _]) 2 dX3_fit_1 rfl (by decide) rfl ?_
  exact loop 0 (by omega)
/-- the kinds that can have said it all -/
def kFit (mu : Mem) (p h : Nat) : Int32 := zor 6 (fun k => if zall (fun t => decide (kSay (nI k) (mu p (2 * t)) = mu p (2 * t + 1))) h 0 = true then 1 <<< (nI k &&& 31) else 0)
theorem sp_X3_fittingKinds {c p n h : Nat} (hr : zRow c p n) (hs : mu c 1 = nI (2 * h)) (hj : 2 * h ≤ n) : zk_M (d + 3) RX3 cX3_fittingKinds 3 (some .int) none 0 (zk_loc [.ref c] 3) [] mu lm (zk_R (some (.int (kFit mu p h))) mu lm) := by
  have loop : ∀ k, k ≤ 6 → zk_M (d + 3) RX3 cX3_fittingKinds 3 (some .int) none 4 [.ref c, .int (zor k (fun k => if zall (fun t => decide (kSay (nI k) (mu p (2 * t)) = mu p (2 * t + 1))) h 0 = true then 1 <<< (nI k &&& 31) else 0)), .int (nI k)] [] mu lm (zk_R (some (.int (kFit mu p h))) mu lm) := by
    refine zk_ind 6 (fun k hk ih => ?_)
    refine zk_iload_n (pc := 4) 2 dX3_fittingKinds_4 rfl rfl ?_
    refine zk_bipush (pc := 5) (v := 6) dX3_fittingKinds_5 (by decide) ?_
    refine zk_icmp_ge (pc := 7) 34 dX3_fittingKinds_7 (by decide) (fun h7 => ?_) (fun h7 => ?_)
    · rw [show (6 : Int32) = nI 6 from rfl, nIle (by omega) (by omega)] at h7
      refine zk_iload_n (pc := 34) 1 dX3_fittingKinds_34 rfl rfl ?_
      refine zk_ireturn (pc := 35) dX3_fittingKinds_35 (Or.inl rfl) (zk_ri ?_)
      rw [show k = 6 by omega]; rfl
    · rw [show (6 : Int32) = nI 6 from rfl, nIle (by omega) (by omega)] at h7
      refine zk_iload_n (pc := 10) 1 dX3_fittingKinds_10 rfl rfl ?_
      refine zk_aload_n (pc := 11) 0 dX3_fittingKinds_11 rfl rfl ?_
      refine zk_iload_n (pc := 12) 2 dX3_fittingKinds_12 rfl rfl ?_
      refine zk_callSI (pc := 13) dX3_fittingKinds_13 mtX3_fit lkX3_23 stX3_fit [_, _] _ rfl rfl (Nat.le_of_ble_eq_true rfl) (Nat.le_of_ble_eq_true rfl) (sp_X3_fit hr hs hj _) ?_
      refine zk_if_eq (pc := 16) 25 dX3_fittingKinds_16 (by decide) (fun h16 => ?_) (fun h16 => ?_)
      · rw [zb_e] at h16
        refine zk_iconst (pc := 25) (v := 0) dX3_fittingKinds_25 (by decide) ?_
        refine zk_ior (pc := 26) dX3_fittingKinds_26 ?_
        refine zs_istore_n (pc := 27) (ls' := [_, _, _]) 1 dX3_fittingKinds_27 rfl (by decide) rfl ?_
        refine zs_iinc (pc := 28) (ls' := [_, _, _]) dX3_fittingKinds_28 rfl (nI_1 k) (by decide) rfl ?_
        refine zk_goto (pc := 31) 4 dX3_fittingKinds_31 (by decide) ?_
        have e := ih (by omega)
        rw [zor_s] at e
        first | (rw [if_pos h16] at e; exact e) | (rw [if_neg h16] at e; exact e)
      · rw [zb_n] at h16
        refine zk_iconst (pc := 19) (v := 1) dX3_fittingKinds_19 (by decide) ?_
        refine zk_iload_n (pc := 20) 2 dX3_fittingKinds_20 rfl rfl ?_
        refine zk_ishl (pc := 21) dX3_fittingKinds_21 ?_
        refine zk_goto (pc := 22) 26 dX3_fittingKinds_22 (by decide) ?_
        refine zk_ior (pc := 26) dX3_fittingKinds_26 ?_
        refine zs_istore_n (pc := 27) (ls' := [_, _, _]) 1 dX3_fittingKinds_27 rfl (by decide) rfl ?_
        refine zs_iinc (pc := 28) (ls' := [_, _, _]) dX3_fittingKinds_28 rfl (nI_1 k) (by decide) rfl ?_
        refine zk_goto (pc := 31) 4 dX3_fittingKinds_31 (by decide) ?_
        have e := ih (by omega)
        rw [zor_s] at e
        first | (rw [if_pos h16] at e; exact e) | (rw [if_neg h16] at e; exact e)
  refine zk_iconst (pc := 0) (v := 0) dX3_fittingKinds_0 (by decide) ?_
  refine zs_istore_n (pc := 1) (ls' := [_, _, _]) 1 dX3_fittingKinds_1 rfl (by decide) rfl ?_
  refine zk_iconst (pc := 2) (v := 0) dX3_fittingKinds_2 (by decide) ?_
  refine zs_istore_n (pc := 3) (ls' := [_, _, _]) 2 dX3_fittingKinds_3 rfl (by decide) rfl ?_
  exact loop 0 (by omega)
def pLike (x kind v : Int32) : Int32 := zsum 6 (fun o => if kSay (nI o) v = kSay kind v then (x >>> (nI o &&& 31)) &&& 1 else 0)
theorem sp_X3_partLike (x kind v : Int32) : zk_M (d + 2) RX3 cX3_partLike 6 (some .int) none 0 (zk_loc [.int x, .int kind, .int v] 6) [] mu lm (zk_R (some (.int (pLike x kind v))) mu lm) := by
  have loop : ∀ k, k ≤ 6 → ∀ b : Value, zk_M (d + 2) RX3 cX3_partLike 6 (some .int) none 5 [.int x, .int kind, .int v, .int (zsum k (fun o => if kSay (nI o) v = kSay kind v then (x >>> (nI o &&& 31)) &&& 1 else 0)), .int (nI k), b] [] mu lm (zk_R (some (.int (pLike x kind v))) mu lm) := by
    refine zk_ind 6 (fun k hk ih => ?_)
    intro b
    refine zk_iload (pc := 5) dX3_partLike_5 rfl ?_
    refine zk_bipush (pc := 7) (v := 6) dX3_partLike_7 (by decide) ?_
    refine zk_icmp_ge (pc := 9) 57 dX3_partLike_9 (by decide) (fun h9 => ?_) (fun h9 => ?_)
    · rw [show (6 : Int32) = nI 6 from rfl, nIle (by omega) (by omega)] at h9
      refine zk_iload_n (pc := 57) 3 dX3_partLike_57 rfl rfl ?_
      refine zk_ireturn (pc := 58) dX3_partLike_58 (Or.inl rfl) (zk_ri ?_)
      rw [show k = 6 by omega]; rfl
    · rw [show (6 : Int32) = nI 6 from rfl, nIle (by omega) (by omega)] at h9
      refine zk_iload (pc := 12) dX3_partLike_12 rfl ?_
      refine zk_iload_n (pc := 14) 2 dX3_partLike_14 rfl rfl ?_
      refine zk_callSI (pc := 15) dX3_partLike_15 mtX2_spoken lkX3_17 stX2_spoken [_, _] _ rfl rfl (Nat.le_of_ble_eq_true rfl) (Nat.le_of_ble_eq_true rfl) (sp_X2_spoken _ _) ?_
      refine zk_iload_n (pc := 18) 1 dX3_partLike_18 rfl rfl ?_
      refine zk_iload_n (pc := 19) 2 dX3_partLike_19 rfl rfl ?_
      refine zk_callSI (pc := 20) dX3_partLike_20 mtX2_spoken lkX3_17 stX2_spoken [_, _] _ rfl rfl (Nat.le_of_ble_eq_true rfl) (Nat.le_of_ble_eq_true rfl) (sp_X2_spoken _ _) ?_
      refine zk_icmp_ne (pc := 23) 30 dX3_partLike_23 (by decide) (fun h23 => ?_) (fun h23 => ?_)
      · skip
        refine zk_iconst (pc := 30) (v := 0) dX3_partLike_30 (by decide) ?_
        refine zs_istore (pc := 31) (ls' := [_, _, _, _, _, _]) 5 dX3_partLike_31 (by decide) rfl ?_
        refine zk_iload_n (pc := 33) 3 dX3_partLike_33 rfl rfl ?_
        refine zk_iload (pc := 34) dX3_partLike_34 rfl ?_
        refine zk_if_eq (pc := 36) 48 dX3_partLike_36 (by decide) (fun h36 => ?_) (fun h36 => ?_)
        · skip
          refine zk_iconst (pc := 48) (v := 0) dX3_partLike_48 (by decide) ?_
          refine zk_iadd (pc := 49) dX3_partLike_49 ?_
          refine zs_istore_n (pc := 50) (ls' := [_, _, _, _, _, _]) 3 dX3_partLike_50 rfl (by decide) rfl ?_
          refine zs_iinc (pc := 51) (ls' := [_, _, _, _, _, _]) dX3_partLike_51 rfl (nI_1 k) (by decide) rfl ?_
          refine zk_goto (pc := 54) 5 dX3_partLike_54 (by decide) ?_
          have e := ih (by omega)
          rw [zsum_s] at e
          first
            | exact absurd h36 (by decide)
            | exact absurd rfl h36
            | (rw [if_pos h23] at e; exact e _)
            | (rw [if_neg h23] at e; exact e _)
        · skip
          refine zk_iload_n (pc := 39) 0 dX3_partLike_39 rfl rfl ?_
          refine zk_iload (pc := 40) dX3_partLike_40 rfl ?_
          refine zk_ishr (pc := 42) dX3_partLike_42 ?_
          refine zk_iconst (pc := 43) (v := 1) dX3_partLike_43 (by decide) ?_
          refine zk_iand (pc := 44) dX3_partLike_44 ?_
          refine zk_goto (pc := 45) 49 dX3_partLike_45 (by decide) ?_
          refine zk_iadd (pc := 49) dX3_partLike_49 ?_
          refine zs_istore_n (pc := 50) (ls' := [_, _, _, _, _, _]) 3 dX3_partLike_50 rfl (by decide) rfl ?_
          refine zs_iinc (pc := 51) (ls' := [_, _, _, _, _, _]) dX3_partLike_51 rfl (nI_1 k) (by decide) rfl ?_
          refine zk_goto (pc := 54) 5 dX3_partLike_54 (by decide) ?_
          have e := ih (by omega)
          rw [zsum_s] at e
          first
            | exact absurd h36 (by decide)
            | exact absurd rfl h36
            | (rw [if_pos h23] at e; exact e _)
            | (rw [if_neg h23] at e; exact e _)
      · skip
        refine zk_iconst (pc := 26) (v := 1) dX3_partLike_26 (by decide) ?_
        refine zk_goto (pc := 27) 31 dX3_partLike_27 (by decide) ?_
        refine zs_istore (pc := 31) (ls' := [_, _, _, _, _, _]) 5 dX3_partLike_31 (by decide) rfl ?_
        refine zk_iload_n (pc := 33) 3 dX3_partLike_33 rfl rfl ?_
        refine zk_iload (pc := 34) dX3_partLike_34 rfl ?_
        refine zk_if_eq (pc := 36) 48 dX3_partLike_36 (by decide) (fun h36 => ?_) (fun h36 => ?_)
        · skip
          refine zk_iconst (pc := 48) (v := 0) dX3_partLike_48 (by decide) ?_
          refine zk_iadd (pc := 49) dX3_partLike_49 ?_
          refine zs_istore_n (pc := 50) (ls' := [_, _, _, _, _, _]) 3 dX3_partLike_50 rfl (by decide) rfl ?_
          refine zs_iinc (pc := 51) (ls' := [_, _, _, _, _, _]) dX3_partLike_51 rfl (nI_1 k) (by decide) rfl ?_
          refine zk_goto (pc := 54) 5 dX3_partLike_54 (by decide) ?_
          have e := ih (by omega)
          rw [zsum_s] at e
          first
            | exact absurd h36 (by decide)
            | exact absurd rfl h36
            | (rw [if_pos h23] at e; exact e _)
            | (rw [if_neg h23] at e; exact e _)
        · skip
          refine zk_iload_n (pc := 39) 0 dX3_partLike_39 rfl rfl ?_
          refine zk_iload (pc := 40) dX3_partLike_40 rfl ?_
          refine zk_ishr (pc := 42) dX3_partLike_42 ?_
          refine zk_iconst (pc := 43) (v := 1) dX3_partLike_43 (by decide) ?_
          refine zk_iand (pc := 44) dX3_partLike_44 ?_
          refine zk_goto (pc := 45) 49 dX3_partLike_45 (by decide) ?_
          refine zk_iadd (pc := 49) dX3_partLike_49 ?_
          refine zs_istore_n (pc := 50) (ls' := [_, _, _, _, _, _]) 3 dX3_partLike_50 rfl (by decide) rfl ?_
          refine zs_iinc (pc := 51) (ls' := [_, _, _, _, _, _]) dX3_partLike_51 rfl (nI_1 k) (by decide) rfl ?_
          refine zk_goto (pc := 54) 5 dX3_partLike_54 (by decide) ?_
          have e := ih (by omega)
          rw [zsum_s] at e
          first
            | exact absurd h36 (by decide)
            | exact absurd rfl h36
            | (rw [if_pos h23] at e; exact e _)
            | (rw [if_neg h23] at e; exact e _)
  refine zk_iconst (pc := 0) (v := 0) dX3_partLike_0 (by decide) ?_
  refine zs_istore_n (pc := 1) (ls' := [_, _, _, _, _, _]) 3 dX3_partLike_1 rfl (by decide) rfl ?_
  refine zk_iconst (pc := 2) (v := 0) dX3_partLike_2 (by decide) ?_
  refine zs_istore (pc := 3) (ls' := [_, _, _, _, _, _]) 4 dX3_partLike_3 (by decide) rfl ?_
  exact loop 0 (by omega) _
def gPart (x v : Int32) : Nat → Int32
  | 0 => 0
  | k + 1 => if (x >>> (nI k &&& 31)) &&& 1 = 1 then zmax (gPart x v k) (pLike x (nI k) v) else gPart x v k
theorem gPart_s (x v : Int32) (k : Nat) : gPart x v (k + 1) = if (x >>> (nI k &&& 31)) &&& 1 = 1 then zmax (gPart x v k) (pLike x (nI k) v) else gPart x v k := rfl
theorem sp_X3_greatestPart (x v : Int32) : zk_M (d + 3) RX3 cX3_greatestPart 4 (some .int) none 0 (zk_loc [.int x, .int v] 4) [] mu lm (zk_R (some (.int (gPart x v 6))) mu lm) := by
  have loop : ∀ k, k ≤ 6 → zk_M (d + 3) RX3 cX3_greatestPart 4 (some .int) none 4 [.int x, .int v, .int (gPart x v k), .int (nI k)] [] mu lm (zk_R (some (.int (gPart x v 6))) mu lm) := by
    refine zk_ind 6 (fun k hk ih => ?_)
    refine zk_iload_n (pc := 4) 3 dX3_greatestPart_4 rfl rfl ?_
    refine zk_bipush (pc := 5) (v := 6) dX3_greatestPart_5 (by decide) ?_
    refine zk_icmp_ge (pc := 7) 36 dX3_greatestPart_7 (by decide) (fun h7 => ?_) (fun h7 => ?_)
    · rw [show (6 : Int32) = nI 6 from rfl, nIle (by omega) (by omega)] at h7
      refine zk_iload_n (pc := 36) 2 dX3_greatestPart_36 rfl rfl ?_
      refine zk_ireturn (pc := 37) dX3_greatestPart_37 (Or.inl rfl) (zk_ri ?_)
      rw [show k = 6 by omega]
    · rw [show (6 : Int32) = nI 6 from rfl, nIle (by omega) (by omega)] at h7
      refine zk_iload_n (pc := 10) 0 dX3_greatestPart_10 rfl rfl ?_
      refine zk_iload_n (pc := 11) 3 dX3_greatestPart_11 rfl rfl ?_
      refine zk_ishr (pc := 12) dX3_greatestPart_12 ?_
      refine zk_iconst (pc := 13) (v := 1) dX3_greatestPart_13 (by decide) ?_
      refine zk_iand (pc := 14) dX3_greatestPart_14 ?_
      refine zk_iconst (pc := 15) (v := 1) dX3_greatestPart_15 (by decide) ?_
      refine zk_icmp_ne (pc := 16) 30 dX3_greatestPart_16 (by decide) (fun h16 => ?_) (fun h16 => ?_)
      · skip
        refine zs_iinc (pc := 30) (ls' := [_, _, _, _]) dX3_greatestPart_30 rfl (nI_1 k) (by decide) rfl ?_
        refine zk_goto (pc := 33) 4 dX3_greatestPart_33 (by decide) ?_
        have e := ih (by omega)
        rw [gPart_s] at e
        first | (rw [if_pos h16] at e; exact e) | (rw [if_neg h16] at e; exact e)
      · skip
        refine zk_iload_n (pc := 19) 2 dX3_greatestPart_19 rfl rfl ?_
        refine zk_iload_n (pc := 20) 0 dX3_greatestPart_20 rfl rfl ?_
        refine zk_iload_n (pc := 21) 3 dX3_greatestPart_21 rfl rfl ?_
        refine zk_iload_n (pc := 22) 1 dX3_greatestPart_22 rfl rfl ?_
        refine zk_callSI (pc := 23) dX3_greatestPart_23 mtX3_partLike lkX3_29 stX3_partLike [_, _, _] _ rfl rfl (Nat.le_of_ble_eq_true rfl) (Nat.le_of_ble_eq_true rfl) (sp_X3_partLike _ _ _) ?_
        refine zk_mmax (pc := 26) dX3_greatestPart_26 lkX3_33 (Nat.le_of_ble_eq_true rfl) ?_
        refine zs_istore_n (pc := 29) (ls' := [_, _, _, _]) 2 dX3_greatestPart_29 rfl (by decide) rfl ?_
        refine zs_iinc (pc := 30) (ls' := [_, _, _, _]) dX3_greatestPart_30 rfl (nI_1 k) (by decide) rfl ?_
        refine zk_goto (pc := 33) 4 dX3_greatestPart_33 (by decide) ?_
        have e := ih (by omega)
        rw [gPart_s] at e
        first | (rw [if_pos h16] at e; exact e) | (rw [if_neg h16] at e; exact e)
  refine zk_iconst (pc := 0) (v := 0) dX3_greatestPart_0 (by decide) ?_
  refine zs_istore_n (pc := 1) (ls' := [_, _, _, _]) 2 dX3_greatestPart_1 rfl (by decide) rfl ?_
  refine zk_iconst (pc := 2) (v := 0) dX3_greatestPart_2 (by decide) ?_
  refine zs_istore_n (pc := 3) (ls' := [_, _, _, _]) 3 dX3_greatestPart_3 rfl (by decide) rfl ?_
  exact loop 0 (by omega)
theorem sp_X3_leaksBy {c p n j : Nat} (hr : zRow c p n) (hs : mu c 1 = nI (j + 1)) (hj : j + 1 ≤ n) (leak : Int32) : zk_M (d + 2) RX3 cX3_leaksBy 3 (some .boolean) none 0 (zk_loc [.ref c, .int leak] 3) [] mu lm (zk_R (some (.int (zb (zall (fun t => decide (mu p (t + 1) = zmax 0 (mu p t - leak))) j 0 = true)))) mu lm) := by
  have hn := hr.2.2
  have loop : ∀ t, t ≤ j → zk_M (d + 2) RX3 cX3_leaksBy 3 (some .boolean) none 2 [.ref c, .int leak, .int (nI t)] [] mu lm (zk_R (some (.int (zb (zall (fun t => decide (mu p (t + 1) = zmax 0 (mu p t - leak))) (j - t) t = true)))) mu lm) := by
    refine zk_ind j (fun t ht ih => ?_)
    refine zk_iload_n (pc := 2) 2 dX3_leaksBy_2 rfl rfl ?_
    refine zk_iconst (pc := 3) (v := 1) dX3_leaksBy_3 (by decide) ?_
    refine zk_iadd (pc := 4) dX3_leaksBy_4 ?_
    refine zk_aload_n (pc := 5) 0 dX3_leaksBy_5 rfl rfl ?_
    refine zk_getI (pc := 6) dX3_leaksBy_6 flX3_7 hr.1 rfl ?_
    refine zk_icmp_ge (pc := 9) 41 dX3_leaksBy_9 (by decide) (fun h9 => ?_) (fun h9 => ?_)
    · rw [hs, nI_1, nIle (by omega) (by omega)] at h9
      refine zk_iconst (pc := 41) (v := 1) dX3_leaksBy_41 (by decide) ?_
      refine zk_ireturn (pc := 42) dX3_leaksBy_42 (Or.inr ⟨rfl, Or.inr rfl⟩) (zk_ri ?_)
      rw [show j - t = 0 by omega, zall_0, zb_t rfl]
    · rw [hs, nI_1, nIle (by omega) (by omega)] at h9
      refine zk_aload_n (pc := 12) 0 dX3_leaksBy_12 rfl rfl ?_
      refine zk_iload_n (pc := 13) 2 dX3_leaksBy_13 rfl rfl ?_
      refine zk_iconst (pc := 14) (v := 1) dX3_leaksBy_14 (by decide) ?_
      refine zk_iadd (pc := 15) dX3_leaksBy_15 ?_
      rw [nI_1]
      refine zk_callVI (pc := 16) dX3_leaksBy_16 mtX4_read lkX3_13 stX4_read hr.1 (by rfl) [_] _ rfl rfl (Nat.le_of_ble_eq_true rfl) (Nat.le_of_ble_eq_true rfl) (sp_read (k := t + 1) hr hs hj (by omega)) ?_
      refine zk_iconst (pc := 19) (v := 0) dX3_leaksBy_19 (by decide) ?_
      refine zk_aload_n (pc := 20) 0 dX3_leaksBy_20 rfl rfl ?_
      refine zk_iload_n (pc := 21) 2 dX3_leaksBy_21 rfl rfl ?_
      refine zk_callVI (pc := 22) dX3_leaksBy_22 mtX4_read lkX3_13 stX4_read hr.1 (by rfl) [_] _ rfl rfl (Nat.le_of_ble_eq_true rfl) (Nat.le_of_ble_eq_true rfl) (sp_read hr hs hj (by omega)) ?_
      refine zk_iload_n (pc := 25) 1 dX3_leaksBy_25 rfl rfl ?_
      refine zk_isub (pc := 26) dX3_leaksBy_26 ?_
      refine zk_mmax (pc := 27) dX3_leaksBy_27 lkX3_33 (Nat.le_of_ble_eq_true rfl) ?_
      refine zk_icmp_eq (pc := 30) 35 dX3_leaksBy_30 (by decide) (fun h30 => ?_) (fun h30 => ?_)
      · skip
        refine zs_iinc (pc := 35) (ls' := [_, _, _]) dX3_leaksBy_35 rfl (nI_1 t) (by decide) rfl ?_
        refine zk_goto (pc := 38) 2 dX3_leaksBy_38 (by decide) ?_
        rw [show j - t = (j - (t + 1)) + 1 by omega, zall_t (decide_eq_true h30)]
        exact ih (by omega)
      · skip
        refine zk_iconst (pc := 33) (v := 0) dX3_leaksBy_33 (by decide) ?_
        refine zk_ireturn (pc := 34) dX3_leaksBy_34 (Or.inr ⟨rfl, Or.inl rfl⟩) (zk_ri ?_)
        rw [show j - t = (j - (t + 1)) + 1 by omega, zall_f (decide_eq_false h30), zb_f (by decide)]
  refine zk_iconst (pc := 0) (v := 0) dX3_leaksBy_0 (by decide) ?_
  refine zs_istore_n (pc := 1) (ls' := [_, _, _]) 2 dX3_leaksBy_1 rfl (by decide) rfl ?_
  exact loop 0 (by omega)
end M25
