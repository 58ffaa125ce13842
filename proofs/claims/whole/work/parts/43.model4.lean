section M43
variable {d : Nat} {mu : Mem} {lm : MemL}
/-- the reader stands at place p of text t, of n bytes -/
def rdAt (mu : Mem) (t n p : Nat) : Prop := mu 46 9 = nI p ∧ mu 46 10 = nI (60 * t) ∧ mu 46 11 = nI n ∧ t < 4 ∧ n ≤ 60 ∧ p ≤ n + 3
def lt (f : Nat → Int32) (n p : Nat) : Int32 := if p < n then f p else -1000
def txF (mu : Mem) (t : Nat) : Nat → Int32 := fun q => mu 50 (60 * t + q)
theorem sp_X8_letterAt {t n p : Nat} (h : rdAt mu t n p) : zk_M d RX8 cX8_letterAt 2 (some .int) none 0 (zk_loc [.ref 46, .int (nI p)] 2) [] mu lm (zk_R (some (.int (lt (txF mu t) n p))) mu lm) := by
  obtain ⟨h1, h2, h3, h4, h5, h6⟩ := h
  refine zk_iload_n (pc := 0) 1 dX8_letterAt_0 rfl rfl ?_
  refine zk_aload_n (pc := 1) 0 dX8_letterAt_1 rfl rfl ?_
  refine zk_getI (pc := 2) dX8_letterAt_2 flX8_87 rfl rfl ?_
  refine zk_icmp_ge (pc := 5) 22 dX8_letterAt_5 (by decide) (fun h5b => ?_) (fun h5b => ?_)
  · rw [h3, nIle (by omega) (by omega)] at h5b
    refine zk_sipush (pc := 22) (v := -1000) dX8_letterAt_22 (by decide) ?_
    refine zk_ireturn (pc := 25) dX8_letterAt_25 (Or.inl rfl) (zk_ri ?_)
    unfold lt
    first | (rw [if_neg (by omega)]; done) | (rw [if_pos (by omega)]; rfl)
  · rw [h3, nIle (by omega) (by omega)] at h5b
    refine zk_aload_n (pc := 8) 0 dX8_letterAt_8 rfl rfl ?_
    refine zk_getR (pc := 9) dX8_letterAt_9 flX8_19 rfl rfl ?_
    refine zk_aload_n (pc := 12) 0 dX8_letterAt_12 rfl rfl ?_
    refine zk_getI (pc := 13) dX8_letterAt_13 flX8_90 rfl rfl ?_
    refine zk_iload_n (pc := 16) 1 dX8_letterAt_16 rfl rfl ?_
    refine zk_iadd (pc := 17) dX8_letterAt_17 ?_
    refine zk_iaload (pc := 18) (60 * t + p) dX8_letterAt_18 rfl (by rw [h2, nI_add]) (by omega) ?_
    refine zk_goto (pc := 19) 25 dX8_letterAt_19 (by decide) ?_
    refine zk_ireturn (pc := 25) dX8_letterAt_25 (Or.inl rfl) (zk_ri ?_)
    unfold lt
    first | (rw [if_neg (by omega)]; done) | (rw [if_pos (by omega)]; rfl)
def figM (mu : Mem) (t n p : Nat) (a b : Int32) : Int32 × Mem := if a ≤ lt (txF mu t) n p - 48 ∧ lt (txF mu t) n p - 48 ≤ b then (lt (txF mu t) n p - 48, zk_up mu 46 9 (nI (p + 1))) else (-1, mu)
theorem sp_X8_figure {t n p : Nat} (h : rdAt mu t n p) (a b : Int32) : zk_M (d + 1) RX8 cX8_figure 4 (some .int) none 0 (zk_loc [.ref 46, .int a, .int b] 4) [] mu lm (zk_R (some (.int (figM mu t n p a b).1)) (figM mu t n p a b).2 lm) := by
  refine zk_aload_n (pc := 0) 0 dX8_figure_0 rfl rfl ?_
  refine zk_aload_n (pc := 1) 0 dX8_figure_1 rfl rfl ?_
  refine zk_getI (pc := 2) dX8_figure_2 flX8_93 rfl rfl ?_
  rw [h.1]
  refine zk_callVI (pc := 5) dX8_figure_5 mtX8_letterAt lkX8_96 stX8_letterAt (by rfl) (by rfl) [_] _ rfl rfl (Nat.le_of_ble_eq_true rfl) (Nat.le_of_ble_eq_true rfl) (sp_X8_letterAt h) ?_
  refine zk_bipush (pc := 8) (v := 48) dX8_figure_8 (by decide) ?_
  refine zk_isub (pc := 10) dX8_figure_10 ?_
  refine zs_istore_n (pc := 11) (ls' := [_, _, _, _]) 3 dX8_figure_11 rfl (by decide) rfl ?_
  refine zk_iload_n (pc := 12) 3 dX8_figure_12 rfl rfl ?_
  refine zk_iload_n (pc := 13) 1 dX8_figure_13 rfl rfl ?_
  refine zk_iload_n (pc := 14) 2 dX8_figure_14 rfl rfl ?_
  refine zk_callSI (pc := 15) dX8_figure_15 mtX8_in lkX8_66 stX8_in [_, _, _] _ rfl rfl (Nat.le_of_ble_eq_true rfl) (Nat.le_of_ble_eq_true rfl) (sp_X8_in _ _ _) ?_
  refine zk_if_ne (pc := 18) 23 dX8_figure_18 (by decide) (fun h18 => ?_) (fun h18 => ?_)
  · rw [zb_n] at h18
    refine zk_aload_n (pc := 23) 0 dX8_figure_23 rfl rfl ?_
    refine zk_dup (pc := 24) dX8_figure_24 rfl ?_
    refine zk_getI (pc := 25) dX8_figure_25 flX8_93 rfl rfl ?_
    refine zk_iconst (pc := 28) (v := 1) dX8_figure_28 (by decide) ?_
    refine zk_iadd (pc := 29) dX8_figure_29 ?_
    refine zk_putI (pc := 30) dX8_figure_30 flX8_93 rfl rfl ?_
    refine zk_iload_n (pc := 33) 3 dX8_figure_33 rfl rfl ?_
    refine zk_ireturn (pc := 34) dX8_figure_34 (Or.inl rfl) (zk_pr ?_)
    unfold figM
    rw [if_pos h18, h.1, nI_1]
  · rw [zb_e] at h18
    refine zk_iconst (pc := 21) (v := -1) dX8_figure_21 (by decide) ?_
    exact zk_ireturn (pc := 22) dX8_figure_22 (Or.inl rfl) (zk_pr (by unfold figM; rw [if_neg h18]))
def skR (f : Nat → Int32) (n : Nat) : Nat → Nat → Nat
  | 0, p => p
  | m + 1, p => if lt f n p = 32 then skR f n m (p + 1) else p
theorem skR_s (f : Nat → Int32) (n m p : Nat) : skR f n (m + 1) p = if lt f n p = 32 then skR f n m (p + 1) else p := rfl
/-- behind the blanks from p on -/
def skp (f : Nat → Int32) (n p : Nat) : Nat := skR f n (n - p) p
theorem lt_hi {f : Nat → Int32} {n p : Nat} (h : n ≤ p) : lt f n p = -1000 := by unfold lt; rw [if_neg (by omega)]
theorem skp_s {f : Nat → Int32} {n p : Nat} : skp f n p = if lt f n p = 32 then skp f n (p + 1) else p := by
  unfold skp
  by_cases h : p < n
  · rw [show n - p = (n - (p + 1)) + 1 by omega, skR_s]
  · rw [show n - p = 0 by omega, lt_hi (by omega), if_neg (by decide)]; rfl
theorem rdAt_up {mu : Mem} {t n p p' : Nat} (h : rdAt mu t n p) (hp : p' ≤ n + 3) : rdAt (zk_up mu 46 9 (nI p')) t n p' := ⟨zup_s _ _ _ _, by rw [zup_k _ _ _ (by decide)]; exact h.2.1, by rw [zup_k _ _ _ (by decide)]; exact h.2.2.1, h.2.2.2.1, h.2.2.2.2.1, hp⟩
theorem txF_up {mu : Mem} {t : Nat} (k : Nat) (v : Int32) : txF (zk_up mu 46 k v) t = txF mu t := by funext q; unfold txF; rw [zup_c _ _ _ (by decide)]
theorem zup_same (mu : Mem) {c k : Nat} {v : Int32} (h : mu c k = v) : zk_up mu c k v = mu := by
  funext c' k'
  unfold zk_up
  by_cases q : c' = c ∧ k' = k
  · rw [if_pos q, q.1, q.2]; exact h.symm
  · rw [if_neg q]
theorem zup_up (mu : Mem) {c k : Nat} (v w : Int32) : zk_up (zk_up mu c k v) c k w = zk_up mu c k w := by
  funext c' k'
  unfold zk_up
  by_cases q : c' = c ∧ k' = k
  · rw [if_pos q, if_pos q]
  · rw [if_neg q, if_neg q, if_neg q]
theorem sp_X8_skip {t n p : Nat} (h : rdAt mu t n p) : zk_M (d + 1) RX8 cX8_skip 1 (none) none 0 (zk_loc [.ref 46] 1) [] mu lm (zk_R none (zk_up mu 46 9 (nI (skp (txF mu t) n p))) lm) := by
  have loop : ∀ m p, n - p ≤ m → ∀ nu : Mem, rdAt nu t n p → zk_M (d + 1) RX8 cX8_skip 1 (none) none 0 [.ref 46] [] nu lm (zk_R none (zk_up nu 46 9 (nI (skp (txF nu t) n p))) lm) := by
    intro m
    induction m with
    | zero =>
      intro p hm nu h
      refine zk_aload_n (pc := 0) 0 dX8_skip_0 rfl rfl ?_
      refine zk_aload_n (pc := 1) 0 dX8_skip_1 rfl rfl ?_
      refine zk_getI (pc := 2) dX8_skip_2 flX8_93 rfl rfl ?_
      rw [h.1]
      refine zk_callVI (pc := 5) dX8_skip_5 mtX8_letterAt lkX8_96 stX8_letterAt (by rfl) (by rfl) [_] _ rfl rfl (Nat.le_of_ble_eq_true rfl) (Nat.le_of_ble_eq_true rfl) (sp_X8_letterAt h) ?_
      refine zk_bipush (pc := 8) (v := 32) dX8_skip_8 (by decide) ?_
      refine zk_icmp_ne (pc := 10) 26 dX8_skip_10 (by decide) (fun h10 => ?_) (fun h10 => ?_)
      · skip
        refine zk_return (pc := 26) dX8_skip_26 rfl (zk_rv0 ?_ rfl)
        rw [skp_s, if_neg h10, zup_same _ h.1]
      · rw [lt_hi (by omega)] at h10
        exact absurd h10 (by decide) --
    | succ m ih =>
      intro p hm nu h
      have hpn : ¬ n ≤ p → p + 1 ≤ n + 3 := by omega
      refine zk_aload_n (pc := 0) 0 dX8_skip_0 rfl rfl ?_
      refine zk_aload_n (pc := 1) 0 dX8_skip_1 rfl rfl ?_
      refine zk_getI (pc := 2) dX8_skip_2 flX8_93 rfl rfl ?_
      rw [h.1]
      refine zk_callVI (pc := 5) dX8_skip_5 mtX8_letterAt lkX8_96 stX8_letterAt (by rfl) (by rfl) [_] _ rfl rfl (Nat.le_of_ble_eq_true rfl) (Nat.le_of_ble_eq_true rfl) (sp_X8_letterAt h) ?_
      refine zk_bipush (pc := 8) (v := 32) dX8_skip_8 (by decide) ?_
      refine zk_icmp_ne (pc := 10) 26 dX8_skip_10 (by decide) (fun h10 => ?_) (fun h10 => ?_)
      · skip
        refine zk_return (pc := 26) dX8_skip_26 rfl (zk_rv0 ?_ rfl)
        rw [skp_s, if_neg h10, zup_same _ h.1]
      · skip
        refine zk_aload_n (pc := 13) 0 dX8_skip_13 rfl rfl ?_
        refine zk_dup (pc := 14) dX8_skip_14 rfl ?_
        refine zk_getI (pc := 15) dX8_skip_15 flX8_93 rfl rfl ?_
        refine zk_iconst (pc := 18) (v := 1) dX8_skip_18 (by decide) ?_
        refine zk_iadd (pc := 19) dX8_skip_19 ?_
        refine zk_putI (pc := 20) dX8_skip_20 flX8_93 rfl rfl ?_
        refine zk_goto (pc := 23) 0 dX8_skip_23 (by decide) ?_
        have hp : ¬ n ≤ p := fun q => by rw [lt_hi q] at h10; exact absurd h10 (by decide)
        rw [h.1, nI_1]
        have e := ih (p + 1) (by omega) (zk_up nu 46 9 (nI (p + 1))) (rdAt_up h (by omega))
        rw [txF_up, zup_up] at e
        rw [skp_s, if_pos h10]
        exact e
  exact loop (n - p) p (Nat.le_refl _) mu h
def sbv (x : Int32) : Int32 := if x = 109 then 0 else if x = 98 then 1 else if x = 121 then 2 else if x = 102 then 3 else if x = 97 then 4 else if x = 118 then 5 else -1
theorem sp_X8_sortBy (x : Int32) : zk_M d RX8 cX8_sortBy 1 (some .int) none 0 (zk_loc [.int x] 1) [] mu lm (zk_R (some (.int (sbv x))) mu lm) := by
  refine zk_iload_n (pc := 0) 0 dX8_sortBy_0 rfl rfl ?_
  refine zk_bipush (pc := 1) (v := 109) dX8_sortBy_1 (by decide) ?_
  refine zk_icmp_ne (pc := 3) 10 dX8_sortBy_3 (by decide) (fun h3 => ?_) (fun h3 => ?_)
  · skip
    refine zk_iload_n (pc := 10) 0 dX8_sortBy_10 rfl rfl ?_
    refine zk_bipush (pc := 11) (v := 98) dX8_sortBy_11 (by decide) ?_
    refine zk_icmp_ne (pc := 13) 20 dX8_sortBy_13 (by decide) (fun h13 => ?_) (fun h13 => ?_)
    · skip
      refine zk_iload_n (pc := 20) 0 dX8_sortBy_20 rfl rfl ?_
      refine zk_bipush (pc := 21) (v := 121) dX8_sortBy_21 (by decide) ?_
      refine zk_icmp_ne (pc := 23) 30 dX8_sortBy_23 (by decide) (fun h23 => ?_) (fun h23 => ?_)
      · skip
        refine zk_iload_n (pc := 30) 0 dX8_sortBy_30 rfl rfl ?_
        refine zk_bipush (pc := 31) (v := 102) dX8_sortBy_31 (by decide) ?_
        refine zk_icmp_ne (pc := 33) 40 dX8_sortBy_33 (by decide) (fun h33 => ?_) (fun h33 => ?_)
        · skip
          refine zk_iload_n (pc := 40) 0 dX8_sortBy_40 rfl rfl ?_
          refine zk_bipush (pc := 41) (v := 97) dX8_sortBy_41 (by decide) ?_
          refine zk_icmp_ne (pc := 43) 50 dX8_sortBy_43 (by decide) (fun h43 => ?_) (fun h43 => ?_)
          · skip
            refine zk_iload_n (pc := 50) 0 dX8_sortBy_50 rfl rfl ?_
            refine zk_bipush (pc := 51) (v := 118) dX8_sortBy_51 (by decide) ?_
            refine zk_icmp_ne (pc := 53) 60 dX8_sortBy_53 (by decide) (fun h53 => ?_) (fun h53 => ?_)
            · skip
              refine zk_iconst (pc := 60) (v := -1) dX8_sortBy_60 (by decide) ?_
              refine zk_ireturn (pc := 61) dX8_sortBy_61 (Or.inl rfl) ?_
              apply zk_ri; unfold sbv
              first | rw [if_pos h3] | rw [if_neg h3, if_pos h13] | rw [if_neg h3, if_neg h13, if_pos h23] | rw [if_neg h3, if_neg h13, if_neg h23, if_pos h33] | rw [if_neg h3, if_neg h13, if_neg h23, if_neg h33, if_pos h43] | rw [if_neg h3, if_neg h13, if_neg h23, if_neg h33, if_neg h43, if_pos h53] | rw [if_neg h3, if_neg h13, if_neg h23, if_neg h33, if_neg h43, if_neg h53]
            · skip
              refine zk_iconst (pc := 56) (v := 5) dX8_sortBy_56 (by decide) ?_
              refine zk_goto (pc := 57) 61 dX8_sortBy_57 (by decide) ?_
              refine zk_ireturn (pc := 61) dX8_sortBy_61 (Or.inl rfl) ?_
              apply zk_ri; unfold sbv
              first | rw [if_pos h3] | rw [if_neg h3, if_pos h13] | rw [if_neg h3, if_neg h13, if_pos h23] | rw [if_neg h3, if_neg h13, if_neg h23, if_pos h33] | rw [if_neg h3, if_neg h13, if_neg h23, if_neg h33, if_pos h43] | rw [if_neg h3, if_neg h13, if_neg h23, if_neg h33, if_neg h43, if_pos h53] | rw [if_neg h3, if_neg h13, if_neg h23, if_neg h33, if_neg h43, if_neg h53]
          · skip
            refine zk_iconst (pc := 46) (v := 4) dX8_sortBy_46 (by decide) ?_
            refine zk_goto (pc := 47) 61 dX8_sortBy_47 (by decide) ?_
            refine zk_ireturn (pc := 61) dX8_sortBy_61 (Or.inl rfl) ?_
            apply zk_ri; unfold sbv
            first | rw [if_pos h3] | rw [if_neg h3, if_pos h13] | rw [if_neg h3, if_neg h13, if_pos h23] | rw [if_neg h3, if_neg h13, if_neg h23, if_pos h33] | rw [if_neg h3, if_neg h13, if_neg h23, if_neg h33, if_pos h43] | rw [if_neg h3, if_neg h13, if_neg h23, if_neg h33, if_neg h43, if_pos h53] | rw [if_neg h3, if_neg h13, if_neg h23, if_neg h33, if_neg h43, if_neg h53]
        · skip
          refine zk_iconst (pc := 36) (v := 3) dX8_sortBy_36 (by decide) ?_
          refine zk_goto (pc := 37) 61 dX8_sortBy_37 (by decide) ?_
          refine zk_ireturn (pc := 61) dX8_sortBy_61 (Or.inl rfl) ?_
          apply zk_ri; unfold sbv
          first | rw [if_pos h3] | rw [if_neg h3, if_pos h13] | rw [if_neg h3, if_neg h13, if_pos h23] | rw [if_neg h3, if_neg h13, if_neg h23, if_pos h33] | rw [if_neg h3, if_neg h13, if_neg h23, if_neg h33, if_pos h43] | rw [if_neg h3, if_neg h13, if_neg h23, if_neg h33, if_neg h43, if_pos h53] | rw [if_neg h3, if_neg h13, if_neg h23, if_neg h33, if_neg h43, if_neg h53]
      · skip
        refine zk_iconst (pc := 26) (v := 2) dX8_sortBy_26 (by decide) ?_
        refine zk_goto (pc := 27) 61 dX8_sortBy_27 (by decide) ?_
        refine zk_ireturn (pc := 61) dX8_sortBy_61 (Or.inl rfl) ?_
        apply zk_ri; unfold sbv
        first | rw [if_pos h3] | rw [if_neg h3, if_pos h13] | rw [if_neg h3, if_neg h13, if_pos h23] | rw [if_neg h3, if_neg h13, if_neg h23, if_pos h33] | rw [if_neg h3, if_neg h13, if_neg h23, if_neg h33, if_pos h43] | rw [if_neg h3, if_neg h13, if_neg h23, if_neg h33, if_neg h43, if_pos h53] | rw [if_neg h3, if_neg h13, if_neg h23, if_neg h33, if_neg h43, if_neg h53]
    · skip
      refine zk_iconst (pc := 16) (v := 1) dX8_sortBy_16 (by decide) ?_
      refine zk_goto (pc := 17) 61 dX8_sortBy_17 (by decide) ?_
      refine zk_ireturn (pc := 61) dX8_sortBy_61 (Or.inl rfl) ?_
      apply zk_ri; unfold sbv
      first | rw [if_pos h3] | rw [if_neg h3, if_pos h13] | rw [if_neg h3, if_neg h13, if_pos h23] | rw [if_neg h3, if_neg h13, if_neg h23, if_pos h33] | rw [if_neg h3, if_neg h13, if_neg h23, if_neg h33, if_pos h43] | rw [if_neg h3, if_neg h13, if_neg h23, if_neg h33, if_neg h43, if_pos h53] | rw [if_neg h3, if_neg h13, if_neg h23, if_neg h33, if_neg h43, if_neg h53]
  · skip
    refine zk_iconst (pc := 6) (v := 0) dX8_sortBy_6 (by decide) ?_
    refine zk_goto (pc := 7) 61 dX8_sortBy_7 (by decide) ?_
    refine zk_ireturn (pc := 61) dX8_sortBy_61 (Or.inl rfl) ?_
    apply zk_ri; unfold sbv
    first | rw [if_pos h3] | rw [if_neg h3, if_pos h13] | rw [if_neg h3, if_neg h13, if_pos h23] | rw [if_neg h3, if_neg h13, if_neg h23, if_pos h33] | rw [if_neg h3, if_neg h13, if_neg h23, if_neg h33, if_pos h43] | rw [if_neg h3, if_neg h13, if_neg h23, if_neg h33, if_neg h43, if_pos h53] | rw [if_neg h3, if_neg h13, if_neg h23, if_neg h33, if_neg h43, if_neg h53]
/-- the ceiling's head from p on: what comes, and the memory behind it -/
def ceiM (mu : Mem) (t n p : Nat) : Int32 × Mem :=
  if lt (txF mu t) n p = 112 then
    (if 0 ≤ lt (txF mu t) n (p + 1) - 48 ∧ lt (txF mu t) n (p + 1) - 48 ≤ 9 then
      (if 3 ≤ lt (txF mu t) n (p + 2) - 48 ∧ lt (txF mu t) n (p + 2) - 48 ≤ 8 then (1, zk_up (zk_up (zk_up (zk_up mu 46 9 (nI (p + 2))) 46 12 (lt (txF mu t) n (p + 1) - 48)) 46 9 (nI (p + 3))) 46 13 (lt (txF mu t) n (p + 2) - 48))
       else (0, zk_up (zk_up (zk_up mu 46 9 (nI (p + 2))) 46 12 (lt (txF mu t) n (p + 1) - 48)) 46 13 (-1)))
     else (0, zk_up (zk_up mu 46 9 (nI (p + 1))) 46 12 (-1)))
  else (0, mu)
theorem rdAt_k {mu : Mem} {t n p k : Nat} {v : Int32} (h : rdAt mu t n p) (h1 : k ≠ 9) (h2 : k ≠ 10) (h3 : k ≠ 11) : rdAt (zk_up mu 46 k v) t n p := ⟨by rw [zup_k _ _ _ (Ne.symm h1)]; exact h.1, by rw [zup_k _ _ _ (Ne.symm h2)]; exact h.2.1, by rw [zup_k _ _ _ (Ne.symm h3)]; exact h.2.2.1, h.2.2.2.1, h.2.2.2.2.1, h.2.2.2.2.2⟩
theorem sp_X8_isCeiling {t n p : Nat} (h : rdAt mu t n p) (hp : p ≤ n) : zk_M (d + 2) RX8 cX8_isCeiling 1 (some .boolean) none 0 (zk_loc [.ref 46] 1) [] mu lm (zk_R (some (.int (ceiM mu t n p).1)) (ceiM mu t n p).2 lm) := by
  by_cases a1 : lt (txF mu t) n p = 112
  · have hpn : p < n := by
      rcases Nat.lt_or_ge p n with q | q
      · exact q
      · rw [lt_hi q] at a1; exact absurd a1 (by decide)
    have r1 := rdAt_up h (p' := p + 1) (by omega)
    by_cases a2 : 0 ≤ lt (txF mu t) n (p + 1) - 48 ∧ lt (txF mu t) n (p + 1) - 48 ≤ 9
    · have f1 : figM (zk_up mu 46 9 (nI (p + 1))) t n (p + 1) 0 9 = (lt (txF mu t) n (p + 1) - 48, zk_up mu 46 9 (nI (p + 2))) := by
        unfold figM; rw [txF_up, if_pos a2, zup_up]
      have r2 := rdAt_k (k := 12) (v := lt (txF mu t) n (p + 1) - 48) (rdAt_up h (p' := p + 2) (by omega)) (by decide) (by decide) (by decide)
      by_cases a3 : 3 ≤ lt (txF mu t) n (p + 2) - 48 ∧ lt (txF mu t) n (p + 2) - 48 ≤ 8
      · have f2 : figM (zk_up (zk_up mu 46 9 (nI (p + 2))) 46 12 (lt (txF mu t) n (p + 1) - 48)) t n (p + 2) 3 8 = (lt (txF mu t) n (p + 2) - 48, zk_up (zk_up (zk_up mu 46 9 (nI (p + 2))) 46 12 (lt (txF mu t) n (p + 1) - 48)) 46 9 (nI (p + 3))) := by
          unfold figM; rw [txF_up, txF_up, if_pos a3]
        have hf : ceiM mu t n p = (1, zk_up (zk_up (zk_up (zk_up mu 46 9 (nI (p + 2))) 46 12 (lt (txF mu t) n (p + 1) - 48)) 46 9 (nI (p + 3))) 46 13 (lt (txF mu t) n (p + 2) - 48)) := by unfold ceiM; rw [if_pos a1, if_pos a2, if_pos a3]
        rw [hf]
        refine zk_aload_n (pc := 0) 0 dX8_isCeiling_0 rfl rfl ?_
        refine zk_aload_n (pc := 1) 0 dX8_isCeiling_1 rfl rfl ?_
        refine zk_getI (pc := 2) dX8_isCeiling_2 flX8_93 rfl rfl ?_
        rw [h.1]
        refine zk_callVI (pc := 5) dX8_isCeiling_5 mtX8_letterAt lkX8_96 stX8_letterAt (by rfl) (by rfl) [_] _ rfl rfl (Nat.le_of_ble_eq_true rfl) (Nat.le_of_ble_eq_true rfl) (sp_X8_letterAt h) ?_
        refine zk_bipush (pc := 8) (v := 112) dX8_isCeiling_8 (by decide) ?_
        refine zk_icmp_eq (pc := 10) 15 dX8_isCeiling_10 (by decide) (fun h10 => ?_) (fun h10 => ?_)
        · skip
          refine zk_aload_n (pc := 15) 0 dX8_isCeiling_15 rfl rfl ?_
          refine zk_dup (pc := 16) dX8_isCeiling_16 rfl ?_
          refine zk_getI (pc := 17) dX8_isCeiling_17 flX8_93 rfl rfl ?_
          refine zk_iconst (pc := 20) (v := 1) dX8_isCeiling_20 (by decide) ?_
          refine zk_iadd (pc := 21) dX8_isCeiling_21 ?_
          refine zk_putI (pc := 22) dX8_isCeiling_22 flX8_93 rfl rfl ?_
          rw [h.1, nI_1]
          refine zk_aload_n (pc := 25) 0 dX8_isCeiling_25 rfl rfl ?_
          refine zk_aload_n (pc := 26) 0 dX8_isCeiling_26 rfl rfl ?_
          refine zk_iconst (pc := 27) (v := 0) dX8_isCeiling_27 (by decide) ?_
          refine zk_bipush (pc := 28) (v := 9) dX8_isCeiling_28 (by decide) ?_
          refine zk_callVI (pc := 30) dX8_isCeiling_30 mtX8_figure lkX8_99 stX8_figure (by rfl) (by rfl) [_, _] _ rfl rfl (Nat.le_of_ble_eq_true rfl) (Nat.le_of_ble_eq_true rfl) (by have q := sp_X8_figure (d := d) (mu := zk_up mu 46 9 (nI (p + 1))) (lm := lm) r1 0 9; rw [f1] at q; dsimp only at q; exact q) ?_
          refine zk_putI (pc := 33) dX8_isCeiling_33 flX8_102 rfl rfl ?_
          skip
          refine zk_aload_n (pc := 36) 0 dX8_isCeiling_36 rfl rfl ?_
          refine zk_getI (pc := 37) dX8_isCeiling_37 flX8_102 rfl rfl ?_
          refine zk_if_ge (pc := 40) 45 dX8_isCeiling_40 (by decide) (fun h40 => ?_) (fun h40 => ?_)
          · skip
            refine zk_aload_n (pc := 45) 0 dX8_isCeiling_45 rfl rfl ?_
            refine zk_aload_n (pc := 46) 0 dX8_isCeiling_46 rfl rfl ?_
            refine zk_iconst (pc := 47) (v := 3) dX8_isCeiling_47 (by decide) ?_
            refine zk_bipush (pc := 48) (v := 8) dX8_isCeiling_48 (by decide) ?_
            refine zk_callVI (pc := 50) dX8_isCeiling_50 mtX8_figure lkX8_99 stX8_figure (by rfl) (by rfl) [_, _] _ rfl rfl (Nat.le_of_ble_eq_true rfl) (Nat.le_of_ble_eq_true rfl) (by have q := sp_X8_figure (d := d) (mu := zk_up (zk_up mu 46 9 (nI (p + 2))) 46 12 (lt (txF mu t) n (p + 1) - 48)) (lm := lm) r2 3 8; rw [f2] at q; dsimp only at q; exact q) ?_
            refine zk_putI (pc := 53) dX8_isCeiling_53 flX8_105 rfl rfl ?_
            refine zk_aload_n (pc := 56) 0 dX8_isCeiling_56 rfl rfl ?_
            refine zk_getI (pc := 57) dX8_isCeiling_57 flX8_105 rfl rfl ?_
            refine zk_if_le (pc := 60) 67 dX8_isCeiling_60 (by decide) (fun h60 => ?_) (fun h60 => ?_)
            · rw [zup_s] at h60
              exact absurd a3.1 (by simp only [zle, show (3 : Int32).toInt = 3 by decide, show (0 : Int32).toInt = 0 by decide] at *; omega) --
            · skip
              refine zk_iconst (pc := 63) (v := 1) dX8_isCeiling_63 (by decide) ?_
              refine zk_goto (pc := 64) 68 dX8_isCeiling_64 (by decide) ?_
              exact zk_ireturn (pc := 68) dX8_isCeiling_68 (Or.inr ⟨rfl, Or.inr rfl⟩) (zk_pr rfl)
          · rw [zup_s] at h40
            exact absurd a2.1 h40 --
        · exact absurd a1 h10 --
      · have f2 : figM (zk_up (zk_up mu 46 9 (nI (p + 2))) 46 12 (lt (txF mu t) n (p + 1) - 48)) t n (p + 2) 3 8 = (-1, zk_up (zk_up mu 46 9 (nI (p + 2))) 46 12 (lt (txF mu t) n (p + 1) - 48)) := by
          unfold figM; rw [txF_up, txF_up, if_neg a3]
        have hf : ceiM mu t n p = (0, zk_up (zk_up (zk_up mu 46 9 (nI (p + 2))) 46 12 (lt (txF mu t) n (p + 1) - 48)) 46 13 (-1)) := by unfold ceiM; rw [if_pos a1, if_pos a2, if_neg a3]
        rw [hf]
        refine zk_aload_n (pc := 0) 0 dX8_isCeiling_0 rfl rfl ?_
        refine zk_aload_n (pc := 1) 0 dX8_isCeiling_1 rfl rfl ?_
        refine zk_getI (pc := 2) dX8_isCeiling_2 flX8_93 rfl rfl ?_
        rw [h.1]
        refine zk_callVI (pc := 5) dX8_isCeiling_5 mtX8_letterAt lkX8_96 stX8_letterAt (by rfl) (by rfl) [_] _ rfl rfl (Nat.le_of_ble_eq_true rfl) (Nat.le_of_ble_eq_true rfl) (sp_X8_letterAt h) ?_
        refine zk_bipush (pc := 8) (v := 112) dX8_isCeiling_8 (by decide) ?_
        refine zk_icmp_eq (pc := 10) 15 dX8_isCeiling_10 (by decide) (fun h10 => ?_) (fun h10 => ?_)
        · skip
          refine zk_aload_n (pc := 15) 0 dX8_isCeiling_15 rfl rfl ?_
          refine zk_dup (pc := 16) dX8_isCeiling_16 rfl ?_
          refine zk_getI (pc := 17) dX8_isCeiling_17 flX8_93 rfl rfl ?_
          refine zk_iconst (pc := 20) (v := 1) dX8_isCeiling_20 (by decide) ?_
          refine zk_iadd (pc := 21) dX8_isCeiling_21 ?_
          refine zk_putI (pc := 22) dX8_isCeiling_22 flX8_93 rfl rfl ?_
          rw [h.1, nI_1]
          refine zk_aload_n (pc := 25) 0 dX8_isCeiling_25 rfl rfl ?_
          refine zk_aload_n (pc := 26) 0 dX8_isCeiling_26 rfl rfl ?_
          refine zk_iconst (pc := 27) (v := 0) dX8_isCeiling_27 (by decide) ?_
          refine zk_bipush (pc := 28) (v := 9) dX8_isCeiling_28 (by decide) ?_
          refine zk_callVI (pc := 30) dX8_isCeiling_30 mtX8_figure lkX8_99 stX8_figure (by rfl) (by rfl) [_, _] _ rfl rfl (Nat.le_of_ble_eq_true rfl) (Nat.le_of_ble_eq_true rfl) (by have q := sp_X8_figure (d := d) (mu := zk_up mu 46 9 (nI (p + 1))) (lm := lm) r1 0 9; rw [f1] at q; dsimp only at q; exact q) ?_
          refine zk_putI (pc := 33) dX8_isCeiling_33 flX8_102 rfl rfl ?_
          refine zk_aload_n (pc := 36) 0 dX8_isCeiling_36 rfl rfl ?_
          refine zk_getI (pc := 37) dX8_isCeiling_37 flX8_102 rfl rfl ?_
          refine zk_if_ge (pc := 40) 45 dX8_isCeiling_40 (by decide) (fun h40 => ?_) (fun h40 => ?_)
          · skip
            refine zk_aload_n (pc := 45) 0 dX8_isCeiling_45 rfl rfl ?_
            refine zk_aload_n (pc := 46) 0 dX8_isCeiling_46 rfl rfl ?_
            refine zk_iconst (pc := 47) (v := 3) dX8_isCeiling_47 (by decide) ?_
            refine zk_bipush (pc := 48) (v := 8) dX8_isCeiling_48 (by decide) ?_
            refine zk_callVI (pc := 50) dX8_isCeiling_50 mtX8_figure lkX8_99 stX8_figure (by rfl) (by rfl) [_, _] _ rfl rfl (Nat.le_of_ble_eq_true rfl) (Nat.le_of_ble_eq_true rfl) (by have q := sp_X8_figure (d := d) (mu := zk_up (zk_up mu 46 9 (nI (p + 2))) 46 12 (lt (txF mu t) n (p + 1) - 48)) (lm := lm) r2 3 8; rw [f2] at q; dsimp only at q; exact q) ?_
            refine zk_putI (pc := 53) dX8_isCeiling_53 flX8_105 rfl rfl ?_
            refine zk_aload_n (pc := 56) 0 dX8_isCeiling_56 rfl rfl ?_
            refine zk_getI (pc := 57) dX8_isCeiling_57 flX8_105 rfl rfl ?_
            refine zk_if_le (pc := 60) 67 dX8_isCeiling_60 (by decide) (fun h60 => ?_) (fun h60 => ?_)
            · skip
              refine zk_iconst (pc := 67) (v := 0) dX8_isCeiling_67 (by decide) ?_
              exact zk_ireturn (pc := 68) dX8_isCeiling_68 (Or.inr ⟨rfl, Or.inl rfl⟩) (zk_pr rfl)
            · rw [zup_s] at h60
              exact absurd (show (-1 : Int32) ≤ 0 by decide) h60 --
          · rw [zup_s] at h40
            exact absurd a2.1 h40 --
        · exact absurd a1 h10 --
    · have f1 : figM (zk_up mu 46 9 (nI (p + 1))) t n (p + 1) 0 9 = (-1, zk_up mu 46 9 (nI (p + 1))) := by
        unfold figM; rw [txF_up, if_neg a2]
      have hf : ceiM mu t n p = (0, zk_up (zk_up mu 46 9 (nI (p + 1))) 46 12 (-1)) := by unfold ceiM; rw [if_pos a1, if_neg a2]
      rw [hf]
      refine zk_aload_n (pc := 0) 0 dX8_isCeiling_0 rfl rfl ?_
      refine zk_aload_n (pc := 1) 0 dX8_isCeiling_1 rfl rfl ?_
      refine zk_getI (pc := 2) dX8_isCeiling_2 flX8_93 rfl rfl ?_
      rw [h.1]
      refine zk_callVI (pc := 5) dX8_isCeiling_5 mtX8_letterAt lkX8_96 stX8_letterAt (by rfl) (by rfl) [_] _ rfl rfl (Nat.le_of_ble_eq_true rfl) (Nat.le_of_ble_eq_true rfl) (sp_X8_letterAt h) ?_
      refine zk_bipush (pc := 8) (v := 112) dX8_isCeiling_8 (by decide) ?_
      refine zk_icmp_eq (pc := 10) 15 dX8_isCeiling_10 (by decide) (fun h10 => ?_) (fun h10 => ?_)
      · skip
        refine zk_aload_n (pc := 15) 0 dX8_isCeiling_15 rfl rfl ?_
        refine zk_dup (pc := 16) dX8_isCeiling_16 rfl ?_
        refine zk_getI (pc := 17) dX8_isCeiling_17 flX8_93 rfl rfl ?_
        refine zk_iconst (pc := 20) (v := 1) dX8_isCeiling_20 (by decide) ?_
        refine zk_iadd (pc := 21) dX8_isCeiling_21 ?_
        refine zk_putI (pc := 22) dX8_isCeiling_22 flX8_93 rfl rfl ?_
        rw [h.1, nI_1]
        refine zk_aload_n (pc := 25) 0 dX8_isCeiling_25 rfl rfl ?_
        refine zk_aload_n (pc := 26) 0 dX8_isCeiling_26 rfl rfl ?_
        refine zk_iconst (pc := 27) (v := 0) dX8_isCeiling_27 (by decide) ?_
        refine zk_bipush (pc := 28) (v := 9) dX8_isCeiling_28 (by decide) ?_
        refine zk_callVI (pc := 30) dX8_isCeiling_30 mtX8_figure lkX8_99 stX8_figure (by rfl) (by rfl) [_, _] _ rfl rfl (Nat.le_of_ble_eq_true rfl) (Nat.le_of_ble_eq_true rfl) (by have q := sp_X8_figure (d := d) (mu := zk_up mu 46 9 (nI (p + 1))) (lm := lm) r1 0 9; rw [f1] at q; dsimp only at q; exact q) ?_
        refine zk_putI (pc := 33) dX8_isCeiling_33 flX8_102 rfl rfl ?_
        refine zk_aload_n (pc := 36) 0 dX8_isCeiling_36 rfl rfl ?_
        refine zk_getI (pc := 37) dX8_isCeiling_37 flX8_102 rfl rfl ?_
        refine zk_if_ge (pc := 40) 45 dX8_isCeiling_40 (by decide) (fun h40 => ?_) (fun h40 => ?_)
        · rw [zup_s] at h40
          exact absurd h40 (by decide) --
        · skip
          refine zk_iconst (pc := 43) (v := 0) dX8_isCeiling_43 (by decide) ?_
          exact zk_ireturn (pc := 44) dX8_isCeiling_44 (Or.inr ⟨rfl, Or.inl rfl⟩) (zk_pr rfl)
      · exact absurd a1 h10 --
  · have hf : ceiM mu t n p = (0, mu) := by unfold ceiM; rw [if_neg a1]
    rw [hf]
    refine zk_aload_n (pc := 0) 0 dX8_isCeiling_0 rfl rfl ?_
    refine zk_aload_n (pc := 1) 0 dX8_isCeiling_1 rfl rfl ?_
    refine zk_getI (pc := 2) dX8_isCeiling_2 flX8_93 rfl rfl ?_
    rw [h.1]
    refine zk_callVI (pc := 5) dX8_isCeiling_5 mtX8_letterAt lkX8_96 stX8_letterAt (by rfl) (by rfl) [_] _ rfl rfl (Nat.le_of_ble_eq_true rfl) (Nat.le_of_ble_eq_true rfl) (sp_X8_letterAt h) ?_
    refine zk_bipush (pc := 8) (v := 112) dX8_isCeiling_8 (by decide) ?_
    refine zk_icmp_eq (pc := 10) 15 dX8_isCeiling_10 (by decide) (fun h10 => ?_) (fun h10 => ?_)
    · exact absurd h10 a1 --
    · skip
      refine zk_iconst (pc := 13) (v := 0) dX8_isCeiling_13 (by decide) ?_
      exact zk_ireturn (pc := 14) dX8_isCeiling_14 (Or.inr ⟨rfl, Or.inl rfl⟩) (zk_pr rfl)
/-- a member's item at p, the mm-th, under so many cells -/
def memM (mu : Mem) (t n p mm : Nat) (cells : Int32) : Int32 × Mem :=
  if 0 ≤ sbv (lt (txF mu t) n p) ∧ mm ≠ 6 then
    (if 0 ≤ lt (txF mu t) n (p + 1) - 48 ∧ lt (txF mu t) n (p + 1) - 48 ≤ cells - 1 then (1, zk_up (zk_up (zk_up (zk_up mu 46 9 (nI (p + 2))) 52 (2 * mm) (sbv (lt (txF mu t) n p))) 52 (2 * mm + 1) (lt (txF mu t) n (p + 1) - 48)) 46 14 (nI (mm + 1)))
     else (0, zk_up mu 46 9 (nI (p + 1))))
  else (0, mu)
theorem sp_X8_isMemberItem {t n p mm : Nat} (h : rdAt mu t n p) (hp : p < n) (hm : mu 46 14 = nI mm) (hm6 : mm ≤ 6) : zk_M (d + 2) RX8 cX8_isMemberItem 3 (some .boolean) none 0 (zk_loc [.ref 46] 3) [] mu lm (zk_R (some (.int (memM mu t n p mm (mu 46 13)).1)) (memM mu t n p mm (mu 46 13)).2 lm) := by
  have r1 := rdAt_up h (p' := p + 1) (by omega)
  by_cases a1 : 0 ≤ sbv (lt (txF mu t) n p) ∧ mm ≠ 6
  · by_cases a2 : 0 ≤ lt (txF mu t) n (p + 1) - 48 ∧ lt (txF mu t) n (p + 1) - 48 ≤ mu 46 13 - 1
    · have f1 : figM (zk_up mu 46 9 (nI (p + 1))) t n (p + 1) 0 (mu 46 13 - 1) = (lt (txF mu t) n (p + 1) - 48, zk_up mu 46 9 (nI (p + 2))) := by
        unfold figM; rw [txF_up, if_pos a2, zup_up]
      have hf : memM mu t n p mm (mu 46 13) = (1, zk_up (zk_up (zk_up (zk_up mu 46 9 (nI (p + 2))) 52 (2 * mm) (sbv (lt (txF mu t) n p))) 52 (2 * mm + 1) (lt (txF mu t) n (p + 1) - 48)) 46 14 (nI (mm + 1))) := by unfold memM; rw [if_pos a1, if_pos a2]
      rw [hf]
      refine zk_aload_n (pc := 0) 0 dX8_isMemberItem_0 rfl rfl ?_
      refine zk_aload_n (pc := 1) 0 dX8_isMemberItem_1 rfl rfl ?_
      refine zk_getI (pc := 2) dX8_isMemberItem_2 flX8_93 rfl rfl ?_
      rw [h.1]
      refine zk_callVI (pc := 5) dX8_isMemberItem_5 mtX8_letterAt lkX8_96 stX8_letterAt (by rfl) (by rfl) [_] _ rfl rfl (Nat.le_of_ble_eq_true rfl) (Nat.le_of_ble_eq_true rfl) (sp_X8_letterAt h) ?_
      refine zk_callSI (pc := 8) dX8_isMemberItem_8 mtX8_sortBy lkX8_108 stX8_sortBy [_] _ rfl rfl (Nat.le_of_ble_eq_true rfl) (Nat.le_of_ble_eq_true rfl) (sp_X8_sortBy _) ?_
      refine zs_istore_n (pc := 11) (ls' := [_, _, _]) 1 dX8_isMemberItem_11 rfl (by decide) rfl ?_
      refine zk_iload_n (pc := 12) 1 dX8_isMemberItem_12 rfl rfl ?_
      refine zk_if_lt (pc := 13) 25 dX8_isMemberItem_13 (by decide) (fun h13 => ?_) (fun h13 => ?_)
      · exact absurd a1.1 (by simp only [zle, zlt] at *; omega) --
      · skip
        refine zk_aload_n (pc := 16) 0 dX8_isMemberItem_16 rfl rfl ?_
        refine zk_getI (pc := 17) dX8_isMemberItem_17 flX8_111 rfl rfl ?_
        refine zk_bipush (pc := 20) (v := 6) dX8_isMemberItem_20 (by decide) ?_
        refine zk_icmp_ne (pc := 22) 27 dX8_isMemberItem_22 (by decide) (fun h22 => ?_) (fun h22 => ?_)
        · skip
          refine zk_aload_n (pc := 27) 0 dX8_isMemberItem_27 rfl rfl ?_
          refine zk_dup (pc := 28) dX8_isMemberItem_28 rfl ?_
          refine zk_getI (pc := 29) dX8_isMemberItem_29 flX8_93 rfl rfl ?_
          refine zk_iconst (pc := 32) (v := 1) dX8_isMemberItem_32 (by decide) ?_
          refine zk_iadd (pc := 33) dX8_isMemberItem_33 ?_
          refine zk_putI (pc := 34) dX8_isMemberItem_34 flX8_93 rfl rfl ?_
          rw [h.1, nI_1]
          refine zk_aload_n (pc := 37) 0 dX8_isMemberItem_37 rfl rfl ?_
          refine zk_iconst (pc := 38) (v := 0) dX8_isMemberItem_38 (by decide) ?_
          refine zk_aload_n (pc := 39) 0 dX8_isMemberItem_39 rfl rfl ?_
          skip
          refine zk_getI (pc := 40) dX8_isMemberItem_40 flX8_105 rfl rfl ?_
          refine zk_iconst (pc := 43) (v := 1) dX8_isMemberItem_43 (by decide) ?_
          refine zk_isub (pc := 44) dX8_isMemberItem_44 ?_
          rw [zup_k _ _ _ (by decide)]
          refine zk_callVI (pc := 45) dX8_isMemberItem_45 mtX8_figure lkX8_99 stX8_figure (by rfl) (by rfl) [_, _] _ rfl rfl (Nat.le_of_ble_eq_true rfl) (Nat.le_of_ble_eq_true rfl) (by have q := sp_X8_figure (d := d) (mu := zk_up mu 46 9 (nI (p + 1))) (lm := lm) r1 0 (mu 46 13 - 1); rw [f1] at q; dsimp only at q; exact q) ?_
          refine zs_istore_n (pc := 48) (ls' := [_, _, _]) 2 dX8_isMemberItem_48 rfl (by decide) rfl ?_
          refine zk_iload_n (pc := 49) 2 dX8_isMemberItem_49 rfl rfl ?_
          refine zk_if_ge (pc := 50) 55 dX8_isMemberItem_50 (by decide) (fun h50 => ?_) (fun h50 => ?_)
          · skip
            refine zk_aload_n (pc := 55) 0 dX8_isMemberItem_55 rfl rfl ?_
            refine zk_getR (pc := 56) dX8_isMemberItem_56 flX8_29 rfl rfl ?_
            refine zk_iconst (pc := 59) (v := 2) dX8_isMemberItem_59 (by decide) ?_
            refine zk_aload_n (pc := 60) 0 dX8_isMemberItem_60 rfl rfl ?_
            refine zk_getI (pc := 61) dX8_isMemberItem_61 flX8_111 rfl rfl ?_
            refine zk_imul (pc := 64) dX8_isMemberItem_64 ?_
            refine zk_iload_n (pc := 65) 1 dX8_isMemberItem_65 rfl rfl ?_
            refine zk_iastore (pc := 66) (2 * mm) dX8_isMemberItem_66 rfl (by rw [zup_k _ _ _ (by decide), hm, show (2 : Int32) = nI 2 from rfl, pk_mul]) (by omega) ?_
            refine zk_aload_n (pc := 67) 0 dX8_isMemberItem_67 rfl rfl ?_
            refine zk_getR (pc := 68) dX8_isMemberItem_68 flX8_29 rfl rfl ?_
            refine zk_iconst (pc := 71) (v := 2) dX8_isMemberItem_71 (by decide) ?_
            refine zk_aload_n (pc := 72) 0 dX8_isMemberItem_72 rfl rfl ?_
            refine zk_getI (pc := 73) dX8_isMemberItem_73 flX8_111 rfl rfl ?_
            refine zk_imul (pc := 76) dX8_isMemberItem_76 ?_
            refine zk_iconst (pc := 77) (v := 1) dX8_isMemberItem_77 (by decide) ?_
            refine zk_iadd (pc := 78) dX8_isMemberItem_78 ?_
            refine zk_iload_n (pc := 79) 2 dX8_isMemberItem_79 rfl rfl ?_
            refine zk_iastore (pc := 80) (2 * mm + 1) dX8_isMemberItem_80 rfl (by rw [zup_c _ _ _ (by decide), zup_k _ _ _ (by decide), hm, show (2 : Int32) = nI 2 from rfl, pk_mul, nI_1]) (by omega) ?_
            refine zk_aload_n (pc := 81) 0 dX8_isMemberItem_81 rfl rfl ?_
            refine zk_dup (pc := 82) dX8_isMemberItem_82 rfl ?_
            refine zk_getI (pc := 83) dX8_isMemberItem_83 flX8_111 rfl rfl ?_
            refine zk_iconst (pc := 86) (v := 1) dX8_isMemberItem_86 (by decide) ?_
            refine zk_iadd (pc := 87) dX8_isMemberItem_87 ?_
            refine zk_putI (pc := 88) dX8_isMemberItem_88 flX8_111 rfl rfl ?_
            rw [zup_c _ _ _ (by decide), zup_c _ _ _ (by decide), zup_k _ _ _ (by decide), hm, nI_1]
            refine zk_iconst (pc := 91) (v := 1) dX8_isMemberItem_91 (by decide) ?_
            exact zk_ireturn (pc := 92) dX8_isMemberItem_92 (Or.inr ⟨rfl, Or.inr rfl⟩) (zk_pr rfl)
          · exact absurd a2.1 h50 --
        · rw [hm, show (6 : Int32) = nI 6 from rfl, nIeq (by omega) (by omega)] at h22
          exact absurd h22 a1.2 --
    · have f1 : figM (zk_up mu 46 9 (nI (p + 1))) t n (p + 1) 0 (mu 46 13 - 1) = (-1, zk_up mu 46 9 (nI (p + 1))) := by
        unfold figM; rw [txF_up, if_neg a2]
      have hf : memM mu t n p mm (mu 46 13) = (0, zk_up mu 46 9 (nI (p + 1))) := by unfold memM; rw [if_pos a1, if_neg a2]
      rw [hf]
      refine zk_aload_n (pc := 0) 0 dX8_isMemberItem_0 rfl rfl ?_
      refine zk_aload_n (pc := 1) 0 dX8_isMemberItem_1 rfl rfl ?_
      refine zk_getI (pc := 2) dX8_isMemberItem_2 flX8_93 rfl rfl ?_
      rw [h.1]
      refine zk_callVI (pc := 5) dX8_isMemberItem_5 mtX8_letterAt lkX8_96 stX8_letterAt (by rfl) (by rfl) [_] _ rfl rfl (Nat.le_of_ble_eq_true rfl) (Nat.le_of_ble_eq_true rfl) (sp_X8_letterAt h) ?_
      refine zk_callSI (pc := 8) dX8_isMemberItem_8 mtX8_sortBy lkX8_108 stX8_sortBy [_] _ rfl rfl (Nat.le_of_ble_eq_true rfl) (Nat.le_of_ble_eq_true rfl) (sp_X8_sortBy _) ?_
      refine zs_istore_n (pc := 11) (ls' := [_, _, _]) 1 dX8_isMemberItem_11 rfl (by decide) rfl ?_
      refine zk_iload_n (pc := 12) 1 dX8_isMemberItem_12 rfl rfl ?_
      refine zk_if_lt (pc := 13) 25 dX8_isMemberItem_13 (by decide) (fun h13 => ?_) (fun h13 => ?_)
      · exact absurd a1.1 (by simp only [zle, zlt] at *; omega) --
      · skip
        refine zk_aload_n (pc := 16) 0 dX8_isMemberItem_16 rfl rfl ?_
        refine zk_getI (pc := 17) dX8_isMemberItem_17 flX8_111 rfl rfl ?_
        refine zk_bipush (pc := 20) (v := 6) dX8_isMemberItem_20 (by decide) ?_
        refine zk_icmp_ne (pc := 22) 27 dX8_isMemberItem_22 (by decide) (fun h22 => ?_) (fun h22 => ?_)
        · skip
          refine zk_aload_n (pc := 27) 0 dX8_isMemberItem_27 rfl rfl ?_
          refine zk_dup (pc := 28) dX8_isMemberItem_28 rfl ?_
          refine zk_getI (pc := 29) dX8_isMemberItem_29 flX8_93 rfl rfl ?_
          refine zk_iconst (pc := 32) (v := 1) dX8_isMemberItem_32 (by decide) ?_
          refine zk_iadd (pc := 33) dX8_isMemberItem_33 ?_
          refine zk_putI (pc := 34) dX8_isMemberItem_34 flX8_93 rfl rfl ?_
          rw [h.1, nI_1]
          refine zk_aload_n (pc := 37) 0 dX8_isMemberItem_37 rfl rfl ?_
          refine zk_iconst (pc := 38) (v := 0) dX8_isMemberItem_38 (by decide) ?_
          refine zk_aload_n (pc := 39) 0 dX8_isMemberItem_39 rfl rfl ?_
          refine zk_getI (pc := 40) dX8_isMemberItem_40 flX8_105 rfl rfl ?_
          refine zk_iconst (pc := 43) (v := 1) dX8_isMemberItem_43 (by decide) ?_
          refine zk_isub (pc := 44) dX8_isMemberItem_44 ?_
          rw [zup_k _ _ _ (by decide)]
          refine zk_callVI (pc := 45) dX8_isMemberItem_45 mtX8_figure lkX8_99 stX8_figure (by rfl) (by rfl) [_, _] _ rfl rfl (Nat.le_of_ble_eq_true rfl) (Nat.le_of_ble_eq_true rfl) (by have q := sp_X8_figure (d := d) (mu := zk_up mu 46 9 (nI (p + 1))) (lm := lm) r1 0 (mu 46 13 - 1); rw [f1] at q; dsimp only at q; exact q) ?_
          refine zs_istore_n (pc := 48) (ls' := [_, _, _]) 2 dX8_isMemberItem_48 rfl (by decide) rfl ?_
          refine zk_iload_n (pc := 49) 2 dX8_isMemberItem_49 rfl rfl ?_
          refine zk_if_ge (pc := 50) 55 dX8_isMemberItem_50 (by decide) (fun h50 => ?_) (fun h50 => ?_)
          · exact absurd h50 (by decide) --
          · skip
            refine zk_iconst (pc := 53) (v := 0) dX8_isMemberItem_53 (by decide) ?_
            exact zk_ireturn (pc := 54) dX8_isMemberItem_54 (Or.inr ⟨rfl, Or.inl rfl⟩) (zk_pr rfl)
        · rw [hm, show (6 : Int32) = nI 6 from rfl, nIeq (by omega) (by omega)] at h22
          exact absurd h22 a1.2 --
  · have hf : memM mu t n p mm (mu 46 13) = (0, mu) := by unfold memM; rw [if_neg a1]
    rw [hf]
    refine zk_aload_n (pc := 0) 0 dX8_isMemberItem_0 rfl rfl ?_
    refine zk_aload_n (pc := 1) 0 dX8_isMemberItem_1 rfl rfl ?_
    refine zk_getI (pc := 2) dX8_isMemberItem_2 flX8_93 rfl rfl ?_
    rw [h.1]
    refine zk_callVI (pc := 5) dX8_isMemberItem_5 mtX8_letterAt lkX8_96 stX8_letterAt (by rfl) (by rfl) [_] _ rfl rfl (Nat.le_of_ble_eq_true rfl) (Nat.le_of_ble_eq_true rfl) (sp_X8_letterAt h) ?_
    refine zk_callSI (pc := 8) dX8_isMemberItem_8 mtX8_sortBy lkX8_108 stX8_sortBy [_] _ rfl rfl (Nat.le_of_ble_eq_true rfl) (Nat.le_of_ble_eq_true rfl) (sp_X8_sortBy _) ?_
    refine zs_istore_n (pc := 11) (ls' := [_, _, _]) 1 dX8_isMemberItem_11 rfl (by decide) rfl ?_
    refine zk_iload_n (pc := 12) 1 dX8_isMemberItem_12 rfl rfl ?_
    refine zk_if_lt (pc := 13) 25 dX8_isMemberItem_13 (by decide) (fun h13 => ?_) (fun h13 => ?_)
    · skip
      refine zk_iconst (pc := 25) (v := 0) dX8_isMemberItem_25 (by decide) ?_
      exact zk_ireturn (pc := 26) dX8_isMemberItem_26 (Or.inr ⟨rfl, Or.inl rfl⟩) (zk_pr rfl)
    · skip
      refine zk_aload_n (pc := 16) 0 dX8_isMemberItem_16 rfl rfl ?_
      refine zk_getI (pc := 17) dX8_isMemberItem_17 flX8_111 rfl rfl ?_
      refine zk_bipush (pc := 20) (v := 6) dX8_isMemberItem_20 (by decide) ?_
      refine zk_icmp_ne (pc := 22) 27 dX8_isMemberItem_22 (by decide) (fun h22 => ?_) (fun h22 => ?_)
      · rw [hm, show (6 : Int32) = nI 6 from rfl, nIeq (by omega) (by omega)] at h22
        exact absurd (show 0 ≤ sbv (lt (txF mu t) n p) ∧ mm ≠ 6 from ⟨by simp only [zle, zlt] at *; omega, h22⟩) a1
      · rw [hm, show (6 : Int32) = nI 6 from rfl, nIeq (by omega) (by omega)] at h22
        refine zk_iconst (pc := 25) (v := 0) dX8_isMemberItem_25 (by decide) ?_
        exact zk_ireturn (pc := 26) dX8_isMemberItem_26 (Or.inr ⟨rfl, Or.inl rfl⟩) (zk_pr rfl)
end M43
