section M52
variable {d : Nat} {mu : Mem} {lm : MemL}
def tN (x v : Int32) (a : Nat) : Nat → Int32 := fun b => zb (((x >>> (nI a &&& 31)) &&& 1 = 1 ∧ (x >>> (nI b &&& 31)) &&& 1 = 1) ∧ kSay (nI a) v = kSay (nI b) v)
def tMost (x v : Int32) : Nat → Int32
  | 0 => 0
  | a + 1 => zmax (tMost x v a) (zsum 6 (tN x v a))
theorem tMost_s (x v : Int32) (a : Nat) : tMost x v (a + 1) = zmax (tMost x v a) (zsum 6 (tN x v a)) := rfl
def tstM (g : Nat → Int32) : Nat → Int32 × Int32
  | 0 => (-9, 0)
  | k + 1 => if (tstM g k).1 = -9 ∨ g k < (tstM g k).2 then (nI k, g k) else tstM g k
theorem tstM_s (g : Nat → Int32) (k : Nat) : tstM g (k + 1) = if (tstM g k).1 = -9 ∨ g k < (tstM g k).2 then (nI k, g k) else tstM g k := rfl
theorem zmax_b {x y : Int32} : (y ≤ x → x = zmax x y) ∧ (¬ y ≤ x → y = zmax x y) := by
  unfold zmax
  constructor
  · intro h
    rw [if_neg (by simp only [zlt, zle] at *; omega)]
  · intro h
    rw [if_pos (by simp only [zlt, zle] at *; omega)]
def mTst (mu : Mem) (x : Int32) : Int32 × Mem := if x = 0 then (-9, mu) else ((tstM (fun v => tMost x (nI v) 6) 100).1, zk_up mu 46 6 (tstM (fun v => tMost x (nI v) 6) 100).2)
theorem sp_X8_test {k h : Nat} (hk : k < 6) (hz : zSz (mu 47 k) 40) (ho : mtOk mu k h) : zk_M (d + 3) RX8 cX8_test 10 (some .int) none 0 (zk_loc [.ref 46, .int (nI k)] 10) [] mu lm (zk_R (some (.int (mTst mu (kFitG (itF mu k) h)).1)) (mTst mu (kFitG (itF mu k) h)).2 lm) := by
  have loop : ∀ x : Int32, ¬ x = 0 → ∀ v, v ≤ 100 → ∀ b6 b7 b8 b9, zk_M (d + 3) RX8 cX8_test 10 (some .int) none 44 [.ref 46, .int (nI k), .int x, .int (tstM (fun v => tMost x (nI v) 6) v).1, .int (tstM (fun v => tMost x (nI v) 6) v).2, .int (nI v), b6, b7, b8, b9] [] mu lm (zk_R (some (.int (mTst mu x).1)) (mTst mu x).2 lm) := by
    intro x hx0
    refine zk_ind 100 (fun v hv ih => ?_)
    intro b6 b7 b8 b9
    have l2 : v < 100 → ∀ a, a ≤ 6 → ∀ b8 b9, zk_M (d + 3) RX8 cX8_test 10 (some .int) none 57 [.ref 46, .int (nI k), .int x, .int (tstM (fun v => tMost x (nI v) 6) v).1, .int (tstM (fun v => tMost x (nI v) 6) v).2, .int (nI v), .int (tMost x (nI v) a), .int (nI a), b8, b9] [] mu lm (zk_R (some (.int (mTst mu x).1)) (mTst mu x).2 lm) := by
      intro hv1
      refine zk_ind 6 (fun a ha iha => ?_)
      intro b8 b9
      have l3 : a < 6 → ∀ b, b ≤ 6 → zk_M (d + 3) RX8 cX8_test 10 (some .int) none 70 [.ref 46, .int (nI k), .int x, .int (tstM (fun v => tMost x (nI v) 6) v).1, .int (tstM (fun v => tMost x (nI v) 6) v).2, .int (nI v), .int (tMost x (nI v) a), .int (nI a), .int (zsum b (tN x (nI v) a)), .int (nI b)] [] mu lm (zk_R (some (.int (mTst mu x).1)) (mTst mu x).2 lm) := by
        intro ha6
        refine zk_ind 6 (fun b hb ihb => ?_)
        refine zk_iload (pc := 70) dX8_test_70 rfl ?_
        refine zk_bipush (pc := 72) (v := 6) dX8_test_72 (by decide) ?_
        refine zk_icmp_ge (pc := 74) 128 dX8_test_74 (by decide) (fun h74 => ?_) (fun h74 => ?_)
        · rw [show (6 : Int32) = nI 6 from rfl, nIle (by omega) (by omega)] at h74
          refine zk_iload (pc := 128) dX8_test_128 rfl ?_
          refine zk_iload (pc := 130) dX8_test_130 rfl ?_
          obtain rfl : b = 6 := by omega
          refine zk_icmp_le (pc := 132) 140 dX8_test_132 (by decide) (fun h132 => ?_) (fun h132 => ?_)
          · skip
            refine zk_iload (pc := 140) dX8_test_140 rfl ?_
            first | rw [zmax_b.1 h132] | rw [zmax_b.2 h132]
            rw [← tMost_s]
            refine zs_istore (pc := 142) (ls' := [_, _, _, _, _, _, _, _, _, _]) 6 dX8_test_142 (by decide) rfl ?_
            refine zs_iinc (pc := 144) (ls' := [_, _, _, _, _, _, _, _, _, _]) dX8_test_144 rfl (nI_1 a) (by decide) rfl ?_
            refine zk_goto (pc := 147) 57 dX8_test_147 (by decide) ?_
            exact iha ha6 _ _
          · skip
            refine zk_iload (pc := 135) dX8_test_135 rfl ?_
            refine zk_goto (pc := 137) 142 dX8_test_137 (by decide) ?_
            first | rw [zmax_b.1 h132] | rw [zmax_b.2 h132]
            rw [← tMost_s]
            refine zs_istore (pc := 142) (ls' := [_, _, _, _, _, _, _, _, _, _]) 6 dX8_test_142 (by decide) rfl ?_
            refine zs_iinc (pc := 144) (ls' := [_, _, _, _, _, _, _, _, _, _]) dX8_test_144 rfl (nI_1 a) (by decide) rfl ?_
            refine zk_goto (pc := 147) 57 dX8_test_147 (by decide) ?_
            exact iha ha6 _ _
        · rw [show (6 : Int32) = nI 6 from rfl, nIle (by omega) (by omega)] at h74
          refine zk_iload (pc := 77) dX8_test_77 rfl ?_
          refine zk_iload_n (pc := 79) 2 dX8_test_79 rfl rfl ?_
          refine zk_iload (pc := 80) dX8_test_80 rfl ?_
          refine zk_callSI (pc := 82) dX8_test_82 mtX8_has lkX8_187 stX8_has [_, _] _ rfl rfl (Nat.le_of_ble_eq_true rfl) (Nat.le_of_ble_eq_true rfl) (sp_X8_has _ _) ?_
          refine zk_if_eq (pc := 85) 118 dX8_test_85 (by decide) (fun h85 => ?_) (fun h85 => ?_)
          · rw [zb_e] at h85
            refine zk_iconst (pc := 118) (v := 0) dX8_test_118 (by decide) ?_
            refine zk_iadd (pc := 119) dX8_test_119 ?_
            refine zs_istore (pc := 120) (ls' := [_, _, _, _, _, _, _, _, _, _]) 8 dX8_test_120 (by decide) rfl ?_
            refine zs_iinc (pc := 122) (ls' := [_, _, _, _, _, _, _, _, _, _]) dX8_test_122 rfl (nI_1 b) (by decide) rfl ?_
            refine zk_goto (pc := 125) 70 dX8_test_125 (by decide) ?_
            have e := ihb (by omega)
            rw [zsum_s] at e
            first
              | (have hz : tN x (nI v) a b = 0 := zb_f (fun z => h85 z.1.1)
                 rw [hz] at e; exact e)
              | (have hz : tN x (nI v) a b = 0 := zb_f (fun z => h94 z.1.2)
                 rw [hz] at e; exact e)
              | (have hz : tN x (nI v) a b = 0 := zb_f (fun z => h111 z.2)
                 rw [hz] at e; exact e)
              | (have hz : tN x (nI v) a b = 1 := zb_t ⟨⟨h85, h94⟩, h111⟩
                 rw [hz] at e; exact e)
          · rw [zb_n] at h85
            refine zk_iload_n (pc := 88) 2 dX8_test_88 rfl rfl ?_
            refine zk_iload (pc := 89) dX8_test_89 rfl ?_
            refine zk_callSI (pc := 91) dX8_test_91 mtX8_has lkX8_187 stX8_has [_, _] _ rfl rfl (Nat.le_of_ble_eq_true rfl) (Nat.le_of_ble_eq_true rfl) (sp_X8_has _ _) ?_
            refine zk_if_eq (pc := 94) 118 dX8_test_94 (by decide) (fun h94 => ?_) (fun h94 => ?_)
            · rw [zb_e] at h94
              refine zk_iconst (pc := 118) (v := 0) dX8_test_118 (by decide) ?_
              refine zk_iadd (pc := 119) dX8_test_119 ?_
              refine zs_istore (pc := 120) (ls' := [_, _, _, _, _, _, _, _, _, _]) 8 dX8_test_120 (by decide) rfl ?_
              refine zs_iinc (pc := 122) (ls' := [_, _, _, _, _, _, _, _, _, _]) dX8_test_122 rfl (nI_1 b) (by decide) rfl ?_
              refine zk_goto (pc := 125) 70 dX8_test_125 (by decide) ?_
              have e := ihb (by omega)
              rw [zsum_s] at e
              first
                | (have hz : tN x (nI v) a b = 0 := zb_f (fun z => h85 z.1.1)
                   rw [hz] at e; exact e)
                | (have hz : tN x (nI v) a b = 0 := zb_f (fun z => h94 z.1.2)
                   rw [hz] at e; exact e)
                | (have hz : tN x (nI v) a b = 0 := zb_f (fun z => h111 z.2)
                   rw [hz] at e; exact e)
                | (have hz : tN x (nI v) a b = 1 := zb_t ⟨⟨h85, h94⟩, h111⟩
                   rw [hz] at e; exact e)
            · rw [zb_n] at h94
              refine zk_iload (pc := 97) dX8_test_97 rfl ?_
              refine zk_iload (pc := 99) dX8_test_99 rfl ?_
              refine zk_callSI (pc := 101) dX8_test_101 mtX8_saysBy lkX8_140 stX8_saysBy [_, _] _ rfl rfl (Nat.le_of_ble_eq_true rfl) (Nat.le_of_ble_eq_true rfl) (sp_X8_saysBy _ _) ?_
              refine zk_iload (pc := 104) dX8_test_104 rfl ?_
              refine zk_iload (pc := 106) dX8_test_106 rfl ?_
              refine zk_callSI (pc := 108) dX8_test_108 mtX8_saysBy lkX8_140 stX8_saysBy [_, _] _ rfl rfl (Nat.le_of_ble_eq_true rfl) (Nat.le_of_ble_eq_true rfl) (sp_X8_saysBy _ _) ?_
              refine zk_icmp_ne (pc := 111) 118 dX8_test_111 (by decide) (fun h111 => ?_) (fun h111 => ?_)
              · skip
                refine zk_iconst (pc := 118) (v := 0) dX8_test_118 (by decide) ?_
                refine zk_iadd (pc := 119) dX8_test_119 ?_
                refine zs_istore (pc := 120) (ls' := [_, _, _, _, _, _, _, _, _, _]) 8 dX8_test_120 (by decide) rfl ?_
                refine zs_iinc (pc := 122) (ls' := [_, _, _, _, _, _, _, _, _, _]) dX8_test_122 rfl (nI_1 b) (by decide) rfl ?_
                refine zk_goto (pc := 125) 70 dX8_test_125 (by decide) ?_
                have e := ihb (by omega)
                rw [zsum_s] at e
                first
                  | (have hz : tN x (nI v) a b = 0 := zb_f (fun z => h85 z.1.1)
                     rw [hz] at e; exact e)
                  | (have hz : tN x (nI v) a b = 0 := zb_f (fun z => h94 z.1.2)
                     rw [hz] at e; exact e)
                  | (have hz : tN x (nI v) a b = 0 := zb_f (fun z => h111 z.2)
                     rw [hz] at e; exact e)
                  | (have hz : tN x (nI v) a b = 1 := zb_t ⟨⟨h85, h94⟩, h111⟩
                     rw [hz] at e; exact e)
              · skip
                refine zk_iconst (pc := 114) (v := 1) dX8_test_114 (by decide) ?_
                refine zk_goto (pc := 115) 119 dX8_test_115 (by decide) ?_
                refine zk_iadd (pc := 119) dX8_test_119 ?_
                refine zs_istore (pc := 120) (ls' := [_, _, _, _, _, _, _, _, _, _]) 8 dX8_test_120 (by decide) rfl ?_
                refine zs_iinc (pc := 122) (ls' := [_, _, _, _, _, _, _, _, _, _]) dX8_test_122 rfl (nI_1 b) (by decide) rfl ?_
                refine zk_goto (pc := 125) 70 dX8_test_125 (by decide) ?_
                have e := ihb (by omega)
                rw [zsum_s] at e
                first
                  | (have hz : tN x (nI v) a b = 0 := zb_f (fun z => h85 z.1.1)
                     rw [hz] at e; exact e)
                  | (have hz : tN x (nI v) a b = 0 := zb_f (fun z => h94 z.1.2)
                     rw [hz] at e; exact e)
                  | (have hz : tN x (nI v) a b = 0 := zb_f (fun z => h111 z.2)
                     rw [hz] at e; exact e)
                  | (have hz : tN x (nI v) a b = 1 := zb_t ⟨⟨h85, h94⟩, h111⟩
                     rw [hz] at e; exact e)
      refine zk_iload (pc := 57) dX8_test_57 rfl ?_
      refine zk_bipush (pc := 59) (v := 6) dX8_test_59 (by decide) ?_
      refine zk_icmp_ge (pc := 61) 150 dX8_test_61 (by decide) (fun h61 => ?_) (fun h61 => ?_)
      · rw [show (6 : Int32) = nI 6 from rfl, nIle (by omega) (by omega)] at h61
        obtain rfl : a = 6 := by omega
        refine zk_iload_n (pc := 150) 3 dX8_test_150 rfl rfl ?_
        refine zk_bipush (pc := 151) (v := -9) dX8_test_151 (by decide) ?_
        refine zk_icmp_eq (pc := 153) 163 dX8_test_153 (by decide) (fun h153 => ?_) (fun h153 => ?_)
        · skip
          refine zk_iconst (pc := 163) (v := 1) dX8_test_163 (by decide) ?_
          refine zk_goto (pc := 164) 168 dX8_test_164 (by decide) ?_
          refine zs_istore (pc := 168) (ls' := [_, _, _, _, _, _, _, _, _, _]) 7 dX8_test_168 (by decide) rfl ?_
          refine zk_iload (pc := 170) dX8_test_170 rfl ?_
          refine zk_if_eq (pc := 172) 180 dX8_test_172 (by decide) (fun h172 => ?_) (fun h172 => ?_)
          · exact absurd h172 (by decide) --
          · skip
            refine zk_iload (pc := 175) dX8_test_175 rfl ?_
            refine zk_goto (pc := 177) 181 dX8_test_177 (by decide) ?_
            refine zs_istore_n (pc := 181) (ls' := [_, _, _, _, _, _, _, _, _, _]) 3 dX8_test_181 rfl (by decide) rfl ?_
            refine zk_iload (pc := 182) dX8_test_182 rfl ?_
            refine zk_if_eq (pc := 184) 192 dX8_test_184 (by decide) (fun h184 => ?_) (fun h184 => ?_)
            · exact absurd h184 (by decide) --
            · skip
              refine zk_iload (pc := 187) dX8_test_187 rfl ?_
              refine zk_goto (pc := 189) 194 dX8_test_189 (by decide) ?_
              refine zs_istore (pc := 194) (ls' := [_, _, _, _, _, _, _, _, _, _]) 4 dX8_test_194 (by decide) rfl ?_
              refine zs_iinc (pc := 196) (ls' := [_, _, _, _, _, _, _, _, _, _]) dX8_test_196 rfl (nI_1 v) (by decide) rfl ?_
              refine zk_goto (pc := 199) 44 dX8_test_199 (by decide) ?_
              first
                | (have hz : (tstM (fun v => tMost x (nI v) 6) v).1 = -9 ∨ tMost x (nI v) 6 < (tstM (fun v => tMost x (nI v) 6) v).2 := Or.inl h153
                   have e := ih hv1 (.int (tMost x (nI v) 6)) (.int 1) b8 b9
                   rw [tstM_s, if_pos hz] at e; exact e)
                | (have hz : (tstM (fun v => tMost x (nI v) 6) v).1 = -9 ∨ tMost x (nI v) 6 < (tstM (fun v => tMost x (nI v) 6) v).2 := Or.inr h160
                   have e := ih hv1 (.int (tMost x (nI v) 6)) (.int 1) b8 b9
                   rw [tstM_s, if_pos hz] at e; exact e)
                | (have hz : ¬ ((tstM (fun v => tMost x (nI v) 6) v).1 = -9 ∨ tMost x (nI v) 6 < (tstM (fun v => tMost x (nI v) 6) v).2) := fun z => z.elim h153 h160
                   have e := ih hv1 (.int (tMost x (nI v) 6)) (.int 0) b8 b9
                   rw [tstM_s, if_neg hz] at e; exact e)
        · skip
          refine zk_iload (pc := 156) dX8_test_156 rfl ?_
          refine zk_iload (pc := 158) dX8_test_158 rfl ?_
          refine zk_icmp_ge (pc := 160) 167 dX8_test_160 (by decide) (fun h160 => ?_) (fun h160 => ?_)
          · rw [← znl] at h160
            refine zk_iconst (pc := 167) (v := 0) dX8_test_167 (by decide) ?_
            refine zs_istore (pc := 168) (ls' := [_, _, _, _, _, _, _, _, _, _]) 7 dX8_test_168 (by decide) rfl ?_
            refine zk_iload (pc := 170) dX8_test_170 rfl ?_
            refine zk_if_eq (pc := 172) 180 dX8_test_172 (by decide) (fun h172 => ?_) (fun h172 => ?_)
            · skip
              refine zk_iload_n (pc := 180) 3 dX8_test_180 rfl rfl ?_
              refine zs_istore_n (pc := 181) (ls' := [_, _, _, _, _, _, _, _, _, _]) 3 dX8_test_181 rfl (by decide) rfl ?_
              refine zk_iload (pc := 182) dX8_test_182 rfl ?_
              refine zk_if_eq (pc := 184) 192 dX8_test_184 (by decide) (fun h184 => ?_) (fun h184 => ?_)
              · skip
                refine zk_iload (pc := 192) dX8_test_192 rfl ?_
                refine zs_istore (pc := 194) (ls' := [_, _, _, _, _, _, _, _, _, _]) 4 dX8_test_194 (by decide) rfl ?_
                refine zs_iinc (pc := 196) (ls' := [_, _, _, _, _, _, _, _, _, _]) dX8_test_196 rfl (nI_1 v) (by decide) rfl ?_
                refine zk_goto (pc := 199) 44 dX8_test_199 (by decide) ?_
                first
                  | (have hz : (tstM (fun v => tMost x (nI v) 6) v).1 = -9 ∨ tMost x (nI v) 6 < (tstM (fun v => tMost x (nI v) 6) v).2 := Or.inl h153
                     have e := ih hv1 (.int (tMost x (nI v) 6)) (.int 1) b8 b9
                     rw [tstM_s, if_pos hz] at e; exact e)
                  | (have hz : (tstM (fun v => tMost x (nI v) 6) v).1 = -9 ∨ tMost x (nI v) 6 < (tstM (fun v => tMost x (nI v) 6) v).2 := Or.inr h160
                     have e := ih hv1 (.int (tMost x (nI v) 6)) (.int 1) b8 b9
                     rw [tstM_s, if_pos hz] at e; exact e)
                  | (have hz : ¬ ((tstM (fun v => tMost x (nI v) 6) v).1 = -9 ∨ tMost x (nI v) 6 < (tstM (fun v => tMost x (nI v) 6) v).2) := fun z => z.elim h153 h160
                     have e := ih hv1 (.int (tMost x (nI v) 6)) (.int 0) b8 b9
                     rw [tstM_s, if_neg hz] at e; exact e)
              · exact absurd rfl h184 --
            · exact absurd rfl h172 --
          · rw [← zltn] at h160
            refine zk_iconst (pc := 163) (v := 1) dX8_test_163 (by decide) ?_
            refine zk_goto (pc := 164) 168 dX8_test_164 (by decide) ?_
            refine zs_istore (pc := 168) (ls' := [_, _, _, _, _, _, _, _, _, _]) 7 dX8_test_168 (by decide) rfl ?_
            refine zk_iload (pc := 170) dX8_test_170 rfl ?_
            refine zk_if_eq (pc := 172) 180 dX8_test_172 (by decide) (fun h172 => ?_) (fun h172 => ?_)
            · exact absurd h172 (by decide) --
            · skip
              refine zk_iload (pc := 175) dX8_test_175 rfl ?_
              refine zk_goto (pc := 177) 181 dX8_test_177 (by decide) ?_
              refine zs_istore_n (pc := 181) (ls' := [_, _, _, _, _, _, _, _, _, _]) 3 dX8_test_181 rfl (by decide) rfl ?_
              refine zk_iload (pc := 182) dX8_test_182 rfl ?_
              refine zk_if_eq (pc := 184) 192 dX8_test_184 (by decide) (fun h184 => ?_) (fun h184 => ?_)
              · exact absurd h184 (by decide) --
              · skip
                refine zk_iload (pc := 187) dX8_test_187 rfl ?_
                refine zk_goto (pc := 189) 194 dX8_test_189 (by decide) ?_
                refine zs_istore (pc := 194) (ls' := [_, _, _, _, _, _, _, _, _, _]) 4 dX8_test_194 (by decide) rfl ?_
                refine zs_iinc (pc := 196) (ls' := [_, _, _, _, _, _, _, _, _, _]) dX8_test_196 rfl (nI_1 v) (by decide) rfl ?_
                refine zk_goto (pc := 199) 44 dX8_test_199 (by decide) ?_
                first
                  | (have hz : (tstM (fun v => tMost x (nI v) 6) v).1 = -9 ∨ tMost x (nI v) 6 < (tstM (fun v => tMost x (nI v) 6) v).2 := Or.inl h153
                     have e := ih hv1 (.int (tMost x (nI v) 6)) (.int 1) b8 b9
                     rw [tstM_s, if_pos hz] at e; exact e)
                  | (have hz : (tstM (fun v => tMost x (nI v) 6) v).1 = -9 ∨ tMost x (nI v) 6 < (tstM (fun v => tMost x (nI v) 6) v).2 := Or.inr h160
                     have e := ih hv1 (.int (tMost x (nI v) 6)) (.int 1) b8 b9
                     rw [tstM_s, if_pos hz] at e; exact e)
                  | (have hz : ¬ ((tstM (fun v => tMost x (nI v) 6) v).1 = -9 ∨ tMost x (nI v) 6 < (tstM (fun v => tMost x (nI v) 6) v).2) := fun z => z.elim h153 h160
                     have e := ih hv1 (.int (tMost x (nI v) 6)) (.int 0) b8 b9
                     rw [tstM_s, if_neg hz] at e; exact e)
      · rw [show (6 : Int32) = nI 6 from rfl, nIle (by omega) (by omega)] at h61
        refine zk_iconst (pc := 64) (v := 0) dX8_test_64 (by decide) ?_
        refine zs_istore (pc := 65) (ls' := [_, _, _, _, _, _, _, _, _, _]) 8 dX8_test_65 (by decide) rfl ?_
        refine zk_iconst (pc := 67) (v := 0) dX8_test_67 (by decide) ?_
        refine zs_istore (pc := 68) (ls' := [_, _, _, _, _, _, _, _, _, _]) 9 dX8_test_68 (by decide) rfl ?_
        exact l3 (by omega) 0 (Nat.zero_le _)
    refine zk_iload (pc := 44) dX8_test_44 rfl ?_
    refine zk_bipush (pc := 46) (v := 100) dX8_test_46 (by decide) ?_
    refine zk_icmp_ge (pc := 48) 202 dX8_test_48 (by decide) (fun h48 => ?_) (fun h48 => ?_)
    · rw [show (100 : Int32) = nI 100 from rfl, nIle (by omega) (by omega)] at h48
      refine zk_aload_n (pc := 202) 0 dX8_test_202 rfl rfl ?_
      refine zk_iload (pc := 203) dX8_test_203 rfl ?_
      refine zk_callVI (pc := 205) dX8_test_205 mtX8_tells lkX8_81 stX8_tells (by rfl) (by rfl) [_] _ rfl rfl (Nat.le_of_ble_eq_true rfl) (Nat.le_of_ble_eq_true rfl) (sp_X8_tells _) ?_
      refine zk_pop (pc := 208) dX8_test_208 rfl ?_
      refine zk_iload_n (pc := 209) 3 dX8_test_209 rfl rfl ?_
      refine zk_ireturn (pc := 210) dX8_test_210 (Or.inl rfl) (zk_pr ?_)
      obtain rfl : v = 100 := by omega
      unfold mTst
      rw [if_neg hx0]
    · rw [show (100 : Int32) = nI 100 from rfl, nIle (by omega) (by omega)] at h48
      refine zk_iconst (pc := 51) (v := 0) dX8_test_51 (by decide) ?_
      refine zs_istore (pc := 52) (ls' := [_, _, _, _, _, _, _, _, _, _]) 6 dX8_test_52 (by decide) rfl ?_
      refine zk_iconst (pc := 54) (v := 0) dX8_test_54 (by decide) ?_
      refine zs_istore (pc := 55) (ls' := [_, _, _, _, _, _, _, _, _, _]) 7 dX8_test_55 (by decide) rfl ?_
      exact l2 (by omega) 0 (Nat.zero_le _) _ _
  refine zk_iload_n (pc := 0) 1 dX8_test_0 rfl rfl ?_
  refine zk_iconst (pc := 1) (v := 0) dX8_test_1 (by decide) ?_
  refine zk_iconst (pc := 2) (v := 5) dX8_test_2 (by decide) ?_
  refine zk_callSI (pc := 3) dX8_test_3 mtX8_in lkX8_66 stX8_in [_, _, _] _ rfl rfl (Nat.le_of_ble_eq_true rfl) (Nat.le_of_ble_eq_true rfl) (sp_X8_in _ _ _) ?_
  refine zk_if_ne (pc := 6) 11 dX8_test_6 (by decide) (fun h6 => ?_) (fun h6 => ?_)
  · skip
    refine zk_aload_n (pc := 11) 0 dX8_test_11 rfl rfl ?_
    refine zk_iload_n (pc := 12) 1 dX8_test_12 rfl rfl ?_
    refine zk_callVI (pc := 13) dX8_test_13 mtX8_wrongPairs lkX8_213 stX8_wrongPairs (by rfl) (by rfl) [_] _ rfl rfl (Nat.le_of_ble_eq_true rfl) (Nat.le_of_ble_eq_true rfl) (sp_X8_wrongPairs hk hz) ?_
    refine zk_if_eq (pc := 16) 22 dX8_test_16 (by decide) (fun h16 => ?_) (fun h16 => ?_)
    · rw [mtOk_rf ho]
      refine zk_aload_n (pc := 22) 0 dX8_test_22 rfl rfl ?_
      refine zk_iload_n (pc := 23) 1 dX8_test_23 rfl rfl ?_
      refine zk_callVI (pc := 24) dX8_test_24 mtX8_kindsBy lkX8_216 stX8_kindsBy (by rfl) (by rfl) [_] _ rfl rfl (Nat.le_of_ble_eq_true rfl) (Nat.le_of_ble_eq_true rfl) (sp_X8_kindsBy hk ho) ?_
      refine zs_istore_n (pc := 27) (ls' := [_, _, _, _, _, _, _, _, _, _]) 2 dX8_test_27 rfl (by decide) rfl ?_
      refine zk_iload_n (pc := 28) 2 dX8_test_28 rfl rfl ?_
      refine zk_if_ne (pc := 29) 35 dX8_test_29 (by decide) (fun h29 => ?_) (fun h29 => ?_)
      · skip
        refine zk_bipush (pc := 35) (v := -9) dX8_test_35 (by decide) ?_
        refine zs_istore_n (pc := 37) (ls' := [_, _, _, _, _, _, _, _, _, _]) 3 dX8_test_37 rfl (by decide) rfl ?_
        refine zk_iconst (pc := 38) (v := 0) dX8_test_38 (by decide) ?_
        refine zs_istore (pc := 39) (ls' := [_, _, _, _, _, _, _, _, _, _]) 4 dX8_test_39 (by decide) rfl ?_
        refine zk_iconst (pc := 41) (v := 0) dX8_test_41 (by decide) ?_
        refine zs_istore (pc := 42) (ls' := [_, _, _, _, _, _, _, _, _, _]) 5 dX8_test_42 (by decide) rfl ?_
        exact loop _ h29 0 (Nat.zero_le _) _ _ _ _
      · skip
        refine zk_bipush (pc := 32) (v := -9) dX8_test_32 (by decide) ?_
        refine zk_ireturn (pc := 34) dX8_test_34 (Or.inl rfl) (zk_pr ?_)
        unfold mTst
        rw [if_pos h29]
    · exact absurd (by rw [mtOk_rf ho]) h16 --
  · rw [zb_e] at h6
    exact absurd (show (0 : Int32) ≤ nI k ∧ nI k ≤ 5 from ⟨nI_pos' (by omega), show nI k ≤ nI 5 from nI_le (by omega) (by decide)⟩) h6 --
def lkP (f : Nat → Int32) (i : Nat) : Nat → Bool := fun t => decide (f (t + 1) = zmax 0 (f t - nI i))
def lkG (f : Nat → Int32) (j : Nat) : Int32 := zbt (fun i => zall (lkP f i) j 0) 10
theorem lkB_G (mu : Mem) (p j : Nat) : lkB mu p j = lkG (mu p) j := rfl
def mLk (mu : Mem) (k : Nat) : Int32 × Mem := if 0 ≤ mu 47 k then (if mu 47 k = 0 then (-3, fndD mu 5) else if zall (inP (itF mu k) 999) (mu 47 k).toNatClampNeg 0 = true then (lkG (itF mu k) ((mu 47 k).toNatClampNeg - 1), mu) else (-3, fndD mu 3)) else (-3, fndD mu 1)
theorem zmax_0 {x : Int32} : (0 ≤ x → x = zmax 0 x) ∧ (¬ 0 ≤ x → 0 = zmax 0 x) := by
  have h := zmax_a (x := 0) (y := x)
  exact h
theorem sp_X8_leaks {k : Nat} (hk : k < 6) (hz : zSz (mu 47 k) 40) : zk_M (d + 1) RX8 cX8_leaks 8 (some .int) none 0 (zk_loc [.ref 46, .int (nI k)] 8) [] mu lm (zk_R (some (.int (mLk mu k).1)) (mLk mu k).2 lm) := by
  have loop : ∀ n, 0 < n → n ≤ 40 → mu 47 k = nI n → ∀ i, i ≤ n → zk_M (d + 1) RX8 cX8_leaks 8 (some .int) none 45 [.ref 46, .int (nI k), .int (zb (zall (inP (itF mu k) 999) i 0 = true)), .int (nI i), .retAddr 0, .retAddr 0, .retAddr 0, .retAddr 0] [] mu lm (zk_R (some (.int (mLk mu k).1)) (mLk mu k).2 lm) := by
    intro n hn0 hn hs
    have l2 : zall (inP (itF mu k) 999) n 0 = true → ∀ y, y ≤ 10 → ∀ b5 b6 b7, zk_M (d + 1) RX8 cX8_leaks 8 (some .int) none 107 [.ref 46, .int (nI k), .int (zb (zall (inP (itF mu k) 999) n 0 = true)), .int (zbt (fun i => zall (lkP (itF mu k) i) (n - 1) 0) y), .int (nI y), b5, b6, b7] [] mu lm (zk_R (some (.int (mLk mu k).1)) (mLk mu k).2 lm) := by
      intro hal
      refine zk_ind 10 (fun y hy ihy => ?_)
      intro b5 b6 b7
      have l3 : y < 10 → ∀ t, t ≤ n - 1 → ∀ b7, zk_M (d + 1) RX8 cX8_leaks 8 (some .int) none 120 [.ref 46, .int (nI k), .int (zb (zall (inP (itF mu k) 999) n 0 = true)), .int (zbt (fun i => zall (lkP (itF mu k) i) (n - 1) 0) y), .int (nI y), .int (zb (zall (lkP (itF mu k) y) t 0 = true)), .int (nI (t + 1)), b7] [] mu lm (zk_R (some (.int (mLk mu k).1)) (mLk mu k).2 lm) := by
        intro hy10
        refine zk_ind (n - 1) (fun t ht iht => ?_)
        intro b7
        refine zk_iload (pc := 120) dX8_leaks_120 rfl ?_
        refine zk_aload_n (pc := 122) 0 dX8_leaks_122 rfl rfl ?_
        refine zk_getR (pc := 123) dX8_leaks_123 flX8_7 rfl rfl ?_
        refine zk_iload_n (pc := 126) 1 dX8_leaks_126 rfl rfl ?_
        refine zk_iaload (pc := 127) k dX8_leaks_127 rfl rfl hk ?_
        refine zk_icmp_ge (pc := 128) 194 dX8_leaks_128 (by decide) (fun h128 => ?_) (fun h128 => ?_)
        · rw [hs, nIle (by omega) (by omega)] at h128
          obtain rfl : t = n - 1 := by omega
          refine zk_iload_n (pc := 194) 3 dX8_leaks_194 rfl rfl ?_
          refine zk_iload (pc := 195) dX8_leaks_195 rfl ?_
          refine zk_if_eq (pc := 197) 207 dX8_leaks_197 (by decide) (fun h197 => ?_) (fun h197 => ?_)
          · rw [zb_e] at h197
            refine zk_iconst (pc := 207) (v := 0) dX8_leaks_207 (by decide) ?_
            refine zk_ior (pc := 208) dX8_leaks_208 ?_
            refine zs_istore_n (pc := 209) (ls' := [_, _, _, _, _, _, _, _]) 3 dX8_leaks_209 rfl (by decide) rfl ?_
            refine zs_iinc (pc := 210) (ls' := [_, _, _, _, _, _, _, _]) dX8_leaks_210 rfl (nI_1 y) (by decide) rfl ?_
            refine zk_goto (pc := 213) 107 dX8_leaks_213 (by decide) ?_
            have e := ihy hy10 (.int (zb (zall (lkP (itF mu k) y) (n - 1) 0 = true))) (.int (nI (n - 1 + 1))) b7
            rw [zbt_s] at e
            first | (rw [if_neg h197] at e; exact e) | (rw [if_pos h197] at e; exact e)
          · rw [zb_n] at h197
            refine zk_iconst (pc := 200) (v := 1) dX8_leaks_200 (by decide) ?_
            refine zk_iload (pc := 201) dX8_leaks_201 rfl ?_
            refine zk_ishl (pc := 203) dX8_leaks_203 ?_
            refine zk_goto (pc := 204) 208 dX8_leaks_204 (by decide) ?_
            refine zk_ior (pc := 208) dX8_leaks_208 ?_
            refine zs_istore_n (pc := 209) (ls' := [_, _, _, _, _, _, _, _]) 3 dX8_leaks_209 rfl (by decide) rfl ?_
            refine zs_iinc (pc := 210) (ls' := [_, _, _, _, _, _, _, _]) dX8_leaks_210 rfl (nI_1 y) (by decide) rfl ?_
            refine zk_goto (pc := 213) 107 dX8_leaks_213 (by decide) ?_
            have e := ihy hy10 (.int (zb (zall (lkP (itF mu k) y) (n - 1) 0 = true))) (.int (nI (n - 1 + 1))) b7
            rw [zbt_s] at e
            first | (rw [if_neg h197] at e; exact e) | (rw [if_pos h197] at e; exact e)
        · rw [hs, nIle (by omega) (by omega)] at h128
          refine zk_aload_n (pc := 131) 0 dX8_leaks_131 rfl rfl ?_
          refine zk_getR (pc := 132) dX8_leaks_132 flX8_13 rfl rfl ?_
          refine zk_bipush (pc := 135) (v := 40) dX8_leaks_135 (by decide) ?_
          refine zk_iload_n (pc := 137) 1 dX8_leaks_137 rfl rfl ?_
          refine zk_imul (pc := 138) dX8_leaks_138 ?_
          refine zk_iload (pc := 139) dX8_leaks_139 rfl ?_
          refine zk_iadd (pc := 141) dX8_leaks_141 ?_
          refine zk_iconst (pc := 142) (v := 1) dX8_leaks_142 (by decide) ?_
          refine zk_isub (pc := 143) dX8_leaks_143 ?_
          refine zk_iaload (pc := 144) (40 * k + t) dX8_leaks_144 rfl (by rw [show (40 : Int32) = nI 40 from rfl, pk_mul, nI_add, show 40 * k + (t + 1) = 40 * k + t + 1 from rfl, nI_pred]) (by omega) ?_
          refine zk_iload (pc := 145) dX8_leaks_145 rfl ?_
          refine zk_isub (pc := 147) dX8_leaks_147 ?_
          rw [show mu 48 (40 * k + t) = itF mu k t from rfl]
          refine zs_istore (pc := 148) (ls' := [_, _, _, _, _, _, _, _]) 7 dX8_leaks_148 (by decide) rfl ?_
          refine zk_iload (pc := 150) dX8_leaks_150 rfl ?_
          refine zk_if_eq (pc := 152) 185 dX8_leaks_152 (by decide) (fun h152 => ?_) (fun h152 => ?_)
          · rw [zb_e] at h152
            refine zk_iconst (pc := 185) (v := 0) dX8_leaks_185 (by decide) ?_
            refine zs_istore (pc := 186) (ls' := [_, _, _, _, _, _, _, _]) 5 dX8_leaks_186 (by decide) rfl ?_
            refine zs_iinc (pc := 188) (ls' := [_, _, _, _, _, _, _, _]) dX8_leaks_188 rfl (nI_1 (t + 1)) (by decide) rfl ?_
            refine zk_goto (pc := 191) 120 dX8_leaks_191 (by decide) ?_
            have e := iht (by omega) (.int (itF mu k t - nI y))
            first
              | (rw [zal_1 h152] at e; exact e)
              | (rw [zmax_0.1 h169] at h178
                 rw [zal_2 (fun z => h178 (of_decide_eq_true z))] at e; exact e)
              | (rw [zmax_0.1 h169] at h178
                 rw [zal_3 h152 (decide_eq_true h178)] at e; exact e)
              | (rw [zmax_0.2 h169] at h178
                 rw [zal_2 (fun z => h178 (of_decide_eq_true z))] at e; exact e)
              | (rw [zmax_0.2 h169] at h178
                 rw [zal_3 h152 (decide_eq_true h178)] at e; exact e)
          · rw [zb_n] at h152
            refine zk_aload_n (pc := 155) 0 dX8_leaks_155 rfl rfl ?_
            refine zk_getR (pc := 156) dX8_leaks_156 flX8_13 rfl rfl ?_
            refine zk_bipush (pc := 159) (v := 40) dX8_leaks_159 (by decide) ?_
            refine zk_iload_n (pc := 161) 1 dX8_leaks_161 rfl rfl ?_
            refine zk_imul (pc := 162) dX8_leaks_162 ?_
            refine zk_iload (pc := 163) dX8_leaks_163 rfl ?_
            refine zk_iadd (pc := 165) dX8_leaks_165 ?_
            refine zk_iaload (pc := 166) (40 * k + (t + 1)) dX8_leaks_166 rfl (by rw [show (40 : Int32) = nI 40 from rfl, pk_mul, nI_add]) (by omega) ?_
            refine zk_iload (pc := 167) dX8_leaks_167 rfl ?_
            refine zk_if_ge (pc := 169) 176 dX8_leaks_169 (by decide) (fun h169 => ?_) (fun h169 => ?_)
            · skip
              refine zk_iload (pc := 176) dX8_leaks_176 rfl ?_
              refine zk_icmp_ne (pc := 178) 185 dX8_leaks_178 (by decide) (fun h178 => ?_) (fun h178 => ?_)
              · skip
                refine zk_iconst (pc := 185) (v := 0) dX8_leaks_185 (by decide) ?_
                refine zs_istore (pc := 186) (ls' := [_, _, _, _, _, _, _, _]) 5 dX8_leaks_186 (by decide) rfl ?_
                refine zs_iinc (pc := 188) (ls' := [_, _, _, _, _, _, _, _]) dX8_leaks_188 rfl (nI_1 (t + 1)) (by decide) rfl ?_
                refine zk_goto (pc := 191) 120 dX8_leaks_191 (by decide) ?_
                have e := iht (by omega) (.int (itF mu k t - nI y))
                first
                  | (rw [zal_1 h152] at e; exact e)
                  | (rw [zmax_0.1 h169] at h178
                     rw [zal_2 (fun z => h178 (of_decide_eq_true z))] at e; exact e)
                  | (rw [zmax_0.1 h169] at h178
                     rw [zal_3 h152 (decide_eq_true h178)] at e; exact e)
                  | (rw [zmax_0.2 h169] at h178
                     rw [zal_2 (fun z => h178 (of_decide_eq_true z))] at e; exact e)
                  | (rw [zmax_0.2 h169] at h178
                     rw [zal_3 h152 (decide_eq_true h178)] at e; exact e)
              · skip
                refine zk_iconst (pc := 181) (v := 1) dX8_leaks_181 (by decide) ?_
                refine zk_goto (pc := 182) 186 dX8_leaks_182 (by decide) ?_
                refine zs_istore (pc := 186) (ls' := [_, _, _, _, _, _, _, _]) 5 dX8_leaks_186 (by decide) rfl ?_
                refine zs_iinc (pc := 188) (ls' := [_, _, _, _, _, _, _, _]) dX8_leaks_188 rfl (nI_1 (t + 1)) (by decide) rfl ?_
                refine zk_goto (pc := 191) 120 dX8_leaks_191 (by decide) ?_
                have e := iht (by omega) (.int (itF mu k t - nI y))
                first
                  | (rw [zal_1 h152] at e; exact e)
                  | (rw [zmax_0.1 h169] at h178
                     rw [zal_2 (fun z => h178 (of_decide_eq_true z))] at e; exact e)
                  | (rw [zmax_0.1 h169] at h178
                     rw [zal_3 h152 (decide_eq_true h178)] at e; exact e)
                  | (rw [zmax_0.2 h169] at h178
                     rw [zal_2 (fun z => h178 (of_decide_eq_true z))] at e; exact e)
                  | (rw [zmax_0.2 h169] at h178
                     rw [zal_3 h152 (decide_eq_true h178)] at e; exact e)
            · skip
              refine zk_iconst (pc := 172) (v := 0) dX8_leaks_172 (by decide) ?_
              refine zk_goto (pc := 173) 178 dX8_leaks_173 (by decide) ?_
              refine zk_icmp_ne (pc := 178) 185 dX8_leaks_178 (by decide) (fun h178 => ?_) (fun h178 => ?_)
              · skip
                refine zk_iconst (pc := 185) (v := 0) dX8_leaks_185 (by decide) ?_
                refine zs_istore (pc := 186) (ls' := [_, _, _, _, _, _, _, _]) 5 dX8_leaks_186 (by decide) rfl ?_
                refine zs_iinc (pc := 188) (ls' := [_, _, _, _, _, _, _, _]) dX8_leaks_188 rfl (nI_1 (t + 1)) (by decide) rfl ?_
                refine zk_goto (pc := 191) 120 dX8_leaks_191 (by decide) ?_
                have e := iht (by omega) (.int (itF mu k t - nI y))
                first
                  | (rw [zal_1 h152] at e; exact e)
                  | (rw [zmax_0.1 h169] at h178
                     rw [zal_2 (fun z => h178 (of_decide_eq_true z))] at e; exact e)
                  | (rw [zmax_0.1 h169] at h178
                     rw [zal_3 h152 (decide_eq_true h178)] at e; exact e)
                  | (rw [zmax_0.2 h169] at h178
                     rw [zal_2 (fun z => h178 (of_decide_eq_true z))] at e; exact e)
                  | (rw [zmax_0.2 h169] at h178
                     rw [zal_3 h152 (decide_eq_true h178)] at e; exact e)
              · skip
                refine zk_iconst (pc := 181) (v := 1) dX8_leaks_181 (by decide) ?_
                refine zk_goto (pc := 182) 186 dX8_leaks_182 (by decide) ?_
                refine zs_istore (pc := 186) (ls' := [_, _, _, _, _, _, _, _]) 5 dX8_leaks_186 (by decide) rfl ?_
                refine zs_iinc (pc := 188) (ls' := [_, _, _, _, _, _, _, _]) dX8_leaks_188 rfl (nI_1 (t + 1)) (by decide) rfl ?_
                refine zk_goto (pc := 191) 120 dX8_leaks_191 (by decide) ?_
                have e := iht (by omega) (.int (itF mu k t - nI y))
                first
                  | (rw [zal_1 h152] at e; exact e)
                  | (rw [zmax_0.1 h169] at h178
                     rw [zal_2 (fun z => h178 (of_decide_eq_true z))] at e; exact e)
                  | (rw [zmax_0.1 h169] at h178
                     rw [zal_3 h152 (decide_eq_true h178)] at e; exact e)
                  | (rw [zmax_0.2 h169] at h178
                     rw [zal_2 (fun z => h178 (of_decide_eq_true z))] at e; exact e)
                  | (rw [zmax_0.2 h169] at h178
                     rw [zal_3 h152 (decide_eq_true h178)] at e; exact e)
      refine zk_iload (pc := 107) dX8_leaks_107 rfl ?_
      refine zk_bipush (pc := 109) (v := 10) dX8_leaks_109 (by decide) ?_
      refine zk_icmp_ge (pc := 111) 216 dX8_leaks_111 (by decide) (fun h111 => ?_) (fun h111 => ?_)
      · rw [show (10 : Int32) = nI 10 from rfl, nIle (by omega) (by omega)] at h111
        refine zk_iload_n (pc := 216) 3 dX8_leaks_216 rfl rfl ?_
        refine zk_ireturn (pc := 217) dX8_leaks_217 (Or.inl rfl) (zk_pr ?_)
        unfold mLk
        rw [if_pos (by rw [hs]; exact nI_pos' (by omega)), if_neg (by rw [hs]; exact nI_ne0 hn0 (by omega)), hs, nI_clamp (by omega), if_pos hal, show y = 10 by omega]
        rfl
      · rw [show (10 : Int32) = nI 10 from rfl, nIle (by omega) (by omega)] at h111
        refine zk_iconst (pc := 114) (v := 1) dX8_leaks_114 (by decide) ?_
        refine zs_istore (pc := 115) (ls' := [_, _, _, _, _, _, _, _]) 5 dX8_leaks_115 (by decide) rfl ?_
        refine zk_iconst (pc := 117) (v := 1) dX8_leaks_117 (by decide) ?_
        refine zs_istore (pc := 118) (ls' := [_, _, _, _, _, _, _, _]) 6 dX8_leaks_118 (by decide) rfl ?_
        have e := l3 (by omega) 0 (Nat.zero_le _) b7
        rw [zall_z] at e
        exact e
    refine zk_ind n (fun i hi ih => ?_)
    refine zk_iload_n (pc := 45) 3 dX8_leaks_45 rfl rfl ?_
    refine zk_aload_n (pc := 46) 0 dX8_leaks_46 rfl rfl ?_
    refine zk_getR (pc := 47) dX8_leaks_47 flX8_7 rfl rfl ?_
    refine zk_iload_n (pc := 50) 1 dX8_leaks_50 rfl rfl ?_
    refine zk_iaload (pc := 51) k dX8_leaks_51 rfl rfl hk ?_
    refine zk_icmp_ge (pc := 52) 92 dX8_leaks_52 (by decide) (fun h52 => ?_) (fun h52 => ?_)
    · rw [hs, nIle (by omega) (by omega)] at h52
      obtain rfl : i = n := by omega
      refine zk_iload_n (pc := 92) 2 dX8_leaks_92 rfl rfl ?_
      refine zk_if_ne (pc := 93) 102 dX8_leaks_93 (by decide) (fun h93 => ?_) (fun h93 => ?_)
      · rw [zb_n] at h93
        refine zk_iconst (pc := 102) (v := 0) dX8_leaks_102 (by decide) ?_
        refine zs_istore_n (pc := 103) (ls' := [_, _, _, _, _, _, _, _]) 3 dX8_leaks_103 rfl (by decide) rfl ?_
        refine zk_iconst (pc := 104) (v := 0) dX8_leaks_104 (by decide) ?_
        refine zs_istore (pc := 105) (ls' := [_, _, _, _, _, _, _, _]) 4 dX8_leaks_105 (by decide) rfl ?_
        exact l2 h93 0 (Nat.zero_le _) _ _ _
      · rw [zb_e] at h93
        refine zk_aload_n (pc := 96) 0 dX8_leaks_96 rfl rfl ?_
        refine zk_iconst (pc := 97) (v := 3) dX8_leaks_97 (by decide) ?_
        refine zk_callVI (pc := 98) dX8_leaks_98 mtX8_finds lkX8_73 stX8_finds (by rfl) (by rfl) [_] _ rfl rfl (Nat.le_of_ble_eq_true rfl) (Nat.le_of_ble_eq_true rfl) (sp_X8_finds (f := 3) (by decide)) ?_
        refine zk_ireturn (pc := 101) dX8_leaks_101 (Or.inl rfl) (zk_pr ?_)
        unfold mLk
        rw [if_pos (by rw [hs]; exact nI_pos' (by omega)), if_neg (by rw [hs]; exact nI_ne0 hn0 (by omega)), hs, nI_clamp (by omega), if_neg h93]
    · rw [hs, nIle (by omega) (by omega)] at h52
      refine zk_iload_n (pc := 55) 2 dX8_leaks_55 rfl rfl ?_
      refine zk_if_eq (pc := 56) 84 dX8_leaks_56 (by decide) (fun h56 => ?_) (fun h56 => ?_)
      · rw [zb_e] at h56
        refine zk_iconst (pc := 84) (v := 0) dX8_leaks_84 (by decide) ?_
        refine zs_istore_n (pc := 85) (ls' := [_, _, _, _, _, _, _, _]) 2 dX8_leaks_85 rfl (by decide) rfl ?_
        refine zs_iinc (pc := 86) (ls' := [_, _, _, _, _, _, _, _]) dX8_leaks_86 rfl (nI_1 i) (by decide) rfl ?_
        refine zk_goto (pc := 89) 45 dX8_leaks_89 (by decide) ?_
        have e := ih (by omega)
        first
          | (rw [zal_1 h56] at e; exact e)
          | (rw [zal_2 (fun z => h77 (of_decide_eq_true z))] at e; exact e)
          | (rw [zal_3 h56 (decide_eq_true h77)] at e; exact e)
      · rw [zb_n] at h56
        refine zk_aload_n (pc := 59) 0 dX8_leaks_59 rfl rfl ?_
        refine zk_getR (pc := 60) dX8_leaks_60 flX8_13 rfl rfl ?_
        refine zk_bipush (pc := 63) (v := 40) dX8_leaks_63 (by decide) ?_
        refine zk_iload_n (pc := 65) 1 dX8_leaks_65 rfl rfl ?_
        refine zk_imul (pc := 66) dX8_leaks_66 ?_
        refine zk_iload_n (pc := 67) 3 dX8_leaks_67 rfl rfl ?_
        refine zk_iadd (pc := 68) dX8_leaks_68 ?_
        refine zk_iaload (pc := 69) (40 * k + i) dX8_leaks_69 rfl (by rw [show (40 : Int32) = nI 40 from rfl, pk_mul, nI_add]) (by omega) ?_
        refine zk_iconst (pc := 70) (v := 0) dX8_leaks_70 (by decide) ?_
        refine zk_sipush (pc := 71) (v := 999) dX8_leaks_71 (by decide) ?_
        refine zk_callSI (pc := 74) dX8_leaks_74 mtX8_in lkX8_66 stX8_in [_, _, _] _ rfl rfl (Nat.le_of_ble_eq_true rfl) (Nat.le_of_ble_eq_true rfl) (sp_X8_in _ _ _) ?_
        refine zk_if_eq (pc := 77) 84 dX8_leaks_77 (by decide) (fun h77 => ?_) (fun h77 => ?_)
        · rw [zb_e] at h77
          refine zk_iconst (pc := 84) (v := 0) dX8_leaks_84 (by decide) ?_
          refine zs_istore_n (pc := 85) (ls' := [_, _, _, _, _, _, _, _]) 2 dX8_leaks_85 rfl (by decide) rfl ?_
          refine zs_iinc (pc := 86) (ls' := [_, _, _, _, _, _, _, _]) dX8_leaks_86 rfl (nI_1 i) (by decide) rfl ?_
          refine zk_goto (pc := 89) 45 dX8_leaks_89 (by decide) ?_
          have e := ih (by omega)
          first
            | (rw [zal_1 h56] at e; exact e)
            | (rw [zal_2 (fun z => h77 (of_decide_eq_true z))] at e; exact e)
            | (rw [zal_3 h56 (decide_eq_true h77)] at e; exact e)
        · rw [zb_n] at h77
          refine zk_iconst (pc := 80) (v := 1) dX8_leaks_80 (by decide) ?_
          refine zk_goto (pc := 81) 85 dX8_leaks_81 (by decide) ?_
          refine zs_istore_n (pc := 85) (ls' := [_, _, _, _, _, _, _, _]) 2 dX8_leaks_85 rfl (by decide) rfl ?_
          refine zs_iinc (pc := 86) (ls' := [_, _, _, _, _, _, _, _]) dX8_leaks_86 rfl (nI_1 i) (by decide) rfl ?_
          refine zk_goto (pc := 89) 45 dX8_leaks_89 (by decide) ?_
          have e := ih (by omega)
          first
            | (rw [zal_1 h56] at e; exact e)
            | (rw [zal_2 (fun z => h77 (of_decide_eq_true z))] at e; exact e)
            | (rw [zal_3 h56 (decide_eq_true h77)] at e; exact e)
  refine zk_iload_n (pc := 0) 1 dX8_leaks_0 rfl rfl ?_
  refine zk_iconst (pc := 1) (v := 0) dX8_leaks_1 (by decide) ?_
  refine zk_iconst (pc := 2) (v := 5) dX8_leaks_2 (by decide) ?_
  refine zk_callSI (pc := 3) dX8_leaks_3 mtX8_in lkX8_66 stX8_in [_, _, _] _ rfl rfl (Nat.le_of_ble_eq_true rfl) (Nat.le_of_ble_eq_true rfl) (sp_X8_in _ _ _) ?_
  refine zk_if_ne (pc := 6) 11 dX8_leaks_6 (by decide) (fun h6 => ?_) (fun h6 => ?_)
  · skip
    refine zk_aload_n (pc := 11) 0 dX8_leaks_11 rfl rfl ?_
    refine zk_getR (pc := 12) dX8_leaks_12 flX8_7 rfl rfl ?_
    refine zk_iload_n (pc := 15) 1 dX8_leaks_15 rfl rfl ?_
    refine zk_iaload (pc := 16) k dX8_leaks_16 rfl rfl hk ?_
    refine zk_if_ge (pc := 17) 26 dX8_leaks_17 (by decide) (fun h17 => ?_) (fun h17 => ?_)
    · skip
      refine zk_aload_n (pc := 26) 0 dX8_leaks_26 rfl rfl ?_
      refine zk_getR (pc := 27) dX8_leaks_27 flX8_7 rfl rfl ?_
      refine zk_iload_n (pc := 30) 1 dX8_leaks_30 rfl rfl ?_
      refine zk_iaload (pc := 31) k dX8_leaks_31 rfl rfl hk ?_
      refine zk_if_ne (pc := 32) 41 dX8_leaks_32 (by decide) (fun h32 => ?_) (fun h32 => ?_)
      · skip
        refine zk_iconst (pc := 41) (v := 1) dX8_leaks_41 (by decide) ?_
        refine zs_istore_n (pc := 42) (ls' := [_, _, _, _, _, _, _, _]) 2 dX8_leaks_42 rfl (by decide) rfl ?_
        refine zk_iconst (pc := 43) (v := 0) dX8_leaks_43 (by decide) ?_
        refine zs_istore_n (pc := 44) (ls' := [_, _, _, _, _, _, _, _]) 3 dX8_leaks_44 rfl (by decide) rfl ?_
        obtain ⟨n, hn, hs⟩ : ∃ n, n ≤ 40 ∧ mu 47 k = nI n := by
          rcases hz with z | z
          · rw [z] at h17; exact absurd h17 (by decide)
          · exact z
        have hn0 : 0 < n := by
          cases n with
          | zero => exact absurd hs h32
          | succ n => omega
        have e := loop n hn0 hn hs 0 (Nat.zero_le _)
        rw [zall_z] at e
        exact e
      · skip
        refine zk_aload_n (pc := 35) 0 dX8_leaks_35 rfl rfl ?_
        refine zk_iconst (pc := 36) (v := 5) dX8_leaks_36 (by decide) ?_
        refine zk_callVI (pc := 37) dX8_leaks_37 mtX8_finds lkX8_73 stX8_finds (by rfl) (by rfl) [_] _ rfl rfl (Nat.le_of_ble_eq_true rfl) (Nat.le_of_ble_eq_true rfl) (sp_X8_finds (f := 5) (by decide)) ?_
        refine zk_ireturn (pc := 40) dX8_leaks_40 (Or.inl rfl) (zk_pr ?_)
        unfold mLk
        rw [if_pos h17, if_pos h32]
    · skip
      refine zk_aload_n (pc := 20) 0 dX8_leaks_20 rfl rfl ?_
      refine zk_iconst (pc := 21) (v := 1) dX8_leaks_21 (by decide) ?_
      refine zk_callVI (pc := 22) dX8_leaks_22 mtX8_finds lkX8_73 stX8_finds (by rfl) (by rfl) [_] _ rfl rfl (Nat.le_of_ble_eq_true rfl) (Nat.le_of_ble_eq_true rfl) (sp_X8_finds (f := 1) (by decide)) ?_
      refine zk_ireturn (pc := 25) dX8_leaks_25 (Or.inl rfl) (zk_pr ?_)
      unfold mLk
      rw [if_neg h17]
  · rw [zb_e] at h6
    exact absurd (show (0 : Int32) ≤ nI k ∧ nI k ≤ 5 from ⟨nI_pos' (by omega), show nI k ≤ nI 5 from nI_le (by omega) (by decide)⟩) h6 --
end M52
