section M47
variable {d : Nat} {mu : Mem} {lm : MemL}
theorem kIs_iff (k w : Int32) : (k = w ∨ w = 0 ∨ (k = 4 ∧ w = 1) ∨ (k = 5 ∧ w = 2)) ↔ kIs k w := by
  unfold kIs
  by_cases h0 : w = 0
  · simp [h0]
  · by_cases h1 : w = 1
    · subst h1
      constructor
      · rintro (h | h | h | h)
        · exact Or.inr (Or.inl ⟨rfl, Or.inl h⟩)
        · exact absurd h (by decide)
        · exact Or.inr (Or.inl ⟨rfl, Or.inr h.1⟩)
        · exact absurd h.2 (by decide)
      · rintro (h | ⟨_, h | h⟩ | h | h)
        · exact absurd h (by decide)
        · exact Or.inl h
        · exact Or.inr (Or.inr (Or.inl ⟨h, rfl⟩))
        · exact absurd h.1 (by decide)
        · exact absurd rfl h.2.1
    · by_cases h2 : w = 2
      · subst h2
        constructor
        · rintro (h | h | h | h)
          · exact Or.inr (Or.inr (Or.inl ⟨rfl, Or.inl h⟩))
          · exact absurd h (by decide)
          · exact absurd h.2 (by decide)
          · exact Or.inr (Or.inr (Or.inl ⟨rfl, Or.inr h.1⟩))
        · rintro (h | h | ⟨_, h | h⟩ | h)
          · exact absurd h (by decide)
          · exact absurd h.1 (by decide)
          · exact Or.inl h
          · exact Or.inr (Or.inr (Or.inr ⟨h, rfl⟩))
          · exact absurd rfl h.2.2.1
      · simp [h0, h1, h2]
def mkV (air seat kind : Nat → Int32) (C M j : Nat) (w : Int32) : Int32 := if w = 1 then air (seat j).toNatClampNeg + air (cBeh (nI C) (seat j)).toNatClampNeg + air (cAhd (nI C) (seat j)).toNatClampNeg
  else if w = 2 then zsum M (fun k => zb ((¬ nI k = nI j ∧ seat k = seat j) ∧ (kind k = 2 ∨ kind k = 5)))
  else if w = 3 then zsum M (fun k => zb (¬ nI k = nI j ∧ 5 - kSay (kind k) 5 = 0))
  else if w = 4 then zsum 100 (fun v => zb (kSay (kind j) (nI v) = 0))
  else zsum 100 (fun v => zb (kSay (kind j) (nI v) = kSay (kind j) 7))
theorem cMk_V (mu : Mem) (C M j : Nat) (w : Int32) : cMk mu C M j w = mkV (mu 27) (mu 25) (mu 24) C M j w := rfl
def mMk (mu : Mem) (C M j : Nat) (w : Int32) : Int32 := mkV (mu 55) (mu 54) (mu 53) C M j w
theorem sp_X8_mark {C M : Nat} (hC : mu 46 17 = nI C) (hC8 : C ≤ 8) (hM : mu 46 18 = nI M) (hM6 : M ≤ 6) (hS : ∀ j, j < M → ∃ q, q < C ∧ mu 54 j = nI q) {j t : Nat} (hj : j < M) (ht : 1 ≤ t) (ht5 : t ≤ 5) (hk : kIs (mu 53 j) (nI t)) : zk_M (d + 2) RX8 cX8_mark 5 (some .int) none 0 (zk_loc [.ref 46, .int (nI j), .int (nI t)] 5) [] mu lm (zk_R (some (.int (mMk mu C M j (nI t)))) mu lm) := by
  have hm : 0 ≤ nI j ∧ nI j < mu 46 18 := ⟨nI_pos' (by omega), by rw [hM, nIlt (by omega) (by omega)]; exact hj⟩
  have hw : (1 : Int32) ≤ nI t ∧ nI t ≤ 5 := ⟨show nI 1 ≤ nI t from nI_le ht (by omega), show nI t ≤ nI 5 from nI_le ht5 (by decide)⟩
  obtain ⟨q, hq, hsq⟩ := hS j hj
  obtain ⟨b, hb, hbe, hb2⟩ := cBeh_n hC8 hq
  obtain ⟨a, ha, hae, ha2⟩ := cAhd_n hC8 hq
  have l2 : ∀ o, o ≤ M → zk_M (d + 2) RX8 cX8_mark 5 (some .int) none 115 [.ref 46, .int (nI j), .int 2, .int (zsum o (fun k => zb ((¬ nI k = nI j ∧ mu 54 k = mu 54 j) ∧ (mu 53 k = 2 ∨ mu 53 k = 5)))), .int (nI o)] [] mu lm (zk_R (some (.int (zsum M (fun k => zb ((¬ nI k = nI j ∧ mu 54 k = mu 54 j) ∧ (mu 53 k = 2 ∨ mu 53 k = 5)))))) mu lm) := by
    refine zk_ind M (fun o ho ih => ?_)
    refine zk_iload (pc := 115) dX8_mark_115 rfl ?_
    refine zk_aload_n (pc := 117) 0 dX8_mark_117 rfl rfl ?_
    refine zk_getI (pc := 118) dX8_mark_118 flX8_63 rfl rfl ?_
    refine zk_icmp_ge (pc := 121) 174 dX8_mark_121 (by decide) (fun h121 => ?_) (fun h121 => ?_)
    · rw [hM, nIle (by omega) (by omega)] at h121
      refine zk_iload_n (pc := 174) 3 dX8_mark_174 rfl rfl ?_
      refine zk_ireturn (pc := 175) dX8_mark_175 (Or.inl rfl) (zk_ri ?_)
      rw [show o = M by omega]
    · rw [hM, nIle (by omega) (by omega)] at h121
      refine zk_iload_n (pc := 124) 3 dX8_mark_124 rfl rfl ?_
      refine zk_iload (pc := 125) dX8_mark_125 rfl ?_
      refine zk_iload_n (pc := 127) 1 dX8_mark_127 rfl rfl ?_
      refine zk_icmp_eq (pc := 128) 165 dX8_mark_128 (by decide) (fun h128 => ?_) (fun h128 => ?_)
      · skip
        refine zk_iconst (pc := 165) (v := 0) dX8_mark_165 (by decide) ?_
        refine zk_iadd (pc := 166) dX8_mark_166 ?_
        refine zs_istore_n (pc := 167) (ls' := [_, _, _, _, _]) 3 dX8_mark_167 rfl (by decide) rfl ?_
        refine zs_iinc (pc := 168) (ls' := [_, _, _, _, _]) dX8_mark_168 rfl (nI_1 o) (by decide) rfl ?_
        refine zk_goto (pc := 171) 115 dX8_mark_171 (by decide) ?_
        have e := ih (by omega)
        rw [zsum_s] at e
        first
          | (have hz : zb ((¬ nI o = nI j ∧ mu 54 o = mu 54 j) ∧ (mu 53 o = 2 ∨ mu 53 o = 5)) = 0 := zb_f (fun z => z.1.1 h128)
             rw [hz] at e; exact e)
          | (have hz : zb ((¬ nI o = nI j ∧ mu 54 o = mu 54 j) ∧ (mu 53 o = 2 ∨ mu 53 o = 5)) = 0 := zb_f (fun z => h142 z.2)
             rw [hz] at e; exact e)
          | (have hz : zb ((¬ nI o = nI j ∧ mu 54 o = mu 54 j) ∧ (mu 53 o = 2 ∨ mu 53 o = 5)) = 0 := zb_f (fun z => h158 z.1.2)
             rw [hz] at e; exact e)
          | (have hz : zb ((¬ nI o = nI j ∧ mu 54 o = mu 54 j) ∧ (mu 53 o = 2 ∨ mu 53 o = 5)) = 1 := zb_t ⟨⟨h128, h158⟩, h142⟩
             rw [hz] at e; exact e)
      · skip
        refine zk_aload_n (pc := 131) 0 dX8_mark_131 rfl rfl ?_
        refine zk_getR (pc := 132) dX8_mark_132 flX8_32 rfl rfl ?_
        refine zk_iload (pc := 135) dX8_mark_135 rfl ?_
        refine zk_iaload (pc := 137) o dX8_mark_137 rfl rfl (by omega) ?_
        refine zk_iconst (pc := 138) (v := 2) dX8_mark_138 (by decide) ?_
        refine zk_callSI (pc := 139) dX8_mark_139 mtX8_is lkX8_143 stX8_is [_, _] _ rfl rfl (Nat.le_of_ble_eq_true rfl) (Nat.le_of_ble_eq_true rfl) (sp_is2 _) ?_
        refine zk_if_eq (pc := 142) 165 dX8_mark_142 (by decide) (fun h142 => ?_) (fun h142 => ?_)
        · rw [zb_e] at h142
          refine zk_iconst (pc := 165) (v := 0) dX8_mark_165 (by decide) ?_
          refine zk_iadd (pc := 166) dX8_mark_166 ?_
          refine zs_istore_n (pc := 167) (ls' := [_, _, _, _, _]) 3 dX8_mark_167 rfl (by decide) rfl ?_
          refine zs_iinc (pc := 168) (ls' := [_, _, _, _, _]) dX8_mark_168 rfl (nI_1 o) (by decide) rfl ?_
          refine zk_goto (pc := 171) 115 dX8_mark_171 (by decide) ?_
          have e := ih (by omega)
          rw [zsum_s] at e
          first
            | (have hz : zb ((¬ nI o = nI j ∧ mu 54 o = mu 54 j) ∧ (mu 53 o = 2 ∨ mu 53 o = 5)) = 0 := zb_f (fun z => z.1.1 h128)
               rw [hz] at e; exact e)
            | (have hz : zb ((¬ nI o = nI j ∧ mu 54 o = mu 54 j) ∧ (mu 53 o = 2 ∨ mu 53 o = 5)) = 0 := zb_f (fun z => h142 z.2)
               rw [hz] at e; exact e)
            | (have hz : zb ((¬ nI o = nI j ∧ mu 54 o = mu 54 j) ∧ (mu 53 o = 2 ∨ mu 53 o = 5)) = 0 := zb_f (fun z => h158 z.1.2)
               rw [hz] at e; exact e)
            | (have hz : zb ((¬ nI o = nI j ∧ mu 54 o = mu 54 j) ∧ (mu 53 o = 2 ∨ mu 53 o = 5)) = 1 := zb_t ⟨⟨h128, h158⟩, h142⟩
               rw [hz] at e; exact e)
        · rw [zb_n] at h142
          refine zk_aload_n (pc := 145) 0 dX8_mark_145 rfl rfl ?_
          refine zk_getR (pc := 146) dX8_mark_146 flX8_35 rfl rfl ?_
          refine zk_iload (pc := 149) dX8_mark_149 rfl ?_
          refine zk_iaload (pc := 151) o dX8_mark_151 rfl rfl (by omega) ?_
          refine zk_aload_n (pc := 152) 0 dX8_mark_152 rfl rfl ?_
          refine zk_getR (pc := 153) dX8_mark_153 flX8_35 rfl rfl ?_
          refine zk_iload_n (pc := 156) 1 dX8_mark_156 rfl rfl ?_
          refine zk_iaload (pc := 157) j dX8_mark_157 rfl rfl (by omega) ?_
          refine zk_icmp_ne (pc := 158) 165 dX8_mark_158 (by decide) (fun h158 => ?_) (fun h158 => ?_)
          · skip
            refine zk_iconst (pc := 165) (v := 0) dX8_mark_165 (by decide) ?_
            refine zk_iadd (pc := 166) dX8_mark_166 ?_
            refine zs_istore_n (pc := 167) (ls' := [_, _, _, _, _]) 3 dX8_mark_167 rfl (by decide) rfl ?_
            refine zs_iinc (pc := 168) (ls' := [_, _, _, _, _]) dX8_mark_168 rfl (nI_1 o) (by decide) rfl ?_
            refine zk_goto (pc := 171) 115 dX8_mark_171 (by decide) ?_
            have e := ih (by omega)
            rw [zsum_s] at e
            first
              | (have hz : zb ((¬ nI o = nI j ∧ mu 54 o = mu 54 j) ∧ (mu 53 o = 2 ∨ mu 53 o = 5)) = 0 := zb_f (fun z => z.1.1 h128)
                 rw [hz] at e; exact e)
              | (have hz : zb ((¬ nI o = nI j ∧ mu 54 o = mu 54 j) ∧ (mu 53 o = 2 ∨ mu 53 o = 5)) = 0 := zb_f (fun z => h142 z.2)
                 rw [hz] at e; exact e)
              | (have hz : zb ((¬ nI o = nI j ∧ mu 54 o = mu 54 j) ∧ (mu 53 o = 2 ∨ mu 53 o = 5)) = 0 := zb_f (fun z => h158 z.1.2)
                 rw [hz] at e; exact e)
              | (have hz : zb ((¬ nI o = nI j ∧ mu 54 o = mu 54 j) ∧ (mu 53 o = 2 ∨ mu 53 o = 5)) = 1 := zb_t ⟨⟨h128, h158⟩, h142⟩
                 rw [hz] at e; exact e)
          · skip
            refine zk_iconst (pc := 161) (v := 1) dX8_mark_161 (by decide) ?_
            refine zk_goto (pc := 162) 166 dX8_mark_162 (by decide) ?_
            refine zk_iadd (pc := 166) dX8_mark_166 ?_
            refine zs_istore_n (pc := 167) (ls' := [_, _, _, _, _]) 3 dX8_mark_167 rfl (by decide) rfl ?_
            refine zs_iinc (pc := 168) (ls' := [_, _, _, _, _]) dX8_mark_168 rfl (nI_1 o) (by decide) rfl ?_
            refine zk_goto (pc := 171) 115 dX8_mark_171 (by decide) ?_
            have e := ih (by omega)
            rw [zsum_s] at e
            first
              | (have hz : zb ((¬ nI o = nI j ∧ mu 54 o = mu 54 j) ∧ (mu 53 o = 2 ∨ mu 53 o = 5)) = 0 := zb_f (fun z => z.1.1 h128)
                 rw [hz] at e; exact e)
              | (have hz : zb ((¬ nI o = nI j ∧ mu 54 o = mu 54 j) ∧ (mu 53 o = 2 ∨ mu 53 o = 5)) = 0 := zb_f (fun z => h142 z.2)
                 rw [hz] at e; exact e)
              | (have hz : zb ((¬ nI o = nI j ∧ mu 54 o = mu 54 j) ∧ (mu 53 o = 2 ∨ mu 53 o = 5)) = 0 := zb_f (fun z => h158 z.1.2)
                 rw [hz] at e; exact e)
              | (have hz : zb ((¬ nI o = nI j ∧ mu 54 o = mu 54 j) ∧ (mu 53 o = 2 ∨ mu 53 o = 5)) = 1 := zb_t ⟨⟨h128, h158⟩, h142⟩
                 rw [hz] at e; exact e)
  have l3 : ∀ o, o ≤ M → zk_M (d + 2) RX8 cX8_mark 5 (some .int) none 179 [.ref 46, .int (nI j), .int 3, .int (zsum o (fun k => zb (¬ nI k = nI j ∧ 5 - kSay (mu 53 k) 5 = 0))), .int (nI o)] [] mu lm (zk_R (some (.int (zsum M (fun k => zb (¬ nI k = nI j ∧ 5 - kSay (mu 53 k) 5 = 0))))) mu lm) := by
    refine zk_ind M (fun o ho ih => ?_)
    refine zk_iload (pc := 179) dX8_mark_179 rfl ?_
    refine zk_aload_n (pc := 181) 0 dX8_mark_181 rfl rfl ?_
    refine zk_getI (pc := 182) dX8_mark_182 flX8_63 rfl rfl ?_
    refine zk_icmp_ge (pc := 185) 218 dX8_mark_185 (by decide) (fun h185 => ?_) (fun h185 => ?_)
    · rw [hM, nIle (by omega) (by omega)] at h185
      refine zk_iload_n (pc := 218) 3 dX8_mark_218 rfl rfl ?_
      refine zk_ireturn (pc := 219) dX8_mark_219 (Or.inl rfl) (zk_ri ?_)
      rw [show o = M by omega]
    · rw [hM, nIle (by omega) (by omega)] at h185
      refine zk_iload_n (pc := 188) 3 dX8_mark_188 rfl rfl ?_
      refine zk_iload (pc := 189) dX8_mark_189 rfl ?_
      refine zk_iload_n (pc := 191) 1 dX8_mark_191 rfl rfl ?_
      refine zk_icmp_eq (pc := 192) 209 dX8_mark_192 (by decide) (fun h192 => ?_) (fun h192 => ?_)
      · skip
        refine zk_iconst (pc := 209) (v := 0) dX8_mark_209 (by decide) ?_
        refine zk_iadd (pc := 210) dX8_mark_210 ?_
        refine zs_istore_n (pc := 211) (ls' := [_, _, _, _, _]) 3 dX8_mark_211 rfl (by decide) rfl ?_
        refine zs_iinc (pc := 212) (ls' := [_, _, _, _, _]) dX8_mark_212 rfl (nI_1 o) (by decide) rfl ?_
        refine zk_goto (pc := 215) 179 dX8_mark_215 (by decide) ?_
        have e := ih (by omega)
        rw [zsum_s] at e
        first
          | (have hz : zb (¬ nI o = nI j ∧ 5 - kSay (mu 53 o) 5 = 0) = 0 := zb_f (fun z => z.1 h192)
             rw [hz] at e; exact e)
          | (have hz : zb (¬ nI o = nI j ∧ 5 - kSay (mu 53 o) 5 = 0) = 0 := zb_f (fun z => h202 z.2)
             rw [hz] at e; exact e)
          | (have hz : zb (¬ nI o = nI j ∧ 5 - kSay (mu 53 o) 5 = 0) = 1 := zb_t ⟨h192, h202⟩
             rw [hz] at e; exact e)
      · skip
        refine zk_aload_n (pc := 195) 0 dX8_mark_195 rfl rfl ?_
        refine zk_iload (pc := 196) dX8_mark_196 rfl ?_
        refine zk_iconst (pc := 198) (v := 5) dX8_mark_198 (by decide) ?_
        refine zk_callVI (pc := 199) dX8_mark_199 mtX8_breath lkX8_153 stX8_breath (by rfl) (by rfl) [_, _] _ rfl rfl (Nat.le_of_ble_eq_true rfl) (Nat.le_of_ble_eq_true rfl) (sp_X8_breath (by omega) _) ?_
        refine zk_if_ne (pc := 202) 209 dX8_mark_202 (by decide) (fun h202 => ?_) (fun h202 => ?_)
        · skip
          refine zk_iconst (pc := 209) (v := 0) dX8_mark_209 (by decide) ?_
          refine zk_iadd (pc := 210) dX8_mark_210 ?_
          refine zs_istore_n (pc := 211) (ls' := [_, _, _, _, _]) 3 dX8_mark_211 rfl (by decide) rfl ?_
          refine zs_iinc (pc := 212) (ls' := [_, _, _, _, _]) dX8_mark_212 rfl (nI_1 o) (by decide) rfl ?_
          refine zk_goto (pc := 215) 179 dX8_mark_215 (by decide) ?_
          have e := ih (by omega)
          rw [zsum_s] at e
          first
            | (have hz : zb (¬ nI o = nI j ∧ 5 - kSay (mu 53 o) 5 = 0) = 0 := zb_f (fun z => z.1 h192)
               rw [hz] at e; exact e)
            | (have hz : zb (¬ nI o = nI j ∧ 5 - kSay (mu 53 o) 5 = 0) = 0 := zb_f (fun z => h202 z.2)
               rw [hz] at e; exact e)
            | (have hz : zb (¬ nI o = nI j ∧ 5 - kSay (mu 53 o) 5 = 0) = 1 := zb_t ⟨h192, h202⟩
               rw [hz] at e; exact e)
        · skip
          refine zk_iconst (pc := 205) (v := 1) dX8_mark_205 (by decide) ?_
          refine zk_goto (pc := 206) 210 dX8_mark_206 (by decide) ?_
          refine zk_iadd (pc := 210) dX8_mark_210 ?_
          refine zs_istore_n (pc := 211) (ls' := [_, _, _, _, _]) 3 dX8_mark_211 rfl (by decide) rfl ?_
          refine zs_iinc (pc := 212) (ls' := [_, _, _, _, _]) dX8_mark_212 rfl (nI_1 o) (by decide) rfl ?_
          refine zk_goto (pc := 215) 179 dX8_mark_215 (by decide) ?_
          have e := ih (by omega)
          rw [zsum_s] at e
          first
            | (have hz : zb (¬ nI o = nI j ∧ 5 - kSay (mu 53 o) 5 = 0) = 0 := zb_f (fun z => z.1 h192)
               rw [hz] at e; exact e)
            | (have hz : zb (¬ nI o = nI j ∧ 5 - kSay (mu 53 o) 5 = 0) = 0 := zb_f (fun z => h202 z.2)
               rw [hz] at e; exact e)
            | (have hz : zb (¬ nI o = nI j ∧ 5 - kSay (mu 53 o) 5 = 0) = 1 := zb_t ⟨h192, h202⟩
               rw [hz] at e; exact e)
  have l4 : ∀ o, o ≤ 100 → zk_M (d + 2) RX8 cX8_mark 5 (some .int) none 223 [.ref 46, .int (nI j), .int 4, .int (zsum o (fun v => zb (kSay (mu 53 j) (nI v) = 0))), .int (nI o)] [] mu lm (zk_R (some (.int (zsum 100 (fun v => zb (kSay (mu 53 j) (nI v) = 0))))) mu lm) := by
    refine zk_ind 100 (fun o ho ih => ?_)
    refine zk_iload (pc := 223) dX8_mark_223 rfl ?_
    refine zk_bipush (pc := 225) (v := 100) dX8_mark_225 (by decide) ?_
    refine zk_icmp_ge (pc := 227) 278 dX8_mark_227 (by decide) (fun h227 => ?_) (fun h227 => ?_)
    · rw [show (100 : Int32) = nI 100 from rfl, nIle (by omega) (by omega)] at h227
      refine zk_iload_n (pc := 278) 3 dX8_mark_278 rfl rfl ?_
      refine zk_ireturn (pc := 279) dX8_mark_279 (Or.inl rfl) (zk_ri ?_)
      rw [show o = 100 by omega]
    · rw [show (100 : Int32) = nI 100 from rfl, nIle (by omega) (by omega)] at h227
      refine zk_iload_n (pc := 230) 3 dX8_mark_230 rfl rfl ?_
      refine zk_aload_n (pc := 231) 0 dX8_mark_231 rfl rfl ?_
      refine zk_getR (pc := 232) dX8_mark_232 flX8_32 rfl rfl ?_
      refine zk_iload_n (pc := 235) 1 dX8_mark_235 rfl rfl ?_
      refine zk_iaload (pc := 236) j dX8_mark_236 rfl rfl (by omega) ?_
      refine zk_iload (pc := 237) dX8_mark_237 rfl ?_
      refine zk_callSI (pc := 239) dX8_mark_239 mtX8_saysBy lkX8_140 stX8_saysBy [_, _] _ rfl rfl (Nat.le_of_ble_eq_true rfl) (Nat.le_of_ble_eq_true rfl) (sp_X8_saysBy _ _) ?_
      refine zk_iload_n (pc := 242) 2 dX8_mark_242 rfl rfl ?_
      refine zk_iconst (pc := 243) (v := 4) dX8_mark_243 (by decide) ?_
      refine zk_icmp_ne (pc := 244) 251 dX8_mark_244 (by decide) (fun h244 => ?_) (fun h244 => ?_)
      · exact absurd rfl h244 --
      · skip
        refine zk_iconst (pc := 247) (v := 0) dX8_mark_247 (by decide) ?_
        refine zk_goto (pc := 248) 262 dX8_mark_248 (by decide) ?_
        refine zk_icmp_ne (pc := 262) 269 dX8_mark_262 (by decide) (fun h262 => ?_) (fun h262 => ?_)
        · skip
          refine zk_iconst (pc := 269) (v := 0) dX8_mark_269 (by decide) ?_
          refine zk_iadd (pc := 270) dX8_mark_270 ?_
          refine zs_istore_n (pc := 271) (ls' := [_, _, _, _, _]) 3 dX8_mark_271 rfl (by decide) rfl ?_
          refine zs_iinc (pc := 272) (ls' := [_, _, _, _, _]) dX8_mark_272 rfl (nI_1 o) (by decide) rfl ?_
          refine zk_goto (pc := 275) 223 dX8_mark_275 (by decide) ?_
          have e := ih (by omega)
          rw [zsum_s] at e
          first
            | (have hz : zb (kSay (mu 53 j) (nI o) = 0) = 0 := zb_f h262
               rw [hz] at e; exact e)
            | (have hz : zb (kSay (mu 53 j) (nI o) = 0) = 1 := zb_t h262
               rw [hz] at e; exact e)
        · skip
          refine zk_iconst (pc := 265) (v := 1) dX8_mark_265 (by decide) ?_
          refine zk_goto (pc := 266) 270 dX8_mark_266 (by decide) ?_
          refine zk_iadd (pc := 270) dX8_mark_270 ?_
          refine zs_istore_n (pc := 271) (ls' := [_, _, _, _, _]) 3 dX8_mark_271 rfl (by decide) rfl ?_
          refine zs_iinc (pc := 272) (ls' := [_, _, _, _, _]) dX8_mark_272 rfl (nI_1 o) (by decide) rfl ?_
          refine zk_goto (pc := 275) 223 dX8_mark_275 (by decide) ?_
          have e := ih (by omega)
          rw [zsum_s] at e
          first
            | (have hz : zb (kSay (mu 53 j) (nI o) = 0) = 0 := zb_f h262
               rw [hz] at e; exact e)
            | (have hz : zb (kSay (mu 53 j) (nI o) = 0) = 1 := zb_t h262
               rw [hz] at e; exact e)
  have l5 : ∀ o, o ≤ 100 → zk_M (d + 2) RX8 cX8_mark 5 (some .int) none 223 [.ref 46, .int (nI j), .int 5, .int (zsum o (fun v => zb (kSay (mu 53 j) (nI v) = kSay (mu 53 j) 7))), .int (nI o)] [] mu lm (zk_R (some (.int (zsum 100 (fun v => zb (kSay (mu 53 j) (nI v) = kSay (mu 53 j) 7))))) mu lm) := by
    refine zk_ind 100 (fun o ho ih => ?_)
    refine zk_iload (pc := 223) dX8_mark_223 rfl ?_
    refine zk_bipush (pc := 225) (v := 100) dX8_mark_225 (by decide) ?_
    refine zk_icmp_ge (pc := 227) 278 dX8_mark_227 (by decide) (fun h227 => ?_) (fun h227 => ?_)
    · rw [show (100 : Int32) = nI 100 from rfl, nIle (by omega) (by omega)] at h227
      refine zk_iload_n (pc := 278) 3 dX8_mark_278 rfl rfl ?_
      refine zk_ireturn (pc := 279) dX8_mark_279 (Or.inl rfl) (zk_ri ?_)
      rw [show o = 100 by omega]
    · rw [show (100 : Int32) = nI 100 from rfl, nIle (by omega) (by omega)] at h227
      refine zk_iload_n (pc := 230) 3 dX8_mark_230 rfl rfl ?_
      refine zk_aload_n (pc := 231) 0 dX8_mark_231 rfl rfl ?_
      refine zk_getR (pc := 232) dX8_mark_232 flX8_32 rfl rfl ?_
      refine zk_iload_n (pc := 235) 1 dX8_mark_235 rfl rfl ?_
      refine zk_iaload (pc := 236) j dX8_mark_236 rfl rfl (by omega) ?_
      refine zk_iload (pc := 237) dX8_mark_237 rfl ?_
      refine zk_callSI (pc := 239) dX8_mark_239 mtX8_saysBy lkX8_140 stX8_saysBy [_, _] _ rfl rfl (Nat.le_of_ble_eq_true rfl) (Nat.le_of_ble_eq_true rfl) (sp_X8_saysBy _ _) ?_
      refine zk_iload_n (pc := 242) 2 dX8_mark_242 rfl rfl ?_
      refine zk_iconst (pc := 243) (v := 4) dX8_mark_243 (by decide) ?_
      refine zk_icmp_ne (pc := 244) 251 dX8_mark_244 (by decide) (fun h244 => ?_) (fun h244 => ?_)
      · skip
        refine zk_aload_n (pc := 251) 0 dX8_mark_251 rfl rfl ?_
        refine zk_getR (pc := 252) dX8_mark_252 flX8_32 rfl rfl ?_
        refine zk_iload_n (pc := 255) 1 dX8_mark_255 rfl rfl ?_
        refine zk_iaload (pc := 256) j dX8_mark_256 rfl rfl (by omega) ?_
        refine zk_bipush (pc := 257) (v := 7) dX8_mark_257 (by decide) ?_
        refine zk_callSI (pc := 259) dX8_mark_259 mtX8_saysBy lkX8_140 stX8_saysBy [_, _] _ rfl rfl (Nat.le_of_ble_eq_true rfl) (Nat.le_of_ble_eq_true rfl) (sp_X8_saysBy _ _) ?_
        refine zk_icmp_ne (pc := 262) 269 dX8_mark_262 (by decide) (fun h262 => ?_) (fun h262 => ?_)
        · skip
          refine zk_iconst (pc := 269) (v := 0) dX8_mark_269 (by decide) ?_
          refine zk_iadd (pc := 270) dX8_mark_270 ?_
          refine zs_istore_n (pc := 271) (ls' := [_, _, _, _, _]) 3 dX8_mark_271 rfl (by decide) rfl ?_
          refine zs_iinc (pc := 272) (ls' := [_, _, _, _, _]) dX8_mark_272 rfl (nI_1 o) (by decide) rfl ?_
          refine zk_goto (pc := 275) 223 dX8_mark_275 (by decide) ?_
          have e := ih (by omega)
          rw [zsum_s] at e
          first
            | (have hz : zb (kSay (mu 53 j) (nI o) = kSay (mu 53 j) 7) = 0 := zb_f h262
               rw [hz] at e; exact e)
            | (have hz : zb (kSay (mu 53 j) (nI o) = kSay (mu 53 j) 7) = 1 := zb_t h262
               rw [hz] at e; exact e)
        · skip
          refine zk_iconst (pc := 265) (v := 1) dX8_mark_265 (by decide) ?_
          refine zk_goto (pc := 266) 270 dX8_mark_266 (by decide) ?_
          refine zk_iadd (pc := 270) dX8_mark_270 ?_
          refine zs_istore_n (pc := 271) (ls' := [_, _, _, _, _]) 3 dX8_mark_271 rfl (by decide) rfl ?_
          refine zs_iinc (pc := 272) (ls' := [_, _, _, _, _]) dX8_mark_272 rfl (nI_1 o) (by decide) rfl ?_
          refine zk_goto (pc := 275) 223 dX8_mark_275 (by decide) ?_
          have e := ih (by omega)
          rw [zsum_s] at e
          first
            | (have hz : zb (kSay (mu 53 j) (nI o) = kSay (mu 53 j) 7) = 0 := zb_f h262
               rw [hz] at e; exact e)
            | (have hz : zb (kSay (mu 53 j) (nI o) = kSay (mu 53 j) 7) = 1 := zb_t h262
               rw [hz] at e; exact e)
      · exact absurd h244 (by decide) --
  refine zk_aload_n (pc := 0) 0 dX8_mark_0 rfl rfl ?_
  refine zk_iload_n (pc := 1) 1 dX8_mark_1 rfl rfl ?_
  refine zk_callVI (pc := 2) dX8_mark_2 mtX8_isOne lkX8_133 stX8_isOne (by rfl) (by rfl) [_] _ rfl rfl (Nat.le_of_ble_eq_true rfl) (Nat.le_of_ble_eq_true rfl) (sp_X8_isOne hM (by omega) _) ?_
  refine zk_if_eq (pc := 5) 17 dX8_mark_5 (by decide) (fun h5 => ?_) (fun h5 => ?_)
  · rw [zb_e] at h5
    exact absurd hm h5 --
  · skip
    refine zk_iload_n (pc := 8) 2 dX8_mark_8 rfl rfl ?_
    refine zk_iconst (pc := 9) (v := 1) dX8_mark_9 (by decide) ?_
    refine zk_iconst (pc := 10) (v := 5) dX8_mark_10 (by decide) ?_
    refine zk_callSI (pc := 11) dX8_mark_11 mtX8_in lkX8_66 stX8_in [_, _, _] _ rfl rfl (Nat.le_of_ble_eq_true rfl) (Nat.le_of_ble_eq_true rfl) (sp_X8_in _ _ _) ?_
    refine zk_if_ne (pc := 14) 19 dX8_mark_14 (by decide) (fun h14 => ?_) (fun h14 => ?_)
    · skip
      refine zk_aload_n (pc := 19) 0 dX8_mark_19 rfl rfl ?_
      refine zk_getR (pc := 20) dX8_mark_20 flX8_32 rfl rfl ?_
      refine zk_iload_n (pc := 23) 1 dX8_mark_23 rfl rfl ?_
      refine zk_iaload (pc := 24) j dX8_mark_24 rfl rfl (by omega) ?_
      refine zk_iload_n (pc := 25) 2 dX8_mark_25 rfl rfl ?_
      refine zk_callSI (pc := 26) dX8_mark_26 mtX8_is lkX8_143 stX8_is [_, _] _ rfl rfl (Nat.le_of_ble_eq_true rfl) (Nat.le_of_ble_eq_true rfl) (sp_X8_is _ _) ?_
      refine zk_if_ne (pc := 29) 38 dX8_mark_29 (by decide) (fun h29 => ?_) (fun h29 => ?_)
      · skip
        refine zk_iconst (pc := 38) (v := 0) dX8_mark_38 (by decide) ?_
        refine zs_istore_n (pc := 39) (ls' := [_, _, _, _, _]) 3 dX8_mark_39 rfl (by decide) rfl ?_
        refine zk_iload_n (pc := 40) 2 dX8_mark_40 rfl rfl ?_
        match t, ht, ht5 with
        | 1, _, _ =>
          refine zk_tabIn (pc := 41) 68 dX8_mark_41 (by decide) (by decide) (by rfl) (by decide) ?_
          refine zk_aload_n (pc := 68) 0 dX8_mark_68 rfl rfl ?_
          refine zk_getR (pc := 69) dX8_mark_69 flX8_38 rfl rfl ?_
          refine zk_aload_n (pc := 72) 0 dX8_mark_72 rfl rfl ?_
          refine zk_getR (pc := 73) dX8_mark_73 flX8_35 rfl rfl ?_
          refine zk_iload_n (pc := 76) 1 dX8_mark_76 rfl rfl ?_
          refine zk_iaload (pc := 77) j dX8_mark_77 rfl rfl (by omega) ?_
          refine zk_iaload (pc := 78) q dX8_mark_78 rfl hsq (by omega) ?_
          refine zk_aload_n (pc := 79) 0 dX8_mark_79 rfl rfl ?_
          refine zk_getR (pc := 80) dX8_mark_80 flX8_38 rfl rfl ?_
          refine zk_aload_n (pc := 83) 0 dX8_mark_83 rfl rfl ?_
          refine zk_aload_n (pc := 84) 0 dX8_mark_84 rfl rfl ?_
          refine zk_getR (pc := 85) dX8_mark_85 flX8_35 rfl rfl ?_
          refine zk_iload_n (pc := 88) 1 dX8_mark_88 rfl rfl ?_
          refine zk_iaload (pc := 89) j dX8_mark_89 rfl rfl (by omega) ?_
          rw [hsq]
          refine zk_callVI (pc := 90) dX8_mark_90 mtX8_behind lkX8_147 stX8_behind (by rfl) (by rfl) [_] _ rfl rfl (Nat.le_of_ble_eq_true rfl) (Nat.le_of_ble_eq_true rfl) (sp_X8_behind hC hC8 hq) ?_
          refine zk_iaload (pc := 93) _ dX8_mark_93 rfl rfl (by rw [← hb2]; omega) ?_
          refine zk_iadd (pc := 94) dX8_mark_94 ?_
          refine zk_aload_n (pc := 95) 0 dX8_mark_95 rfl rfl ?_
          refine zk_getR (pc := 96) dX8_mark_96 flX8_38 rfl rfl ?_
          refine zk_aload_n (pc := 99) 0 dX8_mark_99 rfl rfl ?_
          refine zk_aload_n (pc := 100) 0 dX8_mark_100 rfl rfl ?_
          refine zk_getR (pc := 101) dX8_mark_101 flX8_35 rfl rfl ?_
          refine zk_iload_n (pc := 104) 1 dX8_mark_104 rfl rfl ?_
          refine zk_iaload (pc := 105) j dX8_mark_105 rfl rfl (by omega) ?_
          try rw [hsq]
          refine zk_callVI (pc := 106) dX8_mark_106 mtX8_ahead lkX8_150 stX8_ahead (by rfl) (by rfl) [_] _ rfl rfl (Nat.le_of_ble_eq_true rfl) (Nat.le_of_ble_eq_true rfl) (sp_X8_ahead hC hC8 hq) ?_
          refine zk_iaload (pc := 109) _ dX8_mark_109 rfl rfl (by rw [← ha2]; omega) ?_
          refine zk_iadd (pc := 110) dX8_mark_110 ?_
          refine zk_ireturn (pc := 111) dX8_mark_111 (Or.inl rfl) (zk_ri ?_)
          unfold mMk mkV
          rw [if_pos (by decide), hsq, hbe, hae, nI_clamp (by omega), nI_clamp (by omega), nI_clamp (by omega), hb2, ha2]
        | 2, _, _ =>
          refine zk_tabIn (pc := 41) 112 dX8_mark_41 (by decide) (by decide) (by rfl) (by decide) ?_
          refine zk_iconst (pc := 112) (v := 0) dX8_mark_112 (by decide) ?_
          refine zs_istore (pc := 113) (ls' := [_, _, _, _, _]) 4 dX8_mark_113 (by decide) rfl ?_
          exact l2 0 (Nat.zero_le _)
        | 3, _, _ =>
          refine zk_tabIn (pc := 41) 176 dX8_mark_41 (by decide) (by decide) (by rfl) (by decide) ?_
          refine zk_iconst (pc := 176) (v := 0) dX8_mark_176 (by decide) ?_
          refine zs_istore (pc := 177) (ls' := [_, _, _, _, _]) 4 dX8_mark_177 (by decide) rfl ?_
          exact l3 0 (Nat.zero_le _)
        | 4, _, _ =>
          refine zk_tabOut (pc := 41) 220 dX8_mark_41 (by decide) (by decide) ?_
          refine zk_iconst (pc := 220) (v := 0) dX8_mark_220 (by decide) ?_
          refine zs_istore (pc := 221) (ls' := [_, _, _, _, _]) 4 dX8_mark_221 (by decide) rfl ?_
          exact l4 0 (Nat.zero_le _)
        | 5, _, _ =>
          refine zk_tabOut (pc := 41) 220 dX8_mark_41 (by decide) (by decide) ?_
          refine zk_iconst (pc := 220) (v := 0) dX8_mark_220 (by decide) ?_
          refine zs_istore (pc := 221) (ls' := [_, _, _, _, _]) 4 dX8_mark_221 (by decide) rfl ?_
          exact l5 0 (Nat.zero_le _)
      · rw [zb_e] at h29
        exact absurd ((kIs_iff _ _).mpr hk) h29 --
    · rw [zb_e] at h14
      exact absurd hw h14 --
theorem sp_X8_mark_n {C M : Nat} (hC : mu 46 17 = nI C) (hC8 : C ≤ 8) (hM : mu 46 18 = nI M) (hM6 : M ≤ 6) (i w : Int32) (hb : ¬ ((0 ≤ i ∧ i < mu 46 18) ∧ (1 ≤ w ∧ w ≤ 5))) : zk_M (d + 2) RX8 cX8_mark 5 (some .int) none 0 (zk_loc [.ref 46, .int i, .int w] 5) [] mu lm (zk_R (some (.int (-1))) mu lm) := by
  refine zk_aload_n (pc := 0) 0 dX8_mark_0 rfl rfl ?_
  refine zk_iload_n (pc := 1) 1 dX8_mark_1 rfl rfl ?_
  refine zk_callVI (pc := 2) dX8_mark_2 mtX8_isOne lkX8_133 stX8_isOne (by rfl) (by rfl) [_] _ rfl rfl (Nat.le_of_ble_eq_true rfl) (Nat.le_of_ble_eq_true rfl) (sp_X8_isOne hM (by omega) _) ?_
  refine zk_if_eq (pc := 5) 17 dX8_mark_5 (by decide) (fun h5 => ?_) (fun h5 => ?_)
  · rw [zb_e] at h5
    refine zk_iconst (pc := 17) (v := -1) dX8_mark_17 (by decide) ?_
    exact zk_ireturn (pc := 18) dX8_mark_18 (Or.inl rfl) (zk_ri rfl)
  · rw [zb_n] at h5
    refine zk_iload_n (pc := 8) 2 dX8_mark_8 rfl rfl ?_
    refine zk_iconst (pc := 9) (v := 1) dX8_mark_9 (by decide) ?_
    refine zk_iconst (pc := 10) (v := 5) dX8_mark_10 (by decide) ?_
    refine zk_callSI (pc := 11) dX8_mark_11 mtX8_in lkX8_66 stX8_in [_, _, _] _ rfl rfl (Nat.le_of_ble_eq_true rfl) (Nat.le_of_ble_eq_true rfl) (sp_X8_in _ _ _) ?_
    refine zk_if_ne (pc := 14) 19 dX8_mark_14 (by decide) (fun h14 => ?_) (fun h14 => ?_)
    · rw [zb_n] at h14
      exact absurd ⟨h5, h14⟩ hb --
    · rw [zb_e] at h14
      refine zk_iconst (pc := 17) (v := -1) dX8_mark_17 (by decide) ?_
      exact zk_ireturn (pc := 18) dX8_mark_18 (Or.inl rfl) (zk_ri rfl)
theorem sp_X8_mark_u {C M : Nat} (hC : mu 46 17 = nI C) (hC8 : C ≤ 8) (hM : mu 46 18 = nI M) (hM6 : M ≤ 6) {j t : Nat} (hj : j < M) (ht : 1 ≤ t) (ht5 : t ≤ 5) (hk : ¬ kIs (mu 53 j) (nI t)) : zk_M (d + 2) RX8 cX8_mark 5 (some .int) none 0 (zk_loc [.ref 46, .int (nI j), .int (nI t)] 5) [] mu lm (zk_R (some (.int (-3))) (fndD mu 3) lm) := by
  have hm : 0 ≤ nI j ∧ nI j < mu 46 18 := ⟨nI_pos' (by omega), by rw [hM, nIlt (by omega) (by omega)]; exact hj⟩
  have hw : (1 : Int32) ≤ nI t ∧ nI t ≤ 5 := ⟨show nI 1 ≤ nI t from nI_le ht (by omega), show nI t ≤ nI 5 from nI_le ht5 (by decide)⟩
  refine zk_aload_n (pc := 0) 0 dX8_mark_0 rfl rfl ?_
  refine zk_iload_n (pc := 1) 1 dX8_mark_1 rfl rfl ?_
  refine zk_callVI (pc := 2) dX8_mark_2 mtX8_isOne lkX8_133 stX8_isOne (by rfl) (by rfl) [_] _ rfl rfl (Nat.le_of_ble_eq_true rfl) (Nat.le_of_ble_eq_true rfl) (sp_X8_isOne hM (by omega) _) ?_
  refine zk_if_eq (pc := 5) 17 dX8_mark_5 (by decide) (fun h5 => ?_) (fun h5 => ?_)
  · rw [zb_e] at h5
    exact absurd hm h5 --
  · skip
    refine zk_iload_n (pc := 8) 2 dX8_mark_8 rfl rfl ?_
    refine zk_iconst (pc := 9) (v := 1) dX8_mark_9 (by decide) ?_
    refine zk_iconst (pc := 10) (v := 5) dX8_mark_10 (by decide) ?_
    refine zk_callSI (pc := 11) dX8_mark_11 mtX8_in lkX8_66 stX8_in [_, _, _] _ rfl rfl (Nat.le_of_ble_eq_true rfl) (Nat.le_of_ble_eq_true rfl) (sp_X8_in _ _ _) ?_
    refine zk_if_ne (pc := 14) 19 dX8_mark_14 (by decide) (fun h14 => ?_) (fun h14 => ?_)
    · skip
      refine zk_aload_n (pc := 19) 0 dX8_mark_19 rfl rfl ?_
      refine zk_getR (pc := 20) dX8_mark_20 flX8_32 rfl rfl ?_
      refine zk_iload_n (pc := 23) 1 dX8_mark_23 rfl rfl ?_
      refine zk_iaload (pc := 24) j dX8_mark_24 rfl rfl (by omega) ?_
      refine zk_iload_n (pc := 25) 2 dX8_mark_25 rfl rfl ?_
      refine zk_callSI (pc := 26) dX8_mark_26 mtX8_is lkX8_143 stX8_is [_, _] _ rfl rfl (Nat.le_of_ble_eq_true rfl) (Nat.le_of_ble_eq_true rfl) (sp_X8_is _ _) ?_
      refine zk_if_ne (pc := 29) 38 dX8_mark_29 (by decide) (fun h29 => ?_) (fun h29 => ?_)
      · rw [zb_n] at h29
        exact absurd ((kIs_iff _ _).mp h29) hk --
      · rw [zb_e] at h29
        refine zk_aload_n (pc := 32) 0 dX8_mark_32 rfl rfl ?_
        refine zk_iconst (pc := 33) (v := 3) dX8_mark_33 (by decide) ?_
        refine zk_callVI (pc := 34) dX8_mark_34 mtX8_finds lkX8_73 stX8_finds (by rfl) (by rfl) [_] _ rfl rfl (Nat.le_of_ble_eq_true rfl) (Nat.le_of_ble_eq_true rfl) (sp_X8_finds (f := 3) (by decide)) ?_
        exact zk_ireturn (pc := 37) dX8_mark_37 (Or.inl rfl) ⟨rfl, rfl, rfl⟩
    · rw [zb_e] at h14
      exact absurd hw h14 --
theorem ntM_c {mu : Mem} {n c : Nat} (h1 : c ≠ 57) (h2 : c ≠ 46) : ntM mu n c = mu c := by unfold ntM; funext k; rw [zup_c _ _ _ h2, zuc_c _ _ h1]
theorem ntM_k {mu : Mem} {n k : Nat} (h : k ≠ 24) : ntM mu n 46 k = mu 46 k := by unfold ntM; rw [zup_k _ _ _ h, zuc_c _ _ (by decide)]
theorem sp_X8_talk {C M : Nat} (hC : mu 46 17 = nI C) (hC8 : C ≤ 8) (hM : mu 46 18 = nI M) (hM6 : M ≤ 6) {n : Nat} (hn : mu 46 24 = nI n) (hn4 : n ≤ 40) (hA : ∀ q, q < C → 0 ≤ mu 55 q ∧ mu 55 q ≤ 999) (hL : 0 ≤ mu 46 16 ∧ mu 46 16 ≤ 9) (hC3 : 3 ≤ C) (hS : ∀ j, j < M → ∃ q, q < C ∧ mu 54 j = nI q) {j : Nat} (hj : j < M) {v : Int32} (hv : 0 ≤ v ∧ v ≤ 99) : zk_M (d + 3) RX8 cX8_talk 3 (some .int) none 0 (zk_loc [.ref 46, .int (nI j), .int v] 3) [] mu lm (zk_R (some (.int (if n < 40 then (kSay (mu 53 j) v, tkS (ntM mu n) 55 j v C) else (-2, mu)).1)) (if n < 40 then (kSay (mu 53 j) v, tkS (ntM mu n) 55 j v C) else (-2, mu)).2 lm) := by
  have hm : 0 ≤ nI j ∧ nI j < mu 46 18 := ⟨nI_pos' (by omega), by rw [hM, nIlt (by omega) (by omega)]; exact hj⟩
  obtain ⟨q, hq, hsq⟩ := hS j hj
  refine zk_aload_n (pc := 0) 0 dX8_talk_0 rfl rfl ?_
  refine zk_iload_n (pc := 1) 1 dX8_talk_1 rfl rfl ?_
  refine zk_callVI (pc := 2) dX8_talk_2 mtX8_isOne lkX8_133 stX8_isOne (by rfl) (by rfl) [_] _ rfl rfl (Nat.le_of_ble_eq_true rfl) (Nat.le_of_ble_eq_true rfl) (sp_X8_isOne hM (by omega) _) ?_
  refine zk_if_eq (pc := 5) 18 dX8_talk_5 (by decide) (fun h5 => ?_) (fun h5 => ?_)
  · rw [zb_e] at h5
    exact absurd hm h5 --
  · skip
    refine zk_iload_n (pc := 8) 2 dX8_talk_8 rfl rfl ?_
    refine zk_iconst (pc := 9) (v := 0) dX8_talk_9 (by decide) ?_
    refine zk_bipush (pc := 10) (v := 99) dX8_talk_10 (by decide) ?_
    refine zk_callSI (pc := 12) dX8_talk_12 mtX8_in lkX8_66 stX8_in [_, _, _] _ rfl rfl (Nat.le_of_ble_eq_true rfl) (Nat.le_of_ble_eq_true rfl) (sp_X8_in _ _ _) ?_
    refine zk_if_ne (pc := 15) 20 dX8_talk_15 (by decide) (fun h15 => ?_) (fun h15 => ?_)
    · skip
      refine zk_aload_n (pc := 20) 0 dX8_talk_20 rfl rfl ?_
      refine zk_getI (pc := 21) dX8_talk_21 flX8_130 rfl rfl ?_
      refine zk_bipush (pc := 24) (v := 40) dX8_talk_24 (by decide) ?_
      refine zk_icmp_ne (pc := 26) 32 dX8_talk_26 (by decide) (fun h26 => ?_) (fun h26 => ?_)
      · rw [hn, show (40 : Int32) = nI 40 from rfl, nIeq (by omega) (by omega)] at h26
        refine zk_aload_n (pc := 32) 0 dX8_talk_32 rfl rfl ?_
        refine zk_callVV (pc := 33) dX8_talk_33 mtX8_note lkX8_171 stX8_note (by rfl) (by rfl) [] _ rfl rfl (Nat.le_of_ble_eq_true rfl) (Nat.le_of_ble_eq_true rfl) (sp_X8_note hn (by omega)) ?_
        refine zk_aload_n (pc := 36) 0 dX8_talk_36 rfl rfl ?_
        refine zk_aload_n (pc := 37) 0 dX8_talk_37 rfl rfl ?_
        refine zk_getR (pc := 38) dX8_talk_38 flX8_38 rfl rfl ?_
        refine zk_iload_n (pc := 41) 1 dX8_talk_41 rfl rfl ?_
        refine zk_iload_n (pc := 42) 2 dX8_talk_42 rfl rfl ?_
        refine zk_callVV (pc := 43) dX8_talk_43 mtX8_talkIn lkX8_174 stX8_talkIn (by rfl) (by rfl) [_, _, _] _ rfl rfl (Nat.le_of_ble_eq_true rfl) (Nat.le_of_ble_eq_true rfl) (sp_X8_talkIn (s := 55) rfl (by decide) (by decide) (by decide) (by rw [ntM_k (by decide)]; exact hC) hC8 hC3 (by omega) hq (by rw [ntM_c (by decide) (by decide)]; exact hsq) (fun z hz => by rw [ntM_c (by decide) (by decide)]; exact (hA z hz).2) v) ?_
        refine zk_aload_n (pc := 46) 0 dX8_talk_46 rfl rfl ?_
        refine zk_getR (pc := 47) dX8_talk_47 flX8_32 rfl rfl ?_
        refine zk_iload_n (pc := 50) 1 dX8_talk_50 rfl rfl ?_
        refine zk_iaload (pc := 51) j dX8_talk_51 rfl rfl (by omega) ?_
        refine zk_iload_n (pc := 52) 2 dX8_talk_52 rfl rfl ?_
        refine zk_callSI (pc := 53) dX8_talk_53 mtX8_saysBy lkX8_140 stX8_saysBy [_, _] _ rfl rfl (Nat.le_of_ble_eq_true rfl) (Nat.le_of_ble_eq_true rfl) (sp_X8_saysBy _ _) ?_
        refine zk_ireturn (pc := 56) dX8_talk_56 (Or.inl rfl) (zk_pr ?_)
        rw [if_pos (by omega)]
        unfold tkS
        rw [zuc_c _ _ (show (53 : Nat) ≠ 55 by decide), ntM_c (c := 53) (by decide) (by decide)]
      · rw [hn, show (40 : Int32) = nI 40 from rfl, nIeq (by omega) (by omega)] at h26
        refine zk_bipush (pc := 29) (v := -2) dX8_talk_29 (by decide) ?_
        refine zk_ireturn (pc := 31) dX8_talk_31 (Or.inl rfl) (zk_pr ?_)
        first | (rw [if_neg (by omega)]; done) | (rw [if_pos (by omega)])
    · rw [zb_e] at h15
      exact absurd hv h15 --
theorem sp_X8_hour {C M : Nat} (hC : mu 46 17 = nI C) (hC8 : C ≤ 8) (hM : mu 46 18 = nI M) (hM6 : M ≤ 6) {n : Nat} (hn : mu 46 24 = nI n) (hn4 : n ≤ 40) (hA : ∀ q, q < C → 0 ≤ mu 55 q ∧ mu 55 q ≤ 999) (hL : 0 ≤ mu 46 16 ∧ mu 46 16 ≤ 9) : zk_M (d + 2) RX8 cX8_hour 1 (some .int) none 0 (zk_loc [.ref 46] 1) [] mu lm (zk_R (some (.int (if M = 0 then (-4, mu) else if n < 40 then (zsum C (fun q => mu 55 q - hrV (mu 55 q) (mu 46 16)), hrS (ntM mu n) 55 C) else (-2, mu)).1)) (if M = 0 then (-4, mu) else if n < 40 then (zsum C (fun q => mu 55 q - hrV (mu 55 q) (mu 46 16)), hrS (ntM mu n) 55 C) else (-2, mu)).2 lm) := by
  refine zk_aload_n (pc := 0) 0 dX8_hour_0 rfl rfl ?_
  refine zk_getI (pc := 1) dX8_hour_1 flX8_63 rfl rfl ?_
  refine zk_if_ne (pc := 4) 10 dX8_hour_4 (by decide) (fun h4 => ?_) (fun h4 => ?_)
  · rw [hM] at h4
    have hM0 : ¬ M = 0 := fun q => h4 (by rw [q]; rfl)
    rw [if_neg hM0]
    refine zk_aload_n (pc := 10) 0 dX8_hour_10 rfl rfl ?_
    refine zk_getI (pc := 11) dX8_hour_11 flX8_130 rfl rfl ?_
    refine zk_bipush (pc := 14) (v := 40) dX8_hour_14 (by decide) ?_
    refine zk_icmp_ne (pc := 16) 22 dX8_hour_16 (by decide) (fun h16 => ?_) (fun h16 => ?_)
    · rw [hn, show (40 : Int32) = nI 40 from rfl, nIeq (by omega) (by omega)] at h16
      refine zk_aload_n (pc := 22) 0 dX8_hour_22 rfl rfl ?_
      refine zk_callVV (pc := 23) dX8_hour_23 mtX8_note lkX8_171 stX8_note (by rfl) (by rfl) [] _ rfl rfl (Nat.le_of_ble_eq_true rfl) (Nat.le_of_ble_eq_true rfl) (sp_X8_note hn (by omega)) ?_
      refine zk_aload_n (pc := 26) 0 dX8_hour_26 rfl rfl ?_
      refine zk_aload_n (pc := 27) 0 dX8_hour_27 rfl rfl ?_
      refine zk_getR (pc := 28) dX8_hour_28 flX8_38 rfl rfl ?_
      refine zk_callVI (pc := 31) dX8_hour_31 mtX8_hourIn lkX8_177 stX8_hourIn (by rfl) (by rfl) [_] _ rfl rfl (Nat.le_of_ble_eq_true rfl) (Nat.le_of_ble_eq_true rfl) (sp_X8_hourIn (s := 55) rfl (by decide) (by decide) (by decide) (by rw [ntM_k (by decide)]; exact hC) hC8 (by rw [ntM_k (by decide)]; exact hL.1) (by rw [ntM_k (by decide)]; exact hL.2) (fun z hz => by rw [ntM_c (by decide) (by decide)]; exact hA z hz)) ?_
      refine zk_ireturn (pc := 34) dX8_hour_34 (Or.inl rfl) (zk_pr ?_)
      rw [if_pos (by omega), ntM_c (c := 55) (by decide) (by decide), ntM_k (k := 16) (by decide)]
    · rw [hn, show (40 : Int32) = nI 40 from rfl, nIeq (by omega) (by omega)] at h16
      refine zk_bipush (pc := 19) (v := -2) dX8_hour_19 (by decide) ?_
      refine zk_ireturn (pc := 21) dX8_hour_21 (Or.inl rfl) (zk_pr ?_)
      first | (rw [if_neg (by omega)]; done) | (rw [if_pos (by omega)])
  · rw [hM, show (0 : Int32) = nI 0 from rfl, nIeq (by omega) (by omega)] at h4
    rw [if_pos h4]
    refine zk_bipush (pc := 7) (v := -4) dX8_hour_7 (by decide) ?_
    exact zk_ireturn (pc := 9) dX8_hour_9 (Or.inl rfl) (zk_pr rfl)
theorem sp_X8_open {C M : Nat} (hC : mu 46 17 = nI C) (hC8 : C ≤ 8) (hM : mu 46 18 = nI M) (hM6 : M ≤ 6) {n : Nat} (hn : mu 46 24 = nI n) (hn4 : n ≤ 40) (hA : ∀ q, q < C → 0 ≤ mu 55 q ∧ mu 55 q ≤ 999) (hL : 0 ≤ mu 46 16 ∧ mu 46 16 ≤ 9) {c : Nat} (hc : c < C) : zk_M (d + 2) RX8 cX8_open 3 (some .int) none 0 (zk_loc [.ref 46, .int (nI c)] 3) [] mu lm (zk_R (some (.int (if mu 55 c = 0 then (-4, mu) else if n < 40 then (mu 55 c, zk_up (ntM mu n) 55 c 0) else (-2, mu)).1)) (if mu 55 c = 0 then (-4, mu) else if n < 40 then (mu 55 c, zk_up (ntM mu n) 55 c 0) else (-2, mu)).2 lm) := by
  have hm : 0 ≤ nI c ∧ nI c < mu 46 17 := ⟨nI_pos' (by omega), by rw [hC, nIlt (by omega) (by omega)]; exact hc⟩
  refine zk_aload_n (pc := 0) 0 dX8_open_0 rfl rfl ?_
  refine zk_iload_n (pc := 1) 1 dX8_open_1 rfl rfl ?_
  refine zk_callVI (pc := 2) dX8_open_2 mtX8_isCell lkX8_156 stX8_isCell (by rfl) (by rfl) [_] _ rfl rfl (Nat.le_of_ble_eq_true rfl) (Nat.le_of_ble_eq_true rfl) (sp_X8_isCell hC hC8 _) ?_
  refine zk_if_ne (pc := 5) 10 dX8_open_5 (by decide) (fun h5 => ?_) (fun h5 => ?_)
  · skip
    refine zk_aload_n (pc := 10) 0 dX8_open_10 rfl rfl ?_
    refine zk_getR (pc := 11) dX8_open_11 flX8_38 rfl rfl ?_
    refine zk_iload_n (pc := 14) 1 dX8_open_14 rfl rfl ?_
    refine zk_iaload (pc := 15) c dX8_open_15 rfl rfl (by omega) ?_
    refine zk_if_ne (pc := 16) 22 dX8_open_16 (by decide) (fun h16 => ?_) (fun h16 => ?_)
    · rw [if_neg h16]
      refine zk_aload_n (pc := 22) 0 dX8_open_22 rfl rfl ?_
      refine zk_getI (pc := 23) dX8_open_23 flX8_130 rfl rfl ?_
      refine zk_bipush (pc := 26) (v := 40) dX8_open_26 (by decide) ?_
      refine zk_icmp_ne (pc := 28) 34 dX8_open_28 (by decide) (fun h28 => ?_) (fun h28 => ?_)
      · rw [hn, show (40 : Int32) = nI 40 from rfl, nIeq (by omega) (by omega)] at h28
        refine zk_aload_n (pc := 34) 0 dX8_open_34 rfl rfl ?_
        refine zk_callVV (pc := 35) dX8_open_35 mtX8_note lkX8_171 stX8_note (by rfl) (by rfl) [] _ rfl rfl (Nat.le_of_ble_eq_true rfl) (Nat.le_of_ble_eq_true rfl) (sp_X8_note hn (by omega)) ?_
        refine zk_aload_n (pc := 38) 0 dX8_open_38 rfl rfl ?_
        refine zk_getR (pc := 39) dX8_open_39 flX8_38 rfl rfl ?_
        refine zk_iload_n (pc := 42) 1 dX8_open_42 rfl rfl ?_
        refine zk_iaload (pc := 43) c dX8_open_43 rfl rfl (by omega) ?_
        refine zs_istore_n (pc := 44) (ls' := [_, _, _]) 2 dX8_open_44 rfl (by decide) rfl ?_
        refine zk_aload_n (pc := 45) 0 dX8_open_45 rfl rfl ?_
        refine zk_getR (pc := 46) dX8_open_46 flX8_38 rfl rfl ?_
        refine zk_iload_n (pc := 49) 1 dX8_open_49 rfl rfl ?_
        refine zk_iconst (pc := 50) (v := 0) dX8_open_50 (by decide) ?_
        refine zk_iastore (pc := 51) c dX8_open_51 rfl rfl (by omega) ?_
        refine zk_iload_n (pc := 52) 2 dX8_open_52 rfl rfl ?_
        refine zk_ireturn (pc := 53) dX8_open_53 (Or.inl rfl) (zk_pr ?_)
        rw [if_pos (by omega), ntM_c (c := 55) (by decide) (by decide)]
      · rw [hn, show (40 : Int32) = nI 40 from rfl, nIeq (by omega) (by omega)] at h28
        refine zk_bipush (pc := 31) (v := -2) dX8_open_31 (by decide) ?_
        refine zk_ireturn (pc := 33) dX8_open_33 (Or.inl rfl) (zk_pr ?_)
        first | (rw [if_neg (by omega)]; done) | (rw [if_pos (by omega)])
    · rw [if_pos h16]
      refine zk_bipush (pc := 19) (v := -4) dX8_open_19 (by decide) ?_
      exact zk_ireturn (pc := 21) dX8_open_21 (Or.inl rfl) (zk_pr rfl)
  · rw [zb_e] at h5
    exact absurd hm h5 --
theorem sp_X8_open_n {C M : Nat} (hC : mu 46 17 = nI C) (hC8 : C ≤ 8) (hM : mu 46 18 = nI M) (hM6 : M ≤ 6) (i : Int32) (hb : ¬ (0 ≤ i ∧ i < mu 46 17)) : zk_M (d + 2) RX8 cX8_open 3 (some .int) none 0 (zk_loc [.ref 46, .int i] 3) [] mu lm (zk_R (some (.int (-1))) mu lm) := by
  refine zk_aload_n (pc := 0) 0 dX8_open_0 rfl rfl ?_
  refine zk_iload_n (pc := 1) 1 dX8_open_1 rfl rfl ?_
  refine zk_callVI (pc := 2) dX8_open_2 mtX8_isCell lkX8_156 stX8_isCell (by rfl) (by rfl) [_] _ rfl rfl (Nat.le_of_ble_eq_true rfl) (Nat.le_of_ble_eq_true rfl) (sp_X8_isCell hC hC8 _) ?_
  refine zk_if_ne (pc := 5) 10 dX8_open_5 (by decide) (fun h5 => ?_) (fun h5 => ?_)
  · rw [zb_n] at h5
    exact absurd h5 hb --
  · rw [zb_e] at h5
    refine zk_iconst (pc := 8) (v := -1) dX8_open_8 (by decide) ?_
    exact zk_ireturn (pc := 9) dX8_open_9 (Or.inl rfl) (zk_ri rfl)
theorem sp_X8_thunder {C M : Nat} (hC : mu 46 17 = nI C) (hC8 : C ≤ 8) (hM : mu 46 18 = nI M) (hM6 : M ≤ 6) {n : Nat} (hn : mu 46 24 = nI n) (hn4 : n ≤ 40) (hA : ∀ q, q < C → 0 ≤ mu 55 q ∧ mu 55 q ≤ 999) (hL : 0 ≤ mu 46 16 ∧ mu 46 16 ≤ 9) : zk_M (d + 3) RX8 cX8_thunder 1 (some .int) none 0 (zk_loc [.ref 46] 1) [] mu lm (zk_R (some (.int (if zsum C (mu 55) = 0 then (-4, mu) else if n < 40 then (mu 55 9 + zsum C (mu 55), thS (ntM mu n) 55 C) else (-2, mu)).1)) (if zsum C (mu 55) = 0 then (-4, mu) else if n < 40 then (mu 55 9 + zsum C (mu 55), thS (ntM mu n) 55 C) else (-2, mu)).2 lm) := by
  refine zk_aload_n (pc := 0) 0 dX8_thunder_0 rfl rfl ?_
  refine zk_aload_n (pc := 1) 0 dX8_thunder_1 rfl rfl ?_
  refine zk_getR (pc := 2) dX8_thunder_2 flX8_38 rfl rfl ?_
  refine zk_callVI (pc := 5) dX8_thunder_5 mtX8_allIn lkX8_167 stX8_allIn (by rfl) (by rfl) [_] _ rfl rfl (Nat.le_of_ble_eq_true rfl) (Nat.le_of_ble_eq_true rfl) (sp_X8_allIn (c := 55) (n := 17) rfl hC hC8 (by decide)) ?_
  refine zk_if_ne (pc := 8) 14 dX8_thunder_8 (by decide) (fun h8 => ?_) (fun h8 => ?_)
  · rw [if_neg h8]
    refine zk_aload_n (pc := 14) 0 dX8_thunder_14 rfl rfl ?_
    refine zk_getI (pc := 15) dX8_thunder_15 flX8_130 rfl rfl ?_
    refine zk_bipush (pc := 18) (v := 40) dX8_thunder_18 (by decide) ?_
    refine zk_icmp_ne (pc := 20) 26 dX8_thunder_20 (by decide) (fun h20 => ?_) (fun h20 => ?_)
    · rw [hn, show (40 : Int32) = nI 40 from rfl, nIeq (by omega) (by omega)] at h20
      refine zk_aload_n (pc := 26) 0 dX8_thunder_26 rfl rfl ?_
      refine zk_callVV (pc := 27) dX8_thunder_27 mtX8_note lkX8_171 stX8_note (by rfl) (by rfl) [] _ rfl rfl (Nat.le_of_ble_eq_true rfl) (Nat.le_of_ble_eq_true rfl) (sp_X8_note hn (by omega)) ?_
      refine zk_aload_n (pc := 30) 0 dX8_thunder_30 rfl rfl ?_
      refine zk_aload_n (pc := 31) 0 dX8_thunder_31 rfl rfl ?_
      refine zk_getR (pc := 32) dX8_thunder_32 flX8_38 rfl rfl ?_
      refine zk_callVV (pc := 35) dX8_thunder_35 mtX8_thunderIn lkX8_180 stX8_thunderIn (by rfl) (by rfl) [_] _ rfl rfl (Nat.le_of_ble_eq_true rfl) (Nat.le_of_ble_eq_true rfl) (sp_X8_thunderIn (s := 55) rfl (by decide) (by decide) (by decide) (by rw [ntM_k (by decide)]; exact hC) hC8) ?_
      refine zk_aload_n (pc := 38) 0 dX8_thunder_38 rfl rfl ?_
      refine zk_getR (pc := 39) dX8_thunder_39 flX8_38 rfl rfl ?_
      refine zk_bipush (pc := 42) (v := 9) dX8_thunder_42 (by decide) ?_
      refine zk_iaload (pc := 44) 9 dX8_thunder_44 rfl rfl (by omega) ?_
      refine zk_ireturn (pc := 45) dX8_thunder_45 (Or.inl rfl) (zk_pr ?_)
      rw [if_pos (by omega)]
      unfold thS zfill
      rw [zuc_s, if_neg (by omega), zup_s, ntM_c (c := 55) (by decide) (by decide)]
    · rw [hn, show (40 : Int32) = nI 40 from rfl, nIeq (by omega) (by omega)] at h20
      refine zk_bipush (pc := 23) (v := -2) dX8_thunder_23 (by decide) ?_
      refine zk_ireturn (pc := 25) dX8_thunder_25 (Or.inl rfl) (zk_pr ?_)
      first | (rw [if_neg (by omega)]; done) | (rw [if_pos (by omega)])
  · rw [if_pos h8]
    refine zk_bipush (pc := 11) (v := -4) dX8_thunder_11 (by decide) ?_
    exact zk_ireturn (pc := 13) dX8_thunder_13 (Or.inl rfl) (zk_pr rfl)
def brM (mu : Mem) (a i b j n : Nat) : Mem := zk_uc mu b (va_cpy (mu a) (mu b) i j n)
theorem brM_c {mu : Mem} {a i b j n c : Nat} (h : c ≠ b) : brM mu a i b j n c = mu c := by unfold brM; rw [zuc_c _ _ h]
theorem sp_X8_undo {n : Nat} (hn : mu 46 24 = nI n) (hn4 : n ≤ 40) {k : Nat} (hk : k ≤ n) : zk_M (d + 2) RX8 cX8_undo 3 (some .int) none 0 (zk_loc [.ref 46, .int (nI k)] 3) [] mu lm (zk_R (some (.int (nI (n - k)))) (zk_up (if k < n then brM mu 57 (17 * k) 55 0 17 else mu) 46 24 (nI k)) lm) := by
  have hm : 0 ≤ nI k ∧ nI k ≤ mu 46 24 := ⟨nI_pos' (by omega), by rw [hn, nIle (by omega) (by omega)]; exact hk⟩
  refine zk_iload_n (pc := 0) 1 dX8_undo_0 rfl rfl ?_
  refine zk_iconst (pc := 1) (v := 0) dX8_undo_1 (by decide) ?_
  refine zk_aload_n (pc := 2) 0 dX8_undo_2 rfl rfl ?_
  refine zk_getI (pc := 3) dX8_undo_3 flX8_130 rfl rfl ?_
  refine zk_callSI (pc := 6) dX8_undo_6 mtX8_in lkX8_66 stX8_in [_, _, _] _ rfl rfl (Nat.le_of_ble_eq_true rfl) (Nat.le_of_ble_eq_true rfl) (sp_X8_in _ _ _) ?_
  refine zk_if_ne (pc := 9) 14 dX8_undo_9 (by decide) (fun h9 => ?_) (fun h9 => ?_)
  · skip
    refine zk_aload_n (pc := 14) 0 dX8_undo_14 rfl rfl ?_
    refine zk_getI (pc := 15) dX8_undo_15 flX8_130 rfl rfl ?_
    refine zk_iload_n (pc := 18) 1 dX8_undo_18 rfl rfl ?_
    refine zk_isub (pc := 19) dX8_undo_19 ?_
    rw [hn, pk_sub hk]
    refine zs_istore_n (pc := 20) (ls' := [_, _, _]) 2 dX8_undo_20 rfl (by decide) rfl ?_
    refine zk_iload_n (pc := 21) 2 dX8_undo_21 rfl rfl ?_
    refine zk_if_le (pc := 22) 43 dX8_undo_22 (by decide) (fun h22 => ?_) (fun h22 => ?_)
    · rw [show (0 : Int32) = nI 0 from rfl, nIle (by omega) (by omega)] at h22
      rw [if_neg (by omega)]
      refine zk_aload_n (pc := 43) 0 dX8_undo_43 rfl rfl ?_
      refine zk_iload_n (pc := 44) 1 dX8_undo_44 rfl rfl ?_
      refine zk_putI (pc := 45) dX8_undo_45 flX8_130 rfl rfl ?_
      refine zk_iload_n (pc := 48) 2 dX8_undo_48 rfl rfl ?_
      exact zk_ireturn (pc := 49) dX8_undo_49 (Or.inl rfl) (zk_rm rfl rfl rfl)
    · rw [show (0 : Int32) = nI 0 from rfl, nIle (by omega) (by omega)] at h22
      rw [if_pos (by omega)]
      refine zk_aload_n (pc := 25) 0 dX8_undo_25 rfl rfl ?_
      refine zk_getR (pc := 26) dX8_undo_26 flX8_44 rfl rfl ?_
      refine zk_bipush (pc := 29) (v := 17) dX8_undo_29 (by decide) ?_
      refine zk_iload_n (pc := 31) 1 dX8_undo_31 rfl rfl ?_
      refine zk_imul (pc := 32) dX8_undo_32 ?_
      refine zk_aload_n (pc := 33) 0 dX8_undo_33 rfl rfl ?_
      refine zk_getR (pc := 34) dX8_undo_34 flX8_38 rfl rfl ?_
      refine zk_iconst (pc := 37) (v := 0) dX8_undo_37 (by decide) ?_
      refine zk_bipush (pc := 38) (v := 17) dX8_undo_38 (by decide) ?_
      rw [show (17 : Int32) = nI 17 from rfl, pk_mul]
      refine zk_callSV (pc := 40) dX8_undo_40 mtX8_bring lkX8_159 stX8_bring [_, _, _, _, _] _ rfl rfl (Nat.le_of_ble_eq_true rfl) (Nat.le_of_ble_eq_true rfl) (sp_X8_bring (a := 57) (b := 55) (i := 17 * k) (j := 0) (n := 17) rfl rfl (by decide) (by omega) (by omega)) ?_
      refine zk_aload_n (pc := 43) 0 dX8_undo_43 rfl rfl ?_
      refine zk_iload_n (pc := 44) 1 dX8_undo_44 rfl rfl ?_
      refine zk_putI (pc := 45) dX8_undo_45 flX8_130 rfl rfl ?_
      refine zk_iload_n (pc := 48) 2 dX8_undo_48 rfl rfl ?_
      exact zk_ireturn (pc := 49) dX8_undo_49 (Or.inl rfl) (zk_rm rfl rfl rfl)
  · rw [zb_e] at h9
    exact absurd hm h9 --
theorem sp_X8_undo_n (i : Int32) (hb : ¬ (0 ≤ i ∧ i ≤ mu 46 24)) : zk_M (d + 1) RX8 cX8_undo 3 (some .int) none 0 (zk_loc [.ref 46, .int i] 3) [] mu lm (zk_R (some (.int (-1))) mu lm) := by
  refine zk_iload_n (pc := 0) 1 dX8_undo_0 rfl rfl ?_
  refine zk_iconst (pc := 1) (v := 0) dX8_undo_1 (by decide) ?_
  refine zk_aload_n (pc := 2) 0 dX8_undo_2 rfl rfl ?_
  refine zk_getI (pc := 3) dX8_undo_3 flX8_130 rfl rfl ?_
  refine zk_callSI (pc := 6) dX8_undo_6 mtX8_in lkX8_66 stX8_in [_, _, _] _ rfl rfl (Nat.le_of_ble_eq_true rfl) (Nat.le_of_ble_eq_true rfl) (sp_X8_in _ _ _) ?_
  refine zk_if_ne (pc := 9) 14 dX8_undo_9 (by decide) (fun h9 => ?_) (fun h9 => ?_)
  · rw [zb_n] at h9
    exact absurd h9 hb --
  · rw [zb_e] at h9
    refine zk_iconst (pc := 12) (v := -1) dX8_undo_12 (by decide) ?_
    exact zk_ireturn (pc := 13) dX8_undo_13 (Or.inl rfl) (zk_ri rfl)
theorem sp_X8_keep_n (i : Int32) (hb : ¬ (0 ≤ i ∧ i ≤ 2)) : zk_M (d + 1) RX8 cX8_keep 2 (some .int) none 0 (zk_loc [.ref 46, .int i] 2) [] mu lm (zk_R (some (.int (-1))) mu lm) := by
  refine zk_iload_n (pc := 0) 1 dX8_keep_0 rfl rfl ?_
  refine zk_iconst (pc := 1) (v := 0) dX8_keep_1 (by decide) ?_
  refine zk_iconst (pc := 2) (v := 2) dX8_keep_2 (by decide) ?_
  refine zk_callSI (pc := 3) dX8_keep_3 mtX8_in lkX8_66 stX8_in [_, _, _] _ rfl rfl (Nat.le_of_ble_eq_true rfl) (Nat.le_of_ble_eq_true rfl) (sp_X8_in _ _ _) ?_
  refine zk_if_ne (pc := 6) 11 dX8_keep_6 (by decide) (fun h6 => ?_) (fun h6 => ?_)
  · rw [zb_n] at h6
    exact absurd h6 hb --
  · rw [zb_e] at h6
    refine zk_iconst (pc := 9) (v := -1) dX8_keep_9 (by decide) ?_
    exact zk_ireturn (pc := 10) dX8_keep_10 (Or.inl rfl) (zk_ri rfl)
theorem sp_X8_on_n (i : Int32) (hb : ¬ (0 ≤ i ∧ i ≤ 2)) : zk_M (d + 1) RX8 cX8_on 2 (some .int) none 0 (zk_loc [.ref 46, .int i] 2) [] mu lm (zk_R (some (.int (-1))) mu lm) := by
  refine zk_iload_n (pc := 0) 1 dX8_on_0 rfl rfl ?_
  refine zk_iconst (pc := 1) (v := 0) dX8_on_1 (by decide) ?_
  refine zk_iconst (pc := 2) (v := 2) dX8_on_2 (by decide) ?_
  refine zk_callSI (pc := 3) dX8_on_3 mtX8_in lkX8_66 stX8_in [_, _, _] _ rfl rfl (Nat.le_of_ble_eq_true rfl) (Nat.le_of_ble_eq_true rfl) (sp_X8_in _ _ _) ?_
  refine zk_if_ne (pc := 6) 11 dX8_on_6 (by decide) (fun h6 => ?_) (fun h6 => ?_)
  · rw [zb_n] at h6
    exact absurd h6 hb --
  · rw [zb_e] at h6
    refine zk_iconst (pc := 9) (v := -1) dX8_on_9 (by decide) ?_
    exact zk_ireturn (pc := 10) dX8_on_10 (Or.inl rfl) (zk_ri rfl)
def kpD (mu : Mem) (k : Nat) : Mem := zk_up (brM (brM mu 55 0 58 (17 * k) 17) 57 0 59 (680 * k) 680) 60 k (mu 46 24)
theorem sp_X8_keep {C M : Nat} (hC : mu 46 17 = nI C) (hC8 : C ≤ 8) (hM : mu 46 18 = nI M) (hM6 : M ≤ 6) {k : Nat} (hk : k < 3) : zk_M (d + 2) RX8 cX8_keep 2 (some .int) none 0 (zk_loc [.ref 46, .int (nI k)] 2) [] mu lm (zk_R (some (.int (if M = 0 then -4 else mu 46 24))) (if M = 0 then mu else kpD mu k) lm) := by
  have hm : 0 ≤ nI k ∧ nI k ≤ 2 := ⟨nI_pos' (by omega), show nI k ≤ nI 2 from nI_le (by omega) (by decide)⟩
  refine zk_iload_n (pc := 0) 1 dX8_keep_0 rfl rfl ?_
  refine zk_iconst (pc := 1) (v := 0) dX8_keep_1 (by decide) ?_
  refine zk_iconst (pc := 2) (v := 2) dX8_keep_2 (by decide) ?_
  refine zk_callSI (pc := 3) dX8_keep_3 mtX8_in lkX8_66 stX8_in [_, _, _] _ rfl rfl (Nat.le_of_ble_eq_true rfl) (Nat.le_of_ble_eq_true rfl) (sp_X8_in _ _ _) ?_
  refine zk_if_ne (pc := 6) 11 dX8_keep_6 (by decide) (fun h6 => ?_) (fun h6 => ?_)
  · skip
    refine zk_aload_n (pc := 11) 0 dX8_keep_11 rfl rfl ?_
    refine zk_getI (pc := 12) dX8_keep_12 flX8_63 rfl rfl ?_
    refine zk_if_ne (pc := 15) 21 dX8_keep_15 (by decide) (fun h15 => ?_) (fun h15 => ?_)
    · rw [hM] at h15
      have hM0 : ¬ M = 0 := fun q => h15 (by rw [q]; rfl)
      rw [if_neg hM0, if_neg hM0]
      refine zk_aload_n (pc := 21) 0 dX8_keep_21 rfl rfl ?_
      refine zk_getR (pc := 22) dX8_keep_22 flX8_38 rfl rfl ?_
      refine zk_iconst (pc := 25) (v := 0) dX8_keep_25 (by decide) ?_
      refine zk_aload_n (pc := 26) 0 dX8_keep_26 rfl rfl ?_
      refine zk_getR (pc := 27) dX8_keep_27 flX8_47 rfl rfl ?_
      refine zk_bipush (pc := 30) (v := 17) dX8_keep_30 (by decide) ?_
      refine zk_iload_n (pc := 32) 1 dX8_keep_32 rfl rfl ?_
      refine zk_imul (pc := 33) dX8_keep_33 ?_
      refine zk_bipush (pc := 34) (v := 17) dX8_keep_34 (by decide) ?_
      rw [show (17 : Int32) = nI 17 from rfl, pk_mul]
      refine zk_callSV (pc := 36) dX8_keep_36 mtX8_bring lkX8_159 stX8_bring [_, _, _, _, _] _ rfl rfl (Nat.le_of_ble_eq_true rfl) (Nat.le_of_ble_eq_true rfl) (sp_X8_bring (a := 55) (b := 58) (i := 0) (j := 17 * k) (n := 17) rfl rfl (by decide) (by omega) (by omega)) ?_
      refine zk_aload_n (pc := 39) 0 dX8_keep_39 rfl rfl ?_
      refine zk_getR (pc := 40) dX8_keep_40 flX8_44 rfl rfl ?_
      refine zk_iconst (pc := 43) (v := 0) dX8_keep_43 (by decide) ?_
      refine zk_aload_n (pc := 44) 0 dX8_keep_44 rfl rfl ?_
      refine zk_getR (pc := 45) dX8_keep_45 flX8_50 rfl rfl ?_
      refine zk_sipush (pc := 48) (v := 680) dX8_keep_48 (by decide) ?_
      refine zk_iload_n (pc := 51) 1 dX8_keep_51 rfl rfl ?_
      refine zk_imul (pc := 52) dX8_keep_52 ?_
      refine zk_sipush (pc := 53) (v := 680) dX8_keep_53 (by decide) ?_
      rw [show (680 : Int32) = nI 680 from rfl, pk_mul]
      refine zk_callSV (pc := 56) dX8_keep_56 mtX8_bring lkX8_159 stX8_bring [_, _, _, _, _] _ rfl rfl (Nat.le_of_ble_eq_true rfl) (Nat.le_of_ble_eq_true rfl) (sp_X8_bring (a := 57) (b := 59) (i := 0) (j := 680 * k) (n := 680) rfl rfl (by decide) (by omega) (by omega)) ?_
      refine zk_aload_n (pc := 59) 0 dX8_keep_59 rfl rfl ?_
      refine zk_getR (pc := 60) dX8_keep_60 flX8_53 rfl rfl ?_
      refine zk_iload_n (pc := 63) 1 dX8_keep_63 rfl rfl ?_
      refine zk_aload_n (pc := 64) 0 dX8_keep_64 rfl rfl ?_
      refine zk_getI (pc := 65) dX8_keep_65 flX8_130 rfl rfl ?_
      refine zk_iastore (pc := 68) k dX8_keep_68 rfl rfl (by omega) ?_
      refine zk_aload_n (pc := 69) 0 dX8_keep_69 rfl rfl ?_
      refine zk_getI (pc := 70) dX8_keep_70 flX8_130 rfl rfl ?_
      refine zk_ireturn (pc := 73) dX8_keep_73 (Or.inl rfl) (zk_rm ?_ ?_ rfl)
      · rw [zup_c _ _ _ (by decide), zuc_c _ _ (by decide), zuc_c _ _ (by decide)]
      · unfold kpD brM
        rw [zuc_c _ _ (show (46 : Nat) ≠ 59 by decide), zuc_c _ _ (show (46 : Nat) ≠ 58 by decide)]
    · rw [hM, show (0 : Int32) = nI 0 from rfl, nIeq (by omega) (by omega)] at h15
      rw [if_pos h15, if_pos h15]
      refine zk_bipush (pc := 18) (v := -4) dX8_keep_18 (by decide) ?_
      exact zk_ireturn (pc := 20) dX8_keep_20 (Or.inl rfl) (zk_ri rfl)
  · rw [zb_e] at h6
    exact absurd hm h6 --
def onD (mu : Mem) (k : Nat) : Mem := zk_up (brM (brM mu 58 (17 * k) 55 0 17) 59 (680 * k) 57 0 680) 46 24 (mu 60 k)
theorem sp_X8_on_1 {k : Nat} (hk : k < 3) (hs : mu 60 k < 0) : zk_M (d + 2) RX8 cX8_on 2 (some .int) none 0 (zk_loc [.ref 46, .int (nI k)] 2) [] mu lm (zk_R (some (.int (-3))) (fndD mu 1) lm) := by
  have hm : 0 ≤ nI k ∧ nI k ≤ 2 := ⟨nI_pos' (by omega), show nI k ≤ nI 2 from nI_le (by omega) (by decide)⟩
  refine zk_iload_n (pc := 0) 1 dX8_on_0 rfl rfl ?_
  refine zk_iconst (pc := 1) (v := 0) dX8_on_1 (by decide) ?_
  refine zk_iconst (pc := 2) (v := 2) dX8_on_2 (by decide) ?_
  refine zk_callSI (pc := 3) dX8_on_3 mtX8_in lkX8_66 stX8_in [_, _, _] _ rfl rfl (Nat.le_of_ble_eq_true rfl) (Nat.le_of_ble_eq_true rfl) (sp_X8_in _ _ _) ?_
  refine zk_if_ne (pc := 6) 11 dX8_on_6 (by decide) (fun h6 => ?_) (fun h6 => ?_)
  · skip
    refine zk_aload_n (pc := 11) 0 dX8_on_11 rfl rfl ?_
    refine zk_getR (pc := 12) dX8_on_12 flX8_53 rfl rfl ?_
    refine zk_iload_n (pc := 15) 1 dX8_on_15 rfl rfl ?_
    refine zk_iaload (pc := 16) k dX8_on_16 rfl rfl hk ?_
    refine zk_if_ge (pc := 17) 26 dX8_on_17 (by decide) (fun h17 => ?_) (fun h17 => ?_)
    · exact absurd hs (by simp only [zlt, zle] at *; omega) --
    · skip
      refine zk_aload_n (pc := 20) 0 dX8_on_20 rfl rfl ?_
      refine zk_iconst (pc := 21) (v := 1) dX8_on_21 (by decide) ?_
      refine zk_callVI (pc := 22) dX8_on_22 mtX8_finds lkX8_73 stX8_finds (by rfl) (by rfl) [_] _ rfl rfl (Nat.le_of_ble_eq_true rfl) (Nat.le_of_ble_eq_true rfl) (sp_X8_finds (f := 1) (by decide)) ?_
      exact zk_ireturn (pc := 25) dX8_on_25 (Or.inl rfl) ⟨rfl, rfl, rfl⟩
  · rw [zb_e] at h6
    exact absurd hm h6 --
theorem sp_X8_on {k : Nat} (hk : k < 3) (hs : ¬ mu 60 k < 0) : zk_M (d + 2) RX8 cX8_on 2 (some .int) none 0 (zk_loc [.ref 46, .int (nI k)] 2) [] mu lm (zk_R (some (.int (mu 60 k))) (onD mu k) lm) := by
  have hm : 0 ≤ nI k ∧ nI k ≤ 2 := ⟨nI_pos' (by omega), show nI k ≤ nI 2 from nI_le (by omega) (by decide)⟩
  refine zk_iload_n (pc := 0) 1 dX8_on_0 rfl rfl ?_
  refine zk_iconst (pc := 1) (v := 0) dX8_on_1 (by decide) ?_
  refine zk_iconst (pc := 2) (v := 2) dX8_on_2 (by decide) ?_
  refine zk_callSI (pc := 3) dX8_on_3 mtX8_in lkX8_66 stX8_in [_, _, _] _ rfl rfl (Nat.le_of_ble_eq_true rfl) (Nat.le_of_ble_eq_true rfl) (sp_X8_in _ _ _) ?_
  refine zk_if_ne (pc := 6) 11 dX8_on_6 (by decide) (fun h6 => ?_) (fun h6 => ?_)
  · skip
    refine zk_aload_n (pc := 11) 0 dX8_on_11 rfl rfl ?_
    refine zk_getR (pc := 12) dX8_on_12 flX8_53 rfl rfl ?_
    refine zk_iload_n (pc := 15) 1 dX8_on_15 rfl rfl ?_
    refine zk_iaload (pc := 16) k dX8_on_16 rfl rfl hk ?_
    refine zk_if_ge (pc := 17) 26 dX8_on_17 (by decide) (fun h17 => ?_) (fun h17 => ?_)
    · skip
      refine zk_aload_n (pc := 26) 0 dX8_on_26 rfl rfl ?_
      refine zk_getR (pc := 27) dX8_on_27 flX8_47 rfl rfl ?_
      refine zk_bipush (pc := 30) (v := 17) dX8_on_30 (by decide) ?_
      refine zk_iload_n (pc := 32) 1 dX8_on_32 rfl rfl ?_
      refine zk_imul (pc := 33) dX8_on_33 ?_
      refine zk_aload_n (pc := 34) 0 dX8_on_34 rfl rfl ?_
      refine zk_getR (pc := 35) dX8_on_35 flX8_38 rfl rfl ?_
      refine zk_iconst (pc := 38) (v := 0) dX8_on_38 (by decide) ?_
      refine zk_bipush (pc := 39) (v := 17) dX8_on_39 (by decide) ?_
      rw [show (17 : Int32) = nI 17 from rfl, pk_mul]
      refine zk_callSV (pc := 41) dX8_on_41 mtX8_bring lkX8_159 stX8_bring [_, _, _, _, _] _ rfl rfl (Nat.le_of_ble_eq_true rfl) (Nat.le_of_ble_eq_true rfl) (sp_X8_bring (a := 58) (b := 55) (i := 17 * k) (j := 0) (n := 17) rfl rfl (by decide) (by omega) (by omega)) ?_
      refine zk_aload_n (pc := 44) 0 dX8_on_44 rfl rfl ?_
      refine zk_getR (pc := 45) dX8_on_45 flX8_50 rfl rfl ?_
      refine zk_sipush (pc := 48) (v := 680) dX8_on_48 (by decide) ?_
      refine zk_iload_n (pc := 51) 1 dX8_on_51 rfl rfl ?_
      refine zk_imul (pc := 52) dX8_on_52 ?_
      refine zk_aload_n (pc := 53) 0 dX8_on_53 rfl rfl ?_
      refine zk_getR (pc := 54) dX8_on_54 flX8_44 rfl rfl ?_
      refine zk_iconst (pc := 57) (v := 0) dX8_on_57 (by decide) ?_
      refine zk_sipush (pc := 58) (v := 680) dX8_on_58 (by decide) ?_
      rw [show (680 : Int32) = nI 680 from rfl, pk_mul]
      refine zk_callSV (pc := 61) dX8_on_61 mtX8_bring lkX8_159 stX8_bring [_, _, _, _, _] _ rfl rfl (Nat.le_of_ble_eq_true rfl) (Nat.le_of_ble_eq_true rfl) (sp_X8_bring (a := 59) (b := 57) (i := 680 * k) (j := 0) (n := 680) rfl rfl (by decide) (by omega) (by omega)) ?_
      refine zk_aload_n (pc := 64) 0 dX8_on_64 rfl rfl ?_
      refine zk_aload_n (pc := 65) 0 dX8_on_65 rfl rfl ?_
      refine zk_getR (pc := 66) dX8_on_66 flX8_53 rfl rfl ?_
      refine zk_iload_n (pc := 69) 1 dX8_on_69 rfl rfl ?_
      refine zk_iaload (pc := 70) k dX8_on_70 rfl rfl hk ?_
      refine zk_putI (pc := 71) dX8_on_71 flX8_130 rfl rfl ?_
      refine zk_aload_n (pc := 74) 0 dX8_on_74 rfl rfl ?_
      refine zk_getI (pc := 75) dX8_on_75 flX8_130 rfl rfl ?_
      refine zk_ireturn (pc := 78) dX8_on_78 (Or.inl rfl) (zk_rm ?_ ?_ rfl)
      · rw [zup_s, zuc_c _ _ (by decide), zuc_c _ _ (by decide)]
      · unfold onD brM
        rw [zuc_c _ _ (show (60 : Nat) ≠ 57 by decide), zuc_c _ _ (show (60 : Nat) ≠ 55 by decide)]
    · exact absurd (by simp only [zlt, zle] at *; omega) hs --
  · rw [zb_e] at h6
    exact absurd hm h6 --
end M47
