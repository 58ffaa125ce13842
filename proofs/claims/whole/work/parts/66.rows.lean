section M66
variable {mu : Mem} {lm : MemL}
theorem zrow_at {b p sz it N K k : Nat} (h : iRow mu b p sz it N K) (hk : k < K) : mu sz k = mu (b + 2 * k) 1 ∧ zSz (mu (b + 2 * k) 1) N ∧ ∀ q, q < (mu (b + 2 * k) 1).toNatClampNeg → mu it (N * k + q) = mu (p + 2 * k) q := h k hk
theorem zren_sz {n : Int32} {N : Nat} (hN : N < 1000) (h1 : n ≤ nI N) (h0 : 0 ≤ n) : ∃ j, j ≤ N ∧ n = nI j := zgetl ⟨h0, h1⟩ (by omega)
theorem bo_row (h : zInv mu lm) (r n : Int32) : zBo cX7_row 3 cX8_row 4 [.int r, .int n] mu lm := by
  by_cases hr : 0 ≤ r ∧ r < 6
  · obtain ⟨k, hk, rfl⟩ := zget hr (M := 6) rfl (by decide)
    have hR := h.rs
    refine zboR (by decide) (by decide) (sp_X7_row (d := 0) hk n) (sp_X8_row (d := 0) hk n) ?_ ?_
    · unfold cRen mRen
      by_cases h1 : n ≤ nI 40
      · by_cases h2 : 0 ≤ n
        · simp only [if_pos h1, if_pos h2]
        · simp only [if_pos h1, if_neg h2]
      · simp only [if_neg h1]
    · unfold cRen mRen
      by_cases h1 : n ≤ nI 40
      · by_cases h2 : 0 ≤ n
        · simp only [if_pos h1, if_pos h2]
          obtain ⟨j, hj, rfl⟩ := zren_sz (by decide) h1 h2
          rw [nI_clamp (by omega)]
          refine h.mk2 (fun c a b => ?_) (fun c a b => ?_) (fun q a => ?_) (iRow.up (k := k) hR (by decide) (fun i hi e => ⟨?_, ?_, fun q hq => ?_, fun q hq => ?_⟩) ⟨?_, ?_, fun q hq => ?_⟩) (h.ts.fr (fun c a b => ?_) ?_ ?_) (h.st.fr ?_ ?_ ?_ (fun k a => ?_))
          · unfold zseg zfill; simp (disch := omega) only [zup_cf, zuc_c]
          · unfold zseg zfill; simp (disch := omega) only [zup_cf, zuc_c]
          · unfold zseg zfill; simp (disch := omega) only [zup_cf, zuc_c]
          · unfold zseg zfill; simp (disch := omega) only [zup_cf, zuc_c, zup_k]
          · unfold zseg zfill; simp (disch := omega) only [zup_cf, zuc_c]
          · unfold zseg zfill; simp (disch := omega) only [zup_cf, zuc_c, zuc_s]; rw [if_neg (by omega)]
          · unfold zseg zfill; simp (disch := omega) only [zup_cf, zuc_c]
          · unfold zseg zfill; simp (disch := omega) only [zup_cf, zuc_c, zup_s]
          · unfold zseg zfill; simp (disch := omega) only [zup_cf, zuc_c, zup_s]; exact Or.inr ⟨j, hj, rfl⟩
          · revert hq
            unfold zseg zfill; simp (disch := omega) only [zup_cf, zuc_c, zup_s, zuc_s]
            rw [nI_clamp (by omega)]
            intro hq
            rw [if_pos (by omega), if_pos hq]
          · unfold zseg zfill; simp (disch := omega) only [zup_cf, zuc_c]
          · unfold zseg zfill; simp (disch := omega) only [zup_cf, zuc_c]
          · unfold zseg zfill; simp (disch := omega) only [zup_cf, zuc_c]
          · unfold zseg zfill; simp (disch := omega) only [zup_cf, zuc_c]
          · unfold zseg zfill; simp (disch := omega) only [zup_cf, zuc_c]
          · unfold zseg zfill; simp (disch := omega) only [zup_cf, zuc_c]
          · unfold zseg zfill; simp (disch := omega) only [zup_cf, zuc_c]
        · simp only [if_pos h1, if_neg h2]
          exact h.fnd (by decide)
      · simp only [if_neg h1]
        exact h
  · exact zboR (by decide) (by decide) (sp_X7_row_n (d := 0) hr n) (sp_X8_row_n (d := 0) hr n) rfl h
theorem bo_text (h : zInv mu lm) (r n : Int32) : zBo cX7_text 3 cX8_text 4 [.int r, .int n] mu lm := by
  by_cases hr : 0 ≤ r ∧ r < 4
  · obtain ⟨k, hk, rfl⟩ := zget hr (M := 4) rfl (by decide)
    have hR := h.ts
    refine zboR (by decide) (by decide) (sp_X7_text (d := 0) hk n) (sp_X8_text (d := 0) hk n) ?_ ?_
    · unfold cRen mRen
      by_cases h1 : n ≤ nI 60
      · by_cases h2 : 0 ≤ n
        · simp only [if_pos h1, if_pos h2]
        · simp only [if_pos h1, if_neg h2]
      · simp only [if_neg h1]
    · unfold cRen mRen
      by_cases h1 : n ≤ nI 60
      · by_cases h2 : 0 ≤ n
        · simp only [if_pos h1, if_pos h2]
          obtain ⟨j, hj, rfl⟩ := zren_sz (by decide) h1 h2
          rw [nI_clamp (by omega)]
          refine h.mk2 (fun c a b => ?_) (fun c a b => ?_) (fun q a => ?_) (h.rs.fr (fun c a b => ?_) ?_ ?_) (iRow.up (k := k) hR (by decide) (fun i hi e => ⟨?_, ?_, fun q hq => ?_, fun q hq => ?_⟩) ⟨?_, ?_, fun q hq => ?_⟩) (h.st.fr ?_ ?_ ?_ (fun k a => ?_))
          · unfold zseg zfill; simp (disch := omega) only [zup_cf, zuc_c]
          · unfold zseg zfill; simp (disch := omega) only [zup_cf, zuc_c]
          · unfold zseg zfill; simp (disch := omega) only [zup_cf, zuc_c]
          · unfold zseg zfill; simp (disch := omega) only [zup_cf, zuc_c]
          · unfold zseg zfill; simp (disch := omega) only [zup_cf, zuc_c]
          · unfold zseg zfill; simp (disch := omega) only [zup_cf, zuc_c]
          · unfold zseg zfill; simp (disch := omega) only [zup_cf, zuc_c, zup_k]
          · unfold zseg zfill; simp (disch := omega) only [zup_cf, zuc_c]
          · unfold zseg zfill; simp (disch := omega) only [zup_cf, zuc_c, zuc_s]; rw [if_neg (by omega)]
          · unfold zseg zfill; simp (disch := omega) only [zup_cf, zuc_c]
          · unfold zseg zfill; simp (disch := omega) only [zup_cf, zuc_c, zup_s]
          · unfold zseg zfill; simp (disch := omega) only [zup_cf, zuc_c, zup_s]; exact Or.inr ⟨j, hj, rfl⟩
          · revert hq
            unfold zseg zfill; simp (disch := omega) only [zup_cf, zuc_c, zup_s, zuc_s]
            rw [nI_clamp (by omega)]
            intro hq
            rw [if_pos (by omega), if_pos hq]
          · unfold zseg zfill; simp (disch := omega) only [zup_cf, zuc_c]
          · unfold zseg zfill; simp (disch := omega) only [zup_cf, zuc_c]
          · unfold zseg zfill; simp (disch := omega) only [zup_cf, zuc_c]
          · unfold zseg zfill; simp (disch := omega) only [zup_cf, zuc_c]
        · simp only [if_pos h1, if_neg h2]
          exact h.fnd (by decide)
      · simp only [if_neg h1]
        exact h
  · exact zboR (by decide) (by decide) (sp_X7_text_n (d := 0) hr n) (sp_X8_text_n (d := 0) hr n) rfl h
/-- a place of a row -/
theorem zpl {x i : Int32} {N : Nat} (hz : zSz x N) (hN : N < 1000) : (0 ≤ i ∧ i < x ∧ i < nI N) ↔ (0 ≤ i ∧ i < x) := by
  refine ⟨fun h => ⟨h.1, h.2.1⟩, fun h => ⟨h.1, h.2, ?_⟩⟩
  rcases hz with rfl | ⟨j, hj, rfl⟩
  · have h1 := h.1; have h2 := h.2; simp only [zle, zlt] at h1 h2
    have e : (-1 : Int32).toInt = -1 := by decide
    have e0 : (0 : Int32).toInt = 0 := by decide
    omega
  · have h1 := h.1; have h2 := h.2; simp only [zle, zlt] at h1 h2 ⊢
    rw [nI_toInt (by omega)] at h2 ⊢
    omega
theorem zpl_q {x i : Int32} {N : Nat} (hz : zSz x N) (hN : N < 1000) (h : 0 ≤ i ∧ i < x) : i = nI i.toNatClampNeg ∧ i.toNatClampNeg < x.toNatClampNeg ∧ x.toNatClampNeg ≤ N := by
  rcases hz with rfl | ⟨j, hj, rfl⟩
  · have h1 := h.1; have h2 := h.2; simp only [zle, zlt] at h1 h2
    have e : (-1 : Int32).toInt = -1 := by decide
    have e0 : (0 : Int32).toInt = 0 := by decide
    omega
  · obtain ⟨a, b⟩ := zix h.1 h.2 (by omega)
    exact ⟨a, by rw [nI_clamp (n := j) (by omega)]; exact b, by rw [nI_clamp (by omega)]; exact hj⟩
theorem bo_lay (h : zInv mu lm) (r i v : Int32) : zBo cX7_lay 6 cX8_lay 6 [.int r, .int i, .int v] mu lm := by
  by_cases hr : 0 ≤ r ∧ r < 6
  · obtain ⟨k, hk, rfl⟩ := zget hr (M := 6) rfl (by decide)
    have hR := h.rs
    obtain ⟨e1, e2, e3⟩ := zrow_at hR hk
    have hc47 : (cLay mu (2 + 2 * k) (3 + 2 * k) 40 i v).2 47 = mu 47 := by
      unfold cLay
      split
      · split
        · simp (disch := omega) only [zup_cf]
        · exact fndM_c (mu := mu) (f := 2) (c := 47) (by decide) (by decide)
      · exact fndM_c (mu := mu) (f := 1) (c := 47) (by decide) (by decide)
    refine zboR (by decide) (by decide) (sp_X7_lay (d := 0) hk i v) (sp_X8_lay (d := 0) hk (by rw [hc47, e1]; exact e2) i v) ?_ ?_
    · unfold mLay
      rw [hc47, e1]
      unfold cLay
      simp only [zpl e2 (by decide)]
      by_cases h1 : 0 ≤ mu (2 + 2 * k) 1
      · by_cases h2 : 0 ≤ i ∧ i < mu (2 + 2 * k) 1
        · simp only [if_pos h1, if_pos h2]
        · simp only [if_pos h1, if_neg h2]
      · simp only [if_neg h1]
    · unfold mLay
      rw [hc47, e1]
      unfold cLay
      simp only [zpl e2 (by decide)]
      by_cases h1 : 0 ≤ mu (2 + 2 * k) 1
      · by_cases h2 : 0 ≤ i ∧ i < mu (2 + 2 * k) 1
        · simp only [if_pos h1, if_pos h2]
          obtain ⟨a, b, b2⟩ := zpl_q e2 (by decide) h2
          generalize i.toNatClampNeg = I at a b
          have e4 := e3 I b
          simp (disch := omega) only [zup_cf, e4]
          refine h.mk2 (fun c a b => ?_) (fun c a b => ?_) (fun q a => ?_) (iRow.up (k := k) hR (by decide) (fun i hi e => ⟨?_, ?_, fun q hq => ?_, fun q hq => ?_⟩) ⟨?_, ?_, fun q hq => ?_⟩) (h.ts.fr (fun c a b => ?_) ?_ ?_) ?_
          · simp (disch := omega) only [zup_cf, zuc_c]
          · simp (disch := omega) only [zup_cf, zuc_c]
          · simp (disch := omega) only [zup_cf, zuc_c, zup_k]
          · simp (disch := omega) only [zup_cf, zuc_c]
          · simp (disch := omega) only [zup_cf, zuc_c]
          · simp (disch := omega) only [zup_cf, zuc_c, zup_k]
          · simp (disch := omega) only [zup_cf, zuc_c]
          · simp (disch := omega) only [zup_cf, zuc_c]; exact e1
          · simp (disch := omega) only [zup_cf, zuc_c]; exact e2
          · revert hq
            simp (disch := omega) only [zup_cf, zuc_c]
            intro hq
            by_cases e : q = I
            · subst e; rw [zup_s, zup_s]
            · rw [zup_k _ _ _ (by omega), zup_k _ _ _ e]; simp (disch := omega) only [zup_cf]; exact e3 q hq
          · simp (disch := omega) only [zup_cf, zuc_c]
          · simp (disch := omega) only [zup_cf, zuc_c]
          · simp (disch := omega) only [zup_cf, zuc_c]
          · refine (h.st.tell (mu (3 + 2 * k) I)).fr ?_ ?_ ?_ (fun q hq => ?_)
            · simp (disch := omega) only [zup_cf]
            · simp (disch := omega) only [zup_cf]
            · simp (disch := omega) only [zup_cf]
            · by_cases e : q = 6
              · subst e; rw [zup_s, zup_s]
              · simp (disch := omega) only [zup_cf, zup_k]
        · simp only [if_pos h1, if_neg h2]
          exact h.fnd (by decide)
      · simp only [if_neg h1]
        exact h.fnd (by decide)
  · exact zboR (by decide) (by decide) (sp_X7_lay_n (d := 0) hr i v) (sp_X8_lay_n (d := 0) hr i v) rfl h
theorem bo_at (h : zInv mu lm) (r i : Int32) : zBo cX7_at 5 cX8_at 4 [.int r, .int i] mu lm := by
  by_cases hr : 0 ≤ r ∧ r < 6
  · obtain ⟨k, hk, rfl⟩ := zget hr (M := 6) rfl (by decide)
    have hR := h.rs
    obtain ⟨e1, e2, e3⟩ := zrow_at hR hk
    have hc : ∀ c, c ≠ 0 → c ≠ 45 → (cAt mu (2 + 2 * k) (3 + 2 * k) 40 i).2 c = mu c := by
      intro c c0 c45
      unfold cAt
      split
      · split
        · exact zup_cf _ _ c0
        · exact fndM_c c0 c45
      · exact fndM_c c0 c45
    refine zboR (by decide) (by decide) (sp_X7_at (d := 0) hk i) (sp_X8_at (d := 0) hk (by rw [hc 47 (by decide) (by decide), e1]; exact e2) i) ?_ ?_
    · unfold mAt
      rw [hc 47 (by decide) (by decide), hc 48 (by decide) (by decide), e1]
      unfold cAt
      simp only [zpl e2 (by decide)]
      by_cases h1 : 0 ≤ mu (2 + 2 * k) 1
      · by_cases h2 : 0 ≤ i ∧ i < mu (2 + 2 * k) 1
        · simp only [if_pos h1, if_pos h2]
        · simp only [if_pos h1, if_neg h2]
      · simp only [if_neg h1]
    · unfold mAt
      rw [hc 47 (by decide) (by decide), hc 48 (by decide) (by decide), e1]
      unfold cAt
      simp only [zpl e2 (by decide)]
      by_cases h1 : 0 ≤ mu (2 + 2 * k) 1
      · by_cases h2 : 0 ≤ i ∧ i < mu (2 + 2 * k) 1
        · simp only [if_pos h1, if_pos h2]
          obtain ⟨a, b, b2⟩ := zpl_q e2 (by decide) h2
          rw [e3 _ b]
          exact h.tell _
        · simp only [if_pos h1, if_neg h2]
          exact h.fnd (by decide)
      · simp only [if_neg h1]
        exact h.fnd (by decide)
  · exact zboR (by decide) (by decide) (sp_X7_at_n (d := 0) hr i) (sp_X8_at_n (d := 0) hr i) rfl h
theorem bo_tear (h : zInv mu lm) (r : Int32) : zBo cX7_tear 3 cX8_tear 2 [.int r] mu lm := by
  by_cases hr : 0 ≤ r ∧ r < 6
  · obtain ⟨k, hk, rfl⟩ := zget hr (M := 6) rfl (by decide)
    have hR := h.rs
    obtain ⟨e1, e2, e3⟩ := zrow_at hR hk
    by_cases h1 : 0 ≤ mu (2 + 2 * k) 1
    · have hc := sp_X7_tear (d := 0) (mu := mu) (lm := lm) hk
      rw [if_pos h1, if_pos h1] at hc
      have hm := sp_X8_tear (d := 0) (mu := zk_up mu (2 + 2 * k) 1 (-1)) (lm := lm) hk
      rw [zup_cf _ _ (by omega), e1, if_pos h1, if_pos h1] at hm
      refine zboR (by decide) (by decide) hc hm rfl ?_
      refine h.mk2 (fun c a b => ?_) (fun c a b => ?_) (fun q a => ?_) (iRow.up (k := k) hR (by decide) (fun i hi e => ⟨?_, ?_, fun q hq => ?_, fun q hq => ?_⟩) ⟨?_, ?_, fun q hq => ?_⟩) (h.ts.fr (fun c a b => ?_) ?_ ?_) (h.st.fr ?_ ?_ ?_ (fun k a => ?_))
      · simp (disch := omega) only [zup_cf, zuc_c]
      · simp (disch := omega) only [zup_cf, zuc_c]
      · simp (disch := omega) only [zup_cf, zuc_c]
      · simp (disch := omega) only [zup_cf, zup_k]
      · simp (disch := omega) only [zup_cf]
      · simp (disch := omega) only [zup_cf]
      · simp (disch := omega) only [zup_cf]
      · simp (disch := omega) only [zup_cf, zup_s]
      · simp (disch := omega) only [zup_cf, zup_s]; exact Or.inl rfl
      · revert hq
        simp (disch := omega) only [zup_cf, zup_s]
        intro hq
        exact absurd hq (Nat.not_lt_zero _)
      · simp (disch := omega) only [zup_cf, zuc_c]
      · simp (disch := omega) only [zup_cf, zuc_c]
      · simp (disch := omega) only [zup_cf, zuc_c]
      · simp (disch := omega) only [zup_cf, zuc_c]
      · simp (disch := omega) only [zup_cf, zuc_c]
      · simp (disch := omega) only [zup_cf, zuc_c]
      · simp (disch := omega) only [zup_cf, zuc_c]
    · have hc := sp_X7_tear (d := 0) (mu := mu) (lm := lm) hk
      rw [if_neg h1, if_neg h1] at hc
      have hm := sp_X8_tear (d := 0) (mu := fndM mu 1) (lm := lm) hk
      rw [fndM_c (by decide) (by decide), e1, if_neg h1, if_neg h1] at hm
      exact zboR (by decide) (by decide) hc hm rfl (h.fnd (by decide))
  · exact zboR (by decide) (by decide) (sp_X7_tear_n (d := 0) hr) (sp_X8_tear_n (d := 0) hr) rfl h
theorem bo_put (h : zInv mu lm) (r i v : Int32) : zBo cX7_put 7 cX8_put 5 [.int r, .int i, .int v] mu lm := by
  by_cases hr : 0 ≤ r ∧ r < 4
  · obtain ⟨k, hk, rfl⟩ := zget hr (M := 4) rfl (by decide)
    have hR := h.ts
    obtain ⟨e1, e2, e3⟩ := zrow_at hR hk
    have hc : ∀ c, 45 < c → (cPut mu (15 + 2 * k) (16 + 2 * k) 60 i v).2 c = mu c := by
      intro c c0
      unfold cPut
      split
      · split
        · exact zup_cf _ _ (by omega)
        · exact fndM_c (by omega) (by omega)
      · exact fndM_c (by omega) (by omega)
    refine zboR (by decide) (by decide) (sp_X7_put (d := 0) hk i v) (sp_X8_put (d := 0) hk (by rw [hc 49 (by decide), e1]; exact e2) i v) ?_ ?_
    · unfold mPut
      rw [hc 49 (by decide), hc 50 (by decide), e1]
      unfold cPut
      simp only [zpl e2 (by decide)]
      by_cases h1 : 0 ≤ mu (15 + 2 * k) 1
      · by_cases h2 : 0 ≤ i ∧ i < mu (15 + 2 * k) 1
        · simp only [if_pos h1, if_pos h2]
          obtain ⟨a, b, b2⟩ := zpl_q e2 (by decide) h2
          rw [e3 _ b]
        · simp only [if_pos h1, if_neg h2]
      · simp only [if_neg h1]
    · unfold mPut
      rw [hc 49 (by decide), hc 50 (by decide), e1]
      unfold cPut
      simp only [zpl e2 (by decide)]
      by_cases h1 : 0 ≤ mu (15 + 2 * k) 1
      · by_cases h2 : 0 ≤ i ∧ i < mu (15 + 2 * k) 1
        · simp only [if_pos h1, if_pos h2]
          obtain ⟨a, b, b2⟩ := zpl_q e2 (by decide) h2
          generalize i.toNatClampNeg = I at a b
          refine h.mk2 (fun c a b => ?_) (fun c a b => ?_) (fun q a => ?_) (h.rs.fr (fun c a b => ?_) ?_ ?_) (iRow.up (k := k) hR (by decide) (fun i hi e => ⟨?_, ?_, fun q hq => ?_, fun q hq => ?_⟩) ⟨?_, ?_, fun q hq => ?_⟩) (h.st.fr ?_ ?_ ?_ (fun k a => ?_))
          · simp (disch := omega) only [zup_cf, zuc_c]
          · simp (disch := omega) only [zup_cf, zuc_c]
          · simp (disch := omega) only [zup_cf, zuc_c]
          · simp (disch := omega) only [zup_cf, zuc_c]
          · simp (disch := omega) only [zup_cf, zuc_c]
          · simp (disch := omega) only [zup_cf, zuc_c]
          · simp (disch := omega) only [zup_cf, zuc_c]
          · simp (disch := omega) only [zup_cf, zuc_c]
          · simp (disch := omega) only [zup_cf, zuc_c, zup_k]
          · simp (disch := omega) only [zup_cf, zuc_c]
          · simp (disch := omega) only [zup_cf, zuc_c]; exact e1
          · simp (disch := omega) only [zup_cf, zuc_c]; exact e2
          · revert hq
            simp (disch := omega) only [zup_cf, zuc_c]
            intro hq
            by_cases e : q = I
            · subst e; rw [zup_s, zup_s]
            · rw [zup_k _ _ _ (by omega), zup_k _ _ _ e]; simp (disch := omega) only [zup_cf]; exact e3 q hq
          · simp (disch := omega) only [zup_cf, zuc_c]
          · simp (disch := omega) only [zup_cf, zuc_c]
          · simp (disch := omega) only [zup_cf, zuc_c]
          · simp (disch := omega) only [zup_cf, zuc_c]
        · simp only [if_pos h1, if_neg h2]
          exact h.fnd (by decide)
      · simp only [if_neg h1]
        exact h.fnd (by decide)
  · exact zboR (by decide) (by decide) (sp_X7_put_n (d := 0) hr i v) (sp_X8_put_n (d := 0) hr i v) rfl h
end M66
