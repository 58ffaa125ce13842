section M69
variable {mu : Mem} {lm : MemL}
theorem cS_frsh : sEq (cS (frshM mu)) (fun _ => 0) := by
  unfold frshM
  refine sEq_mk (fun q hq => ?_) ?_ ?_ ?_ (fun j hj => ?_)
  · rw [cS_a hq]
    unfold zfill
    rw [zuc_s, if_pos hq]
  · rw [cS_8, zfill_c _ _ _ _ (by decide), zfill_c _ _ _ _ (by decide), zup_k _ _ _ (by decide), zup_k _ _ _ (by decide), zup_s]
  · rw [cS_9, zfill_c _ _ _ _ (by decide), zfill_c _ _ _ _ (by decide), zup_k _ _ _ (by decide), zup_s]
  · rw [cS_10, zfill_c _ _ _ _ (by decide), zfill_c _ _ _ _ (by decide), zup_s]
  · rw [cS_t, zfill_c _ _ _ _ (by decide)]
    unfold zfill
    rw [zuc_s, if_pos hj]
theorem cS_rlv {C M : Nat} {D : Nat → Nat × Nat × Nat} (hC : mu 23 5 = nI C) (hC8 : C ≤ 8) (hM6 : M ≤ 6) (h0 : sEq (cS mu) (fun _ => 0)) : ∀ k, (∀ i, i < k → dOk C M (D i).1 (D i).2.1) → sEq (cS (rlv mu C D k)) (rn (mu 24) (mu 25) (mu 23 4) C D k)
  | 0, _ => h0
  | k + 1, h => by
    rw [rlv, rn]
    have g := h k (by omega)
    have e1 := cS_en (mu := rlv mu C D k) (C := C) (w := (D k).1) (o := (D k).2.1) (v := (D k).2.2) (by rw [rlv_k (by decide) (by decide) (by decide)]; exact hC) hC8 (fun q => by have := g.2.1 q; omega) g.2.2
    rw [rlv_c (by decide) (by decide) (by decide), rlv_c (by decide) (by decide) (by decide), rlv_k (by decide) (by decide) (by decide)] at e1
    exact e1.tr (stp_cong hC8 (fun q => ⟨by have := g.2.1 q; show (D k).2.1 < 6; omega, rfl, rfl⟩) (cS_rlv hC hC8 hM6 h0 k (fun i hi => h i (by omega))))
/-- relived: from any memory with the deeds in 29 -/
theorem iDc.relive {C M n : Nat} {D : Nat → Nat × Nat × Nat} (hC : mu 23 5 = nI C) (hC8 : C ≤ 8) (hM6 : M ≤ 6) (hn : mu 28 1 = nI n) (hn4 : n ≤ 40) (hD : dAll mu 29 C M n D) : iDc (rlv (frshM mu) C D n) C M n D := by
  refine ⟨?_, hn4, fun k hk => ?_, ?_⟩
  · rw [rlv_c (by decide) (by decide) (by decide), frshM_c (by decide) (by decide) (by decide)]; exact hn
  · rw [rlv_c (by decide) (by decide) (by decide), frshM_c (by decide) (by decide) (by decide)]; exact hD k hk
  · rw [rlv_c (by decide) (by decide) (by decide), rlv_c (by decide) (by decide) (by decide), rlv_k (by decide) (by decide) (by decide)]
    exact cS_rlv (by rw [frshM_k (by decide) (by decide) (by decide)]; exact hC) hC8 hM6 cS_frsh n (fun i hi => (hD i hi).2.1)
theorem rel_c {C k c : Nat} {D : Nat → Nat × Nat × Nat} (h1 : c ≠ 23) (h2 : c ≠ 26) (h3 : c ≠ 27) : rlv (frshM mu) C D k c = mu c := by rw [rlv_c h1 h2 h3, frshM_c h1 h2 h3]
theorem rel_k {C k j : Nat} {D : Nat → Nat × Nat × Nat} (h1 : j ≠ 7) (h2 : j ≠ 8) (h3 : j ≠ 9) : rlv (frshM mu) C D k 23 j = mu 23 j := by rw [rlv_k h1 h2 h3, frshM_k h1 h2 h3]
theorem brM_at {a i b j n q : Nat} : brM mu a i b j n b (j + q) = if q < n then mu a (i + q) else mu b (j + q) := by
  unfold brM va_cpy
  rw [zuc_s]
  by_cases h : q < n
  · rw [if_pos h, if_pos (by omega), show j + q - j = q by omega]
  · rw [if_neg h, if_neg (by omega)]
theorem bo_undo (h : zInv mu lm) (i : Int32) : zBo cX7_undo 3 cX8_undo 3 [.int i] mu lm := by
  obtain ⟨C, M, n, D, hx, hr, ht, hs⟩ := id h
  have F := hx.fa
  by_cases hb : 0 ≤ i ∧ i ≤ mu 28 1
  · obtain ⟨k, hk, rfl⟩ := zgetl (M := n) (by rw [← F.n1]; exact hb) (by have := F.n4; omega)
    obtain ⟨hA, hc, hm, hkp⟩ := hx
    have hn4 := F.n4
    have e46 : rlv (frshM (zk_up mu 28 1 (nI k))) C D k 46 = mu 46 := by rw [rel_c (by decide) (by decide) (by decide), zup_cf _ _ (by decide)]
    refine zboR (by decide) (by decide) (sp_X7_undo (d := 0) F.C F.C8 F.M F.M6 F.n1 F.n4 D hc.2.2.1 hk) (sp_X8_undo (d := 0) (by rw [e46]; exact F.n1') F.n4 hk) rfl ?_
    have c1 : iDc (rlv (frshM (zk_up mu 28 1 (nI k))) C D k) C M k D := iDc.relive (by rw [zup_cf _ _ (by decide)]; exact F.C) F.C8 F.M6 (zup_s _ _ _ _) (by omega) (fun j hj => by rw [zup_cf _ _ (by decide)]; exact hc.2.2.1 j (by omega))
    have ec : ∀ c, c ≠ 23 → c ≠ 26 → c ≠ 27 → c ≠ 28 → rlv (frshM (zk_up mu 28 1 (nI k))) C D k c = mu c := fun c a b d e => by rw [rel_c a b d, zup_cf _ _ e]
    have ek : ∀ j, j ≠ 7 → j ≠ 8 → j ≠ 9 → rlv (frshM (zk_up mu 28 1 (nI k))) C D k 23 j = mu 23 j := fun j a b d => by rw [rel_k a b d, zup_cf _ _ (by decide)]
    generalize rlv (frshM (zk_up mu 28 1 (nI k))) C D k = m1 at c1 ec ek e46
    have e2 : ∀ c, c ≠ 46 → c ≠ 55 → zk_up (if k < n then brM m1 57 (17 * k) 55 0 17 else m1) 46 24 (nI k) c = m1 c := by
      intro c a b
      rw [zup_cf _ _ a]
      split
      · exact brM_c b
      · rfl
    have e2k : ∀ j, j ≠ 24 → zk_up (if k < n then brM m1 57 (17 * k) 55 0 17 else m1) 46 24 (nI k) 46 j = mu 46 j := by
      intro j a
      rw [zup_k _ _ _ a]
      split
      · rw [brM_c (by decide), e46]
      · rw [e46]
    have e55 : sEq (zk_up (if k < n then brM m1 57 (17 * k) 55 0 17 else m1) 46 24 (nI k) 55) (rn (mu 24) (mu 25) (mu 23 4) C D k) := by
      rw [zup_cf _ _ (by decide)]
      intro q hq
      by_cases g : k < n
      · rw [if_pos g]
        have := brM_at (mu := m1) (a := 57) (i := 17 * k) (b := 55) (j := 0) (n := 17) (q := q)
        rw [Nat.zero_add, if_pos hq] at this
        rw [this, ec 57 (by decide) (by decide) (by decide) (by decide)]
        exact hm.2.2 k g q hq
      · rw [if_neg g, ec 55 (by decide) (by decide) (by decide) (by decide), show k = n by omega]
        exact hm.2.1 q hq
    have e24' : zk_up (if k < n then brM m1 57 (17 * k) 55 0 17 else m1) 46 24 (nI k) 46 24 = nI k := zup_s _ _ _ _
    generalize zk_up (if k < n then brM m1 57 (17 * k) 55 0 17 else m1) 46 24 (nI k) = m2 at e2 e2k e55 e24'
    have e3 : ∀ c, c ≠ 46 → c ≠ 55 → c ≠ 23 → c ≠ 26 → c ≠ 27 → c ≠ 28 → m2 c = mu c := fun c a b d e f g => by rw [e2 c a b, ec c d e f g]
    have e24 : m2 24 = mu 24 := e3 24 (by decide) (by decide) (by decide) (by decide) (by decide) (by decide)
    have e25 : m2 25 = mu 25 := e3 25 (by decide) (by decide) (by decide) (by decide) (by decide) (by decide)
    have e234 : m2 23 4 = mu 23 4 := by rw [e2 23 (by decide) (by decide), ek 4 (by decide) (by decide) (by decide)]
    refine ⟨C, M, k, D, ⟨hA.fr e234 ?_ ?_ e24 e25 (fun j a b => e2k j (by omega)) ?_ ?_, c1.fr (e2 23 (by decide) (by decide)) (e2 24 (by decide) (by decide)) (e2 25 (by decide) (by decide)) (e2 26 (by decide) (by decide)) (e2 27 (by decide) (by decide)) (e2 28 (by decide) (by decide)) (e2 29 (by decide) (by decide)), ?_, ?_⟩, hr.fr (fun c a b => e3 c (by omega) (by omega) (by omega) (by omega) (by omega) (by omega)) ?_ ?_, ht.fr (fun c a b => e3 c (by omega) (by omega) (by omega) (by omega) (by omega) (by omega)) ?_ ?_, hs.fr ?_ ?_ ?_ (fun j hj => e2k j (by omega))⟩
    · rw [e2 23 (by decide) (by decide), ek 5 (by decide) (by decide) (by decide)]
    · rw [e2 23 (by decide) (by decide), ek 6 (by decide) (by decide) (by decide)]
    · exact e3 53 (by decide) (by decide) (by decide) (by decide) (by decide) (by decide)
    · exact e3 54 (by decide) (by decide) (by decide) (by decide) (by decide) (by decide)
    · rw [e24, e25, e234]
      exact ⟨e24', e55, fun j hj => by rw [e3 57 (by decide) (by decide) (by decide) (by decide) (by decide) (by decide)]; exact hm.2.2 j (by omega)⟩
    · rw [e24, e25, e234]
      exact hkp.fr (fun c a b => e3 c (by omega) (by omega) (by omega) (by omega) (by omega) (by omega)) (e3 58 (by decide) (by decide) (by decide) (by decide) (by decide) (by decide)) (e3 59 (by decide) (by decide) (by decide) (by decide) (by decide) (by decide)) (e3 60 (by decide) (by decide) (by decide) (by decide) (by decide) (by decide))
    · exact e3 47 (by decide) (by decide) (by decide) (by decide) (by decide) (by decide)
    · exact e3 48 (by decide) (by decide) (by decide) (by decide) (by decide) (by decide)
    · exact e3 49 (by decide) (by decide) (by decide) (by decide) (by decide) (by decide)
    · exact e3 50 (by decide) (by decide) (by decide) (by decide) (by decide) (by decide)
    · exact e3 0 (by decide) (by decide) (by decide) (by decide) (by decide) (by decide)
    · exact e3 45 (by decide) (by decide) (by decide) (by decide) (by decide) (by decide)
    · exact e3 51 (by decide) (by decide) (by decide) (by decide) (by decide) (by decide)
  · exact zboR (by decide) (by decide) (sp_X7_undo_n (d := 0) i hb) (sp_X8_undo_n (d := 0) i (by rw [F.n1', ← F.n1]; exact hb)) rfl h
theorem bo_keep (h : zInv mu lm) (i : Int32) : zBo cX7_keep 2 cX8_keep 2 [.int i] mu lm := by
  obtain ⟨C, M, n, D, hx, hr, ht, hs⟩ := id h
  have F := hx.fa
  by_cases hb : 0 ≤ i ∧ i ≤ 2
  · obtain ⟨k, hk, rfl⟩ := zgetl (M := 2) hb (by decide)
    have hk3 : k < 3 := by omega
    by_cases hM0 : M = 0
    · have hc := sp_X7_keep (d := 0) (mu := mu) (lm := lm) F.C F.C8 F.M F.M6 hk3
      have hm := sp_X8_keep (d := 0) (mu := mu) (lm := lm) F.C' F.C8 F.M' F.M6 hk3
      rw [if_pos hM0, if_pos hM0] at hc hm
      exact zboR (by decide) (by decide) hc hm rfl h
    · have hc := sp_X7_keep (d := 0) (mu := mu) (lm := lm) F.C F.C8 F.M F.M6 hk3
      rw [if_neg hM0, if_neg hM0] at hc
      have e1 : ∀ c, c ≠ 31 + 2 * k → c ≠ 32 + 2 * k → zk_up (zcp mu (32 + 2 * k) 29 40) (31 + 2 * k) 1 (mu 28 1) c = mu c := fun c a b => by rw [zup_cf _ _ a]; unfold zcp; rw [zuc_c _ _ b]
      have e31 : zk_up (zcp mu (32 + 2 * k) 29 40) (31 + 2 * k) 1 (mu 28 1) (31 + 2 * k) 1 = mu 28 1 := zup_s _ _ _ _
      have e32 : ∀ q, q < 40 → zk_up (zcp mu (32 + 2 * k) 29 40) (31 + 2 * k) 1 (mu 28 1) (32 + 2 * k) q = mu 29 q := fun q hq => by rw [zup_cf _ _ (by omega)]; unfold zcp; rw [zuc_s, if_pos hq]
      generalize zk_up (zcp mu (32 + 2 * k) 29 40) (31 + 2 * k) 1 (mu 28 1) = m1 at e1 e31 e32 hc
      have hm := sp_X8_keep (d := 0) (mu := m1) (lm := lm) (C := C) (M := M) (by rw [e1 46 (by omega) (by omega)]; exact F.C') F.C8 (by rw [e1 46 (by omega) (by omega)]; exact F.M') F.M6 hk3
      rw [if_neg hM0, if_neg hM0] at hm
      refine zboR (by decide) (by decide) hc hm (by rw [e1 46 (by omega) (by omega), F.n1', F.n1]) ?_
      have e2 : ∀ c, c ≠ 58 → c ≠ 59 → c ≠ 60 → kpD m1 k c = m1 c := fun c a b d => by unfold kpD; rw [zup_cf _ _ d, brM_c b, brM_c a]
      have e60 : ∀ j, kpD m1 k 60 j = if j = k then nI n else mu 60 j := by
        intro j
        unfold kpD
        by_cases e : j = k
        · subst e; rw [zup_s, if_pos rfl, e1 46 (by omega) (by omega), F.n1']
        · rw [zup_k _ _ _ e, if_neg e, brM_c (by decide), brM_c (by decide), e1 60 (by omega) (by omega)]
      have e58 : ∀ j q, j < 3 → q < 17 → kpD m1 k 58 (17 * j + q) = if j = k then mu 55 q else mu 58 (17 * j + q) := by
        intro j q hj hq
        unfold kpD
        rw [zup_cf _ _ (by decide), brM_c (by decide)]
        unfold brM va_cpy
        rw [zuc_s, e1 55 (by omega) (by omega), e1 58 (by omega) (by omega)]
        by_cases e : j = k
        · subst e; rw [if_pos (by omega), if_pos rfl, show 0 + (17 * j + q - 17 * j) = q by omega]
        · rw [if_neg (by omega), if_neg e]
      have e59 : ∀ j q, j < 3 → q < 680 → kpD m1 k 59 (680 * j + q) = if j = k then mu 57 q else mu 59 (680 * j + q) := by
        intro j q hj hq
        unfold kpD
        rw [zup_cf _ _ (by decide)]
        unfold brM va_cpy
        rw [zuc_s, zuc_c _ _ (by decide), zuc_c _ _ (by decide), e1 57 (by omega) (by omega), e1 59 (by omega) (by omega)]
        by_cases e : j = k
        · subst e; rw [if_pos (by omega), if_pos rfl, show 0 + (680 * j + q - 680 * j) = q by omega]
        · rw [if_neg (by omega), if_neg e]
      generalize kpD m1 k = m2 at e2 e60 e58 e59
      have e3 : ∀ c, c ≠ 58 → c ≠ 59 → c ≠ 60 → c ≠ 31 + 2 * k → c ≠ 32 + 2 * k → m2 c = mu c := fun c a b d e f => by rw [e2 c a b d, e1 c e f]
      have e4 : ∀ c, c < 31 → m2 c = mu c := fun c a => e3 c (by omega) (by omega) (by omega) (by omega) (by omega)
      have e5 : ∀ c, 36 < c → c < 58 → m2 c = mu c := fun c a b => e3 c (by omega) (by omega) (by omega) (by omega) (by omega)
      obtain ⟨hA, hc', hm', hkp⟩ := hx
      refine ⟨C, M, n, D, ⟨hA.fr (by rw [e4 23 (by decide)]) (by rw [e4 23 (by decide)]) (by rw [e4 23 (by decide)]) (e4 24 (by decide)) (e4 25 (by decide)) (fun j _ _ => by rw [e5 46 (by decide) (by decide)]) (e5 53 (by decide) (by decide)) (e5 54 (by decide) (by decide)), hc'.fr (e4 23 (by decide)) (e4 24 (by decide)) (e4 25 (by decide)) (e4 26 (by decide)) (e4 27 (by decide)) (e4 28 (by decide)) (e4 29 (by decide)), ?_, ?_⟩, hr.fr (fun c a b => e4 c (by omega)) (e5 47 (by decide) (by decide)) (e5 48 (by decide) (by decide)), ht.fr (fun c a b => e4 c (by omega)) (e5 49 (by decide) (by decide)) (e5 50 (by decide) (by decide)), hs.fr (e4 0 (by decide)) (e5 45 (by decide) (by decide)) (e5 51 (by decide) (by decide)) (fun j hj => by rw [e5 46 (by decide) (by decide)])⟩
      · rw [e4 23 (by decide), e4 24 (by decide), e4 25 (by decide)]
        exact hm'.fr (by rw [e5 46 (by decide) (by decide)]) (e5 55 (by decide) (by decide)) (e5 57 (by decide) (by decide))
      · rw [e4 23 (by decide), e4 24 (by decide), e4 25 (by decide)]
        intro j hj
        by_cases e : j = k
        · subst e
          refine ⟨?_, Or.inr ⟨n, D, F.n4, ?_, fun q hq => ?_, fun q hq => ?_, fun a ha q hq => ?_⟩⟩
          · rw [e60, if_pos rfl, e2 _ (by omega) (by omega) (by omega), e31, F.n1]
          · rw [e2 _ (by omega) (by omega) (by omega), e31, F.n1]
          · have := F.n4
            rw [e2 _ (by omega) (by omega) (by omega), e32 q (by omega)]
            exact hc'.2.2.1 q hq
          · show m2 58 (17 * j + q) = _
            rw [e58 j q hj hq, if_pos rfl]
            exact hm'.2.1 q hq
          · have := F.n4
            show m2 59 (680 * j + (17 * a + q)) = _
            rw [e59 j _ hj (by omega), if_pos rfl]
            exact hm'.2.2 a ha q hq
        · obtain ⟨g1, g2⟩ := hkp j hj
          refine ⟨?_, ?_⟩
          · rw [e60, if_neg e, e3 _ (by omega) (by omega) (by omega) (by omega) (by omega)]
            exact g1
          · rw [e3 (31 + 2 * j) (by omega) (by omega) (by omega) (by omega) (by omega)]
            rcases g2 with g2 | ⟨n', D', f1, f2, f3, f4, f5⟩
            · exact Or.inl g2
            · refine Or.inr ⟨n', D', f1, f2, fun q hq => ?_, fun q hq => ?_, fun a ha q hq => ?_⟩
              · rw [e3 _ (by omega) (by omega) (by omega) (by omega) (by omega)]
                exact f3 q hq
              · show m2 58 (17 * j + q) = _
                rw [e58 j q hj hq, if_neg e]
                exact f4 q hq
              · show m2 59 (680 * j + (17 * a + q)) = _
                rw [e59 j _ hj (by omega), if_neg e]
                exact f5 a ha q hq
  · exact zboR (by decide) (by decide) (sp_X7_keep_n (d := 0) i hb) (sp_X8_keep_n (d := 0) i hb) rfl h
theorem bo_on (h : zInv mu lm) (i : Int32) : zBo cX7_on 2 cX8_on 2 [.int i] mu lm := by
  obtain ⟨C, M, n0, D0, hx, hr, ht, hs⟩ := id h
  have F := hx.fa
  by_cases hb : 0 ≤ i ∧ i ≤ 2
  · obtain ⟨k, hk, rfl⟩ := zgetl (M := 2) hb (by decide)
    have hk3 : k < 3 := by omega
    obtain ⟨hA, hc', hm', hkp⟩ := hx
    obtain ⟨g1, g2⟩ := hkp k hk3
    rcases g2 with g2 | ⟨n, D, f1, f2, f3, f4, f5⟩
    · exact zboR (by decide) (by decide) (sp_X7_on_1 (d := 0) hk3 g2) (sp_X8_on_1 (d := 0) hk3 (by rw [fndM_c (by decide) (by decide), g1, g2]; decide)) rfl (h.fnd (by decide))
    · have hc := sp_X7_on (d := 0) (mu := mu) (lm := lm) F.C F.C8 F.M F.M6 hk3 f2 f1 D f3
      have c1 : iDc (rlv (frshM (zk_up (zcp mu 29 (32 + 2 * k) 40) 28 1 (nI n))) C D n) C M n D := by
        refine iDc.relive ?_ F.C8 F.M6 (zup_s _ _ _ _) f1 (fun q hq => ?_)
        · rw [zup_cf _ _ (by decide)]; unfold zcp; rw [zuc_c _ _ (by decide)]; exact F.C
        · rw [zup_cf _ _ (by decide)]; unfold zcp; rw [zuc_s, if_pos (by omega)]; exact f3 q hq
      have ec : ∀ c, c ≠ 23 → c ≠ 26 → c ≠ 27 → c ≠ 28 → c ≠ 29 → rlv (frshM (zk_up (zcp mu 29 (32 + 2 * k) 40) 28 1 (nI n))) C D n c = mu c := fun c a b d e f => by rw [rel_c a b d, zup_cf _ _ e]; unfold zcp; rw [zuc_c _ _ f]
      have ek : ∀ j, j ≠ 7 → j ≠ 8 → j ≠ 9 → rlv (frshM (zk_up (zcp mu 29 (32 + 2 * k) 40) 28 1 (nI n))) C D n 23 j = mu 23 j := fun j a b d => by rw [rel_k a b d, zup_cf _ _ (by decide)]; unfold zcp; rw [zuc_c _ _ (by decide)]
      generalize rlv (frshM (zk_up (zcp mu 29 (32 + 2 * k) 40) 28 1 (nI n))) C D n = m1 at hc c1 ec ek
      have e60 : m1 60 k = nI n := by rw [ec 60 (by decide) (by decide) (by decide) (by decide) (by decide), g1, f2]
      refine zboR (by decide) (by decide) hc (sp_X8_on (d := 0) hk3 (by rw [e60]; exact nI_pos (by omega))) e60 ?_
      have e2 : ∀ c, c ≠ 46 → c ≠ 55 → c ≠ 57 → onD m1 k c = m1 c := fun c a b d => by unfold onD; rw [zup_cf _ _ a, brM_c d, brM_c b]
      have e2k : ∀ j, j ≠ 24 → onD m1 k 46 j = mu 46 j := fun j a => by unfold onD; rw [zup_k _ _ _ a, brM_c (by decide), brM_c (by decide), ec 46 (by decide) (by decide) (by decide) (by decide) (by decide)]
      have e24' : onD m1 k 46 24 = nI n := by unfold onD; rw [zup_s]; exact e60
      have e55 : ∀ q, q < 17 → onD m1 k 55 q = mu 58 (17 * k + q) := by
        intro q hq
        unfold onD
        rw [zup_cf _ _ (by decide), brM_c (by decide)]
        have := brM_at (mu := m1) (a := 58) (i := 17 * k) (b := 55) (j := 0) (n := 17) (q := q)
        rw [Nat.zero_add, if_pos hq] at this
        rw [this, ec 58 (by decide) (by decide) (by decide) (by decide) (by decide)]
      have e57 : ∀ q, q < 680 → onD m1 k 57 q = mu 59 (680 * k + q) := by
        intro q hq
        unfold onD
        rw [zup_cf _ _ (by decide)]
        have := brM_at (mu := brM m1 58 (17 * k) 55 0 17) (a := 59) (i := 680 * k) (b := 57) (j := 0) (n := 680) (q := q)
        rw [Nat.zero_add, if_pos hq] at this
        rw [this, brM_c (by decide), ec 59 (by decide) (by decide) (by decide) (by decide) (by decide)]
      generalize onD m1 k = m2 at e2 e2k e24' e55 e57
      have e3 : ∀ c, c ≠ 46 → c ≠ 55 → c ≠ 57 → c ≠ 23 → c ≠ 26 → c ≠ 27 → c ≠ 28 → c ≠ 29 → m2 c = mu c := fun c a b d e f g x y => by rw [e2 c a b d, ec c e f g x y]
      have e4 : ∀ c, c < 23 ∨ c = 24 ∨ c = 25 ∨ (29 < c ∧ c < 46) ∨ (46 < c ∧ c < 55) ∨ c = 58 ∨ c = 59 ∨ c = 60 → m2 c = mu c := fun c a => e3 c (by omega) (by omega) (by omega) (by omega) (by omega) (by omega) (by omega) (by omega)
      have e234 : m2 23 4 = mu 23 4 := by rw [e2 23 (by decide) (by decide) (by decide), ek 4 (by decide) (by decide) (by decide)]
      refine ⟨C, M, n, D, ⟨hA.fr e234 (by rw [e2 23 (by decide) (by decide) (by decide), ek 5 (by decide) (by decide) (by decide)]) (by rw [e2 23 (by decide) (by decide) (by decide), ek 6 (by decide) (by decide) (by decide)]) (e4 24 (by omega)) (e4 25 (by omega)) (fun j _ _ => e2k j (by omega)) (e4 53 (by omega)) (e4 54 (by omega)), c1.fr (e2 23 (by decide) (by decide) (by decide)) (e2 24 (by decide) (by decide) (by decide)) (e2 25 (by decide) (by decide) (by decide)) (e2 26 (by decide) (by decide) (by decide)) (e2 27 (by decide) (by decide) (by decide)) (e2 28 (by decide) (by decide) (by decide)) (e2 29 (by decide) (by decide) (by decide)), ?_, ?_⟩, hr.fr (fun c a b => e4 c (by omega)) (e4 47 (by omega)) (e4 48 (by omega)), ht.fr (fun c a b => e4 c (by omega)) (e4 49 (by omega)) (e4 50 (by omega)), hs.fr (e4 0 (by omega)) (e4 45 (by omega)) (e4 51 (by omega)) (fun j hj => e2k j (by omega))⟩
      · rw [e234, e4 24 (by omega), e4 25 (by omega)]
        refine ⟨e24', fun q hq => by rw [e55 q hq]; exact f4 q hq, fun a ha q hq => ?_⟩
        show m2 57 (17 * a + q) = _
        rw [e57 _ (by omega)]
        exact f5 a ha q hq
      · rw [e234, e4 24 (by omega), e4 25 (by omega)]
        exact hkp.fr (fun c a b => e4 c (by omega)) (e4 58 (by omega)) (e4 59 (by omega)) (e4 60 (by omega))
  · exact zboR (by decide) (by decide) (sp_X7_on_n (d := 0) i hb) (sp_X8_on_n (d := 0) i hb) rfl h
/-! lots -/
def dLt (D : Nat → Nat × Nat × Nat) (C M n S : Nat) : Nat → Nat × Nat × Nat := fun k => if k < n then D k else lotD (lotN S (k - n + 1)) C M
theorem dLt_hi {D : Nat → Nat × Nat × Nat} {C M n S k : Nat} : dLt D C M n S (n + k) = lotD (lotN S (k + 1)) C M := by
  unfold dLt
  rw [if_neg (by omega), show n + k - n + 1 = k + 1 by omega]
theorem lotD_gd {L C M : Nat} (hC : 0 < C) (hC8 : C ≤ 8) (hM : 0 < M) (hM6 : M ≤ 6) : dGd C M (lotD L C M) := by
  unfold lotD
  have h1 := Nat.mod_lt L hC
  have h2 := Nat.mod_lt L hM
  have h3 := Nat.mod_lt (L / 64) (show 0 < 100 by decide)
  split
  · exact ⟨⟨show 1 < 4 by decide, fun q => absurd (show 1 = 0 from q) (by decide), fun q => absurd (show 1 = 2 from q) (by decide)⟩, show 0 < 8 by decide, show 0 < 100 by decide⟩
  · split
    · exact ⟨⟨show 2 < 4 by decide, fun q => absurd (show 2 = 0 from q) (by decide), fun _ => h1⟩, by show L % C < 8; omega, show 0 < 100 by decide⟩
    · split
      · exact ⟨⟨show 3 < 4 by decide, fun q => absurd (show 3 = 0 from q) (by decide), fun q => absurd (show 3 = 2 from q) (by decide)⟩, show 0 < 8 by decide, show 0 < 100 by decide⟩
      · exact ⟨⟨show 0 < 4 by decide, fun _ => h2, fun q => absurd (show 0 = 2 from q) (by decide)⟩, by show L % M < 8; omega, h3⟩
theorem ltM_run {D : Nat → Nat × Nat × Nat} {C M n S : Nat} : ∀ k, ltM mu C M n S k = cRun mu C n (dLt D C M n S) k
  | 0 => rfl
  | k + 1 => by rw [ltM, cRun, dLt_hi, ltM_run (D := D) k]
theorem ltD_run {D : Nat → Nat × Nat × Nat} {C M n S : Nat} : ∀ k, ltD mu C M n S k = mRun mu C n (dLt D C M n S) k
  | 0 => rfl
  | k + 1 => by rw [ltD, mRun, dLt_hi, ltD_run (D := D) k]
theorem bo_lots (h : zInv mu lm) (m s : Int32) : zBo cX7_lots 5 cX8_lots 7 [.int m, .int s] mu lm := by
  obtain ⟨C, M, n, D, hx, hr, ht, hs⟩ := id h
  have F := hx.fa
  by_cases hb : (1 ≤ m ∧ m ≤ 20) ∧ (1 ≤ s ∧ s ≤ 2147483646)
  · by_cases hM : mu 23 6 = 0
    · exact zboR (by decide) (by decide) (sp_X7_lots_0 (d := 0) hb hM) (sp_X8_lots_0 (d := 0) hb (by rw [F.c4]; exact hM)) rfl h
    · have pos : ∀ x : Int32, 1 ≤ x → 0 ≤ x := fun x hx => by
        simp only [zle] at *
        have e : (1 : Int32).toInt = 1 := by decide
        have e0 : (0 : Int32).toInt = 0 := by decide
        omega
      obtain ⟨N, hN, rfl⟩ := zgetl (M := 20) (i := m) ⟨pos _ hb.1.1, hb.1.2⟩ (by decide)
      obtain ⟨S, hS, rfl⟩ := zgetl (M := 2147483646) (i := s) ⟨pos _ hb.2.1, hb.2.2⟩ (by decide)
      have hN1 : 1 ≤ N := by
        have := hb.1.1
        rw [show (1 : Int32) = nI 1 from rfl, nIle (by decide) (by omega)] at this
        exact this
      have hS1 : 1 ≤ S := by
        have := hb.2.1
        rw [show (1 : Int32) = nI 1 from rfl, nIle (by decide) (by omega)] at this
        exact this
      have hM0 : 0 < M := by
        apply Nat.pos_of_ne_zero
        intro q
        apply hM
        rw [F.M, q]; rfl
      have hC3 := F.C3 hM0
      have hn4 := F.n4
      by_cases hf : mu 28 1 + nI N ≤ 40
      · have hnN : n + N ≤ 40 := by
          rw [F.n1, nI_add, show (40 : Int32) = nI 40 from rfl, nIle (by omega) (by decide)] at hf
          exact hf
        have hc := sp_X7_lots (d := 0) (mu := mu) (lm := lm) F.C F.C8 F.M F.M6 (by omega) hM0 F.n1 hN1 hN hnN hS1 hS
        rw [ltM_run (D := D) N] at hc
        have hi : ∀ c, 45 < c → cRun mu C n (dLt D C M n S) N c = mu c := fun c hc => cRun_c (by omega) (by omega) (by omega) (by omega) (by omega) N
        have G := F.mm hi
        have hm := sp_X8_lots (d := 0) (lm := lm) G.1.1 F.C8 G.1.2.1 F.M6 G.2.1 G.2.2.1 hC3 hM0 G.2.2.2 G.1.2.2 hN1 hN hnN hS1 hS
        rw [ltD_run (D := D) N] at hm
        have hgd : ∀ k, k < N → dGd C M (dLt D C M n S (n + k)) := fun k _ => by rw [dLt_hi]; exact lotD_gd (by omega) F.C8 hM0 F.M6
        have hx' : iX mu C M n (dLt D C M n S) := hx.cg (fun k hk => by unfold dLt; rw [if_pos hk])
        have hx2 := hx'.run hnN hgd
        refine zboR (by decide) (by decide) hc hm ?_ (zInv.run hx' hr ht hs hnN hgd)
        rw [hx2.fa.sum, mRun_c (by decide) (by decide) (by decide)]
      · exact zboR (by decide) (by decide) (sp_X7_lots_f (d := 0) hb hM hf) (sp_X8_lots_f (d := 0) hb (by rw [F.c4]; exact hM) (by rw [F.n1', ← F.n1]; exact hf)) rfl h
  · exact zboR (by decide) (by decide) (sp_X7_lots_n (d := 0) m s hb) (sp_X8_lots_n (d := 0) m s hb) rfl h
end M69
