section M67
variable {mu : Mem} {lm : MemL}
/-- the facts that most calls need -/
def zF (mu : Mem) (C M n : Nat) : Prop := iA mu C M ∧ (mu 28 1 = nI n ∧ mu 46 24 = nI n ∧ n ≤ 40) ∧ (∀ q, q < C → 0 ≤ mu 55 q ∧ mu 55 q ≤ 999) ∧ sEq (mu 55) (cS mu) ∧ ∀ k, k < 3 → mu 60 k = mu (31 + 2 * k) 1 ∧ zSz (mu (31 + 2 * k) 1) 40
theorem iX.fa {C M n : Nat} {D : Nat → Nat × Nat × Nat} (h : iX mu C M n D) : zF mu C M n := by
  obtain ⟨hA, ⟨c1, c2, c3, c4⟩, ⟨m1, m2, m3⟩, hk⟩ := h
  obtain ⟨a1, a2, a3, a4, a5, a6, a7, a8, a9, a10, a11⟩ := id hA
  refine ⟨hA, ⟨c1, m1, c2⟩, fun q hq => ?_, m2.tr c4.sy, fun k hk' => ⟨(hk k hk').1, ?_⟩⟩
  · rw [m2 q (by omega)]
    exact rn_ok a5 a10 (fun k hk => (c3 k hk).2.2.2) q hq
  · rcases (hk k hk').2 with h1 | ⟨n', D', h1, h2, -⟩
    · exact Or.inl h1
    · exact Or.inr ⟨n', h1, h2⟩
theorem zInv.fa (h : zInv mu lm) : ∃ C M n, zF mu C M n := by
  obtain ⟨C, M, n, D, hx, -⟩ := h
  exact ⟨C, M, n, hx.fa⟩
theorem zF.sm {mu mu' : Mem} {C M n : Nat} (h : zF mu C M n) (hs : zSm mu mu') : zF mu' C M n := by
  have e : ∀ c, 22 < c → c ≤ 36 → mu' c = mu c := fun c a b => hs.1 c (by omega) b
  have e2 : ∀ c, 52 < c → c ≠ 56 → mu' c = mu c := fun c a b => hs.2.1 c (by omega) (by omega) (by omega) b
  have ecS : cS mu' = cS mu := by unfold cS; rw [e 23 (by decide) (by decide), e 26 (by decide) (by decide), e 27 (by decide) (by decide)]
  obtain ⟨h1, h2, h3, h4, h5⟩ := h
  refine ⟨?_, ?_, ?_, ?_, fun k hk => ?_⟩
  · unfold iA at h1 ⊢
    rw [e 23 (by decide) (by decide), e 24 (by decide) (by decide), e 25 (by decide) (by decide), e2 53 (by decide) (by decide), e2 54 (by decide) (by decide), hs.2.2 16 (by decide), hs.2.2 17 (by decide), hs.2.2 18 (by decide)]
    exact h1
  · rw [e 28 (by decide) (by decide), hs.2.2 24 (by decide)]; exact h2
  · rw [e2 55 (by decide) (by decide)]; exact h3
  · rw [e2 55 (by decide) (by decide), ecS]; exact h4
  · rw [e2 60 (by decide) (by decide), e (31 + 2 * k) (by omega) (by omega)]; exact h5 k hk
theorem zF.C {C M n : Nat} (h : zF mu C M n) : mu 23 5 = nI C := h.1.1
theorem zF.C' {C M n : Nat} (h : zF mu C M n) : mu 46 17 = nI C := h.1.2.1
theorem zF.M {C M n : Nat} (h : zF mu C M n) : mu 23 6 = nI M := h.1.2.2.1
theorem zF.M' {C M n : Nat} (h : zF mu C M n) : mu 46 18 = nI M := h.1.2.2.2.1
theorem zF.C8 {C M n : Nat} (h : zF mu C M n) : C ≤ 8 := h.1.2.2.2.2.1
theorem zF.M6 {C M n : Nat} (h : zF mu C M n) : M ≤ 6 := h.1.2.2.2.2.2.1
theorem zF.C3 {C M n : Nat} (h : zF mu C M n) : 0 < M → 3 ≤ C := h.1.2.2.2.2.2.2.1
theorem zF.C0 {C M n : Nat} (h : zF mu C M n) : M = 0 → C = 0 := h.1.2.2.2.2.2.2.2.1
theorem zF.lk {C M n : Nat} (h : zF mu C M n) : mu 46 16 = mu 23 4 := h.1.2.2.2.2.2.2.2.2.1
theorem zF.L {C M n : Nat} (h : zF mu C M n) : 0 ≤ mu 23 4 ∧ mu 23 4 ≤ 9 := h.1.2.2.2.2.2.2.2.2.2.1
theorem zF.L' {C M n : Nat} (h : zF mu C M n) : 0 ≤ mu 46 16 ∧ mu 46 16 ≤ 9 := by rw [h.lk]; exact h.L
theorem zF.kd {C M n j : Nat} (h : zF mu C M n) (hj : j < M) : mu 53 j = mu 24 j := (h.1.2.2.2.2.2.2.2.2.2.2 j hj).1
theorem zF.se {C M n j : Nat} (h : zF mu C M n) (hj : j < M) : mu 54 j = mu 25 j := (h.1.2.2.2.2.2.2.2.2.2.2 j hj).2.1
theorem zF.S {C M n : Nat} (h : zF mu C M n) : ∀ j, j < M → ∃ q, q < C ∧ mu 25 j = nI q := fun j hj => (h.1.2.2.2.2.2.2.2.2.2.2 j hj).2.2
theorem zF.S' {C M n : Nat} (h : zF mu C M n) : ∀ j, j < M → ∃ q, q < C ∧ mu 54 j = nI q := fun j hj => by rw [h.se hj]; exact h.S j hj
theorem zF.n1 {C M n : Nat} (h : zF mu C M n) : mu 28 1 = nI n := h.2.1.1
theorem zF.n1' {C M n : Nat} (h : zF mu C M n) : mu 46 24 = nI n := h.2.1.2.1
theorem zF.n4 {C M n : Nat} (h : zF mu C M n) : n ≤ 40 := h.2.1.2.2
theorem zF.A {C M n : Nat} (h : zF mu C M n) : ∀ q, q < C → 0 ≤ mu 55 q ∧ mu 55 q ≤ 999 := h.2.2.1
theorem zF.air {C M n q : Nat} (h : zF mu C M n) (hq : q < C) : mu 55 q = mu 27 q := by rw [h.2.2.2.1 q (by have := h.C8; omega), cS_a (by have := h.C8; omega)]
theorem zF.tk {C M n j : Nat} (h : zF mu C M n) (hj : j < 6) : mu 55 (11 + j) = mu 26 j := by rw [h.2.2.2.1 _ (by omega), cS_t]
theorem zF.hr {C M n : Nat} (h : zF mu C M n) : mu 55 8 = mu 23 7 := h.2.2.2.1 8 (by decide)
theorem zF.hd {C M n : Nat} (h : zF mu C M n) : mu 55 9 = mu 23 8 := h.2.2.2.1 9 (by decide)
theorem zF.sd {C M n : Nat} (h : zF mu C M n) : mu 55 10 = mu 23 9 := h.2.2.2.1 10 (by decide)
theorem zF.kp {C M n : Nat} (h : zF mu C M n) : ∀ k, k < 3 → mu 60 k = mu (31 + 2 * k) 1 ∧ zSz (mu (31 + 2 * k) 1) 40 := h.2.2.2.2
theorem zF.Cs {C M n : Nat} (h : zF mu C M n) : C < 2147483648 := by have := h.C8; omega
theorem zF.Ms {C M n : Nat} (h : zF mu C M n) : M < 2147483648 := by have := h.M6; omega
theorem zF.c4 {C M n : Nat} (h : zF mu C M n) : mu 46 18 = mu 23 6 := by rw [h.M, h.M']
theorem zF.c5 {C M n : Nat} (h : zF mu C M n) : mu 46 17 = mu 23 5 := by rw [h.C, h.C']
/-! ===== calls that only tell ===== -/
theorem bo_asked (h : zInv mu lm) : zBo cX7_asked 1 cX8_asked 1 [] mu lm := zboR (by decide) (by decide) (sp_X7_asked (d := 0)) (sp_X8_asked (d := 0)) h.st.1 h
theorem bo_finding (h : zInv mu lm) : zBo cX7_finding 1 cX8_finding 1 [] mu lm := zboR (by decide) (by decide) (sp_X7_finding (d := 0)) (sp_X8_finding (d := 0)) h.st.2.2.2.1 h
theorem bo_upper (h : zInv mu lm) : zBoL cX7_upper 1 cX8_upper 1 [] mu lm := zboL (by decide) (by decide) (sp_X7_upper (d := 0)) (sp_X8_upper (d := 0)) h.st.2.1 h
theorem bo_lower (h : zInv mu lm) : zBoL cX7_lower 1 cX8_lower 1 [] mu lm := zboL (by decide) (by decide) (sp_X7_lower (d := 0)) (sp_X8_lower (d := 0)) h.st.2.2.1 h
theorem bo_findings (h : zInv mu lm) (f : Int32) : zBo cX7_findings 2 cX8_findings 2 [.int f] mu lm := by
  refine zboR (by decide) (by decide) (sp_X7_findings (d := 0) f) (sp_X8_findings (d := 0) f) ?_ h
  by_cases hf : 1 ≤ f ∧ f ≤ 5
  · rw [if_pos hf, if_pos hf]
    obtain ⟨j, hj, rfl⟩ := zgetl (M := 5) (i := f) ⟨by have := hf.1; simp only [zle] at *; have e : (1 : Int32).toInt = 1 := by decide
                                                       have e0 : (0 : Int32).toInt = 0 := by decide
                                                       omega, hf.2⟩ (by decide)
    rw [nI_clamp (by omega)]
    exact h.st.2.2.2.2 j (by omega)
  · rw [if_neg hf, if_neg hf]
theorem bo_member (h : zInv mu lm) (i w : Int32) : zBo cX7_member 3 cX8_member 3 [.int i, .int w] mu lm := by
  obtain ⟨C, M, n, F⟩ := h.fa
  have hc := sp_X7_member (d := 0) (mu := mu) (lm := lm) F.C F.C8 F.M F.M6 F.S i w
  by_cases hb : (0 ≤ i ∧ i < mu 23 6) ∧ (0 ≤ w ∧ w ≤ 3)
  · obtain ⟨j, hj, rfl⟩ := zget hb.1 F.M F.Ms
    have hM6 := F.M6
    unfold cMember at hc
    simp only [if_pos hb] at hc
    rw [nI_clamp (by omega)] at hc
    have F1 := F.sm (zSm.t0 (mFact mu j w))
    have hm := sp_X8_member (d := 0) (mu := zk_up mu 0 10 (mFact mu j w)) (lm := lm) F1.C' F1.C8 F1.M' F1.M6 F1.S' (nI j) w
    have hb1 : (0 ≤ nI j ∧ nI j < zk_up mu 0 10 (mFact mu j w) 46 18) ∧ (0 ≤ w ∧ w ≤ 3) := by rw [F1.M', ← F.M]; exact hb
    unfold mMember at hm
    simp only [if_pos hb1] at hm
    rw [nI_clamp (by omega)] at hm
    have e : mTl (zk_up mu 0 10 (mFact mu j w)) j w = mFact mu j w := by
      unfold mTl mFact
      obtain ⟨q, hq, eq⟩ := F.S j hj
      rw [zup_cf _ _ (by decide), zup_cf _ _ (by decide), zup_cf _ _ (by decide), F.kd hj, F.se hj, eq, nI_clamp (by have := F.C8; omega), F.air hq, F.tk (by omega)]
    rw [e] at hm
    exact zboR (by decide) (by decide) hc hm rfl (h.tell _)
  · unfold cMember at hc
    simp only [if_neg hb] at hc
    have hm := sp_X8_member (d := 0) (mu := mu) (lm := lm) F.C' F.C8 F.M' F.M6 F.S' i w
    unfold mMember at hm
    rw [F.c4] at hm
    simp only [if_neg hb] at hm
    exact zboR (by decide) (by decide) hc hm rfl h
theorem bo_smoke (h : zInv mu lm) (i : Int32) : zBo cX7_smoke 2 cX8_smoke 2 [.int i] mu lm := by
  obtain ⟨C, M, n, F⟩ := h.fa
  refine zboR (by decide) (by decide) (sp_X7_smoke (d := 0) F.C F.C8 F.M F.M6 i) (sp_X8_smoke (d := 0) F.C' F.C8 F.M' F.M6 i) ?_ h
  unfold mSmoke cSmoke
  rw [F.c5]
  by_cases hb : 0 ≤ i ∧ i < mu 23 5
  · rw [if_pos hb, if_pos hb]
    obtain ⟨j, hj, rfl⟩ := zget hb F.C F.Cs
    rw [nI_clamp (by have := F.C8; omega), F.air hj]
  · rw [if_neg hb, if_neg hb]
theorem bo_says (h : zInv mu lm) (i v : Int32) : zBo cX7_says 3 cX8_says 3 [.int i, .int v] mu lm := by
  obtain ⟨C, M, n, F⟩ := h.fa
  refine zboR (by decide) (by decide) (sp_X7_says (d := 0) F.C F.C8 F.M F.M6 i v) (sp_X8_says (d := 0) F.C' F.C8 F.M' F.M6 i v) ?_ h
  unfold mSays cSays
  rw [F.c4]
  by_cases hb : (0 ≤ i ∧ i < mu 23 6) ∧ (0 ≤ v ∧ v ≤ 99)
  · rw [if_pos hb, if_pos hb]
    obtain ⟨j, hj, rfl⟩ := zget hb.1 F.M F.Ms
    rw [nI_clamp (by have := F.M6; omega), F.kd hj]
  · rw [if_neg hb, if_neg hb]
theorem bo_breathes (h : zInv mu lm) (i v : Int32) : zBo cX7_breathes 3 cX8_breathes 3 [.int i, .int v] mu lm := by
  obtain ⟨C, M, n, F⟩ := h.fa
  refine zboR (by decide) (by decide) (sp_X7_breathes (d := 0) F.C F.C8 F.M F.M6 i v) (sp_X8_breathes (d := 0) F.C' F.C8 F.M' F.M6 i v) ?_ h
  unfold mBreathes cBrt
  rw [F.c4]
  by_cases hb : (0 ≤ i ∧ i < mu 23 6) ∧ (0 ≤ v ∧ v ≤ 99)
  · rw [if_pos hb, if_pos hb]
    obtain ⟨j, hj, rfl⟩ := zget hb.1 F.M F.Ms
    rw [nI_clamp (by have := F.M6; omega), F.kd hj]
  · rw [if_neg hb, if_neg hb]
theorem bo_means (h : zInv mu lm) (i v : Int32) : zBo cX7_means 3 cX8_means 6 [.int i, .int v] mu lm := by
  obtain ⟨C, M, n, F⟩ := h.fa
  have hc := sp_X7_means (d := 0) (mu := mu) (lm := lm) F.C F.C8 F.M F.M6 i v
  by_cases hb : (0 ≤ i ∧ i < mu 23 6) ∧ (0 ≤ v ∧ v ≤ 99)
  · obtain ⟨j, hj, rfl⟩ := zget hb.1 F.M F.Ms
    unfold cMeans at hc
    simp only [if_pos hb] at hc
    rw [nI_clamp (by have := F.M6; omega)] at hc
    have F1 := F.sm (zSm.t0 (zfst (fun v_1 => decide (kSay (mu 24 j) (nI v_1) = v)) (-9) 100 0))
    have hm := sp_X8_means (d := 0) (lm := lm) F1.C' F1.C8 F1.M' F1.M6 hj hb.2
    rw [zup_cf (c' := 53) _ _ (by decide), F.kd hj] at hm
    exact zboR (by decide) (by decide) hc hm rfl (h.tell _)
  · unfold cMeans at hc
    simp only [if_neg hb] at hc
    exact zboR (by decide) (by decide) hc (sp_X8_means_n (d := 0) F.M' F.M6 i v (by rw [F.c4]; exact hb)) rfl h
theorem bo_least (h : zInv mu lm) (i v : Int32) : zBo cX7_least 4 cX8_least 4 [.int i, .int v] mu lm := by
  obtain ⟨C, M, n, F⟩ := h.fa
  by_cases hb : (0 ≤ i ∧ i < mu 23 6) ∧ (0 ≤ v ∧ v ≤ 99)
  · obtain ⟨j, hj, rfl⟩ := zget hb.1 F.M F.Ms
    exact zboR (by decide) (by decide) (sp_X7_least (d := 0) F.C F.C8 F.M F.M6 hj hb.2) (sp_X8_least (d := 0) F.C' F.C8 F.M' F.M6 hj hb.2) (by rw [F.kd hj]) h
  · exact zboR (by decide) (by decide) (sp_X7_least_n (d := 0) i v hb) (sp_X8_least_n (d := 0) F.M' F.M6 i v (by rw [F.c4]; exact hb)) rfl h
theorem zboK {cc cc' : ByteArray} {nL nL' d d' : Nat} {as : List Value} {mu1 : Mem} {lm1 : MemL} {x : Int32} {Q : Option Value → Mem → MemL → Prop} (hd : d ≤ 20) (hd' : d' ≤ 20) (hc : zk_M d RX7 cc nL (some .int) none 0 (zk_loc (.ref 0 :: as) nL) [] mu lm (zk_R (some (.int x)) mu1 lm1)) (hm : zk_M d' RX8 cc' nL' (some .int) none 0 (zk_loc (.ref 46 :: as) nL') [] mu1 lm1 Q) (hq : ∀ r m l, Q r m l → r = some (.int x) ∧ zInv m l) : zBo cc nL cc' nL' as mu lm :=
  zk_post (zk_deep hd hc) (fun r m l h => by
    obtain ⟨rfl, rfl, rfl⟩ := h
    exact ⟨x, rfl, zk_post (zk_deep hd' hm) hq⟩)
theorem bo_hangs (h : zInv mu lm) (c m : Int32) : zBo cX7_hangs 3 cX8_hangs 4 [.int c, .int m] mu lm := by
  obtain ⟨C, M, n, F⟩ := h.fa
  have hc := sp_X7_hangs (d := 0) (mu := mu) (lm := lm) F.C F.C8 F.M F.M6 c m
  unfold cHng at hc
  by_cases hb : (0 ≤ c ∧ c < mu 23 5) ∧ (0 ≤ m ∧ m ≤ 60)
  · obtain ⟨j, hj, rfl⟩ := zget hb.1 F.C F.Cs
    obtain ⟨k, hk, rfl⟩ := zgetl (M := 60) hb.2 (by decide)
    rw [if_pos hb, nI_clamp (by have := F.C8; omega)] at hc
    refine zboK (by decide) (by decide) hc (sp_X8_hangs (d := 0) F.C' F.C8 F.M' F.M6 F.A F.L' hj hk) (fun r2 m2 l2 q => ?_)
    obtain ⟨rfl, rfl, q⟩ := q
    exact ⟨by rw [F.air hj, F.lk], h.told (zSm.s56 q) (h.st.fr (q 0 (by decide)) (q 45 (by decide)) (q 51 (by decide)) (fun k _ => by rw [q 46 (by decide)]))⟩
  · rw [if_neg hb] at hc
    exact zboR (by decide) (by decide) hc (sp_X8_hangs_n (d := 0) F.C' F.C8 F.M' F.M6 c m (by rw [F.c5]; exact hb)) rfl h
theorem zInv.s56 {mu' : Mem} (h : zInv mu lm) (q : ∀ c, c ≠ 56 → mu' c = mu c) : zInv mu' lm := h.told (zSm.s56 q) (h.st.fr (q 0 (by decide)) (q 45 (by decide)) (q 51 (by decide)) (fun k _ => by rw [q 46 (by decide)]))
theorem mkV_cong {air air' seat seat' kind kind' : Nat → Int32} {C M j : Nat} {w : Int32} (hC8 : C ≤ 8) (hj : j < M) (h1 : ∀ q, q < C → air q = air' q) (h2 : ∀ k, k < M → seat k = seat' k) (h3 : ∀ k, k < M → kind k = kind' k) (hs : ∃ q, q < C ∧ seat' j = nI q) : mkV air seat kind C M j w = mkV air' seat' kind' C M j w := by
  obtain ⟨q, hq, e⟩ := hs
  obtain ⟨b, hb, eb, -⟩ := cBeh_n hC8 hq
  obtain ⟨a, ha, ea, -⟩ := cAhd_n hC8 hq
  unfold mkV
  rw [h2 j hj, e, eb, ea, nI_clamp (by omega), nI_clamp (by omega), nI_clamp (by omega), h1 q hq, h1 b hb, h1 a ha, h3 j hj]
  rw [zsum_cong (n := M) (f := fun k => zb ((¬ nI k = nI j ∧ seat k = nI q) ∧ (kind k = 2 ∨ kind k = 5))) (g := fun k => zb ((¬ nI k = nI j ∧ seat' k = nI q) ∧ (kind' k = 2 ∨ kind' k = 5))) (fun k hk => by simp only [h2 k hk, h3 k hk])]
  rw [zsum_cong (n := M) (f := fun k => zb (¬ nI k = nI j ∧ 5 - kSay (kind k) 5 = 0)) (g := fun k => zb (¬ nI k = nI j ∧ 5 - kSay (kind' k) 5 = 0)) (fun k hk => by simp only [h3 k hk])]
theorem bo_mark (h : zInv mu lm) (i w : Int32) : zBo cX7_mark 4 cX8_mark 5 [.int i, .int w] mu lm := by
  obtain ⟨C, M, n, F⟩ := h.fa
  by_cases hb : (0 ≤ i ∧ i < mu 23 6) ∧ (1 ≤ w ∧ w ≤ 5)
  · obtain ⟨j, hj, rfl⟩ := zget hb.1 F.M F.Ms
    have hw0 : 0 ≤ w ∧ w ≤ nI 5 := ⟨by have := hb.2.1; simp only [zle] at *; have e : (1 : Int32).toInt = 1 := by decide
                                       have e0 : (0 : Int32).toInt = 0 := by decide
                                       omega, hb.2.2⟩
    obtain ⟨t, ht, rfl⟩ := zgetl hw0 (by decide)
    have ht1 : 1 ≤ t := by
      have := hb.2.1
      rw [show (1 : Int32) = nI 1 from rfl, nIle (by decide) (by omega)] at this
      exact this
    by_cases hk : kIs (mu 24 j) (nI t)
    · refine zboR (by decide) (by decide) (sp_X7_mark (d := 0) F.C F.C8 F.M F.M6 F.S hj ht1 ht hk) (sp_X8_mark (d := 0) F.C' F.C8 F.M' F.M6 F.S' hj ht1 ht (by rw [F.kd hj]; exact hk)) ?_ h
      rw [cMk_V]
      unfold mMk
      exact mkV_cong F.C8 hj (fun q hq => F.air hq) (fun k hk => F.se hk) (fun k hk => F.kd hk) (F.S j hj)
    · have F1 := F.sm (zSm.fM 3)
      exact zboR (by decide) (by decide) (sp_X7_mark_u (d := 0) F.C F.C8 F.M F.M6 hj ht1 ht hk) (sp_X8_mark_u (d := 0) F1.C' F1.C8 F1.M' F1.M6 hj ht1 ht (by rw [fndM_c (by decide) (by decide), F.kd hj]; exact hk)) rfl (h.fnd (by decide))
  · exact zboR (by decide) (by decide) (sp_X7_mark_n (d := 0) i w hb) (sp_X8_mark_n (d := 0) F.C' F.C8 F.M' F.M6 i w (by rw [F.c4]; exact hb)) rfl h
end M67
