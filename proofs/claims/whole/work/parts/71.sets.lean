section M71
variable {mu : Mem} {lm : MemL}
/-! ===== sets ===== -/
theorem zbit (y : Int32) : y &&& 1 = 0 ∨ y &&& 1 = 1 := by
  have e : (y &&& 1).toBitVec.toNat = y.toBitVec.toNat % 2 := by
    rw [Int32.toBitVec_and, BitVec.toNat_and]
    exact Nat.and_one_is_mod _
  rcases Nat.mod_two_eq_zero_or_one y.toBitVec.toNat with h | h
  · left
    apply Int32.toBitVec_inj.mp
    apply BitVec.eq_of_toNat_eq
    rw [e, h]; rfl
  · right
    apply Int32.toBitVec_inj.mp
    apply BitVec.eq_of_toNat_eq
    rw [e, h]; rfl
theorem zi01 : ¬ (0 : Int32) = 1 := by decide
theorem zi10 : ¬ (1 : Int32) = 0 := by decide
theorem sum_eq {C M n : Nat} {m1 : Mem} (F : zF mu C M n) (e53 : m1 53 = mu 53) (v x : Int32) : mSum m1 M v x = sBr (wghM mu v M) M x := by
  unfold mSum sBr
  refine zsum_cong (fun i hi => ?_)
  rw [e53, F.kd hi]
  unfold wghM
  rw [zuc_s, if_pos hi]
  rcases zbit (x >>> (nI i &&& 31)) with q | q
  · rw [q, if_neg zi01, Int32.zero_mul]
  · rw [q, if_pos rfl, Int32.one_mul]
theorem wth_eq {C M n : Nat} {m1 : Mem} (F : zF mu C M n) (e53 : m1 53 = mu 53) (v b nd : Int32) : mWth m1 M v b nd = sWith (wghM mu v M) M nd b := by
  unfold mWth sWith
  refine zsum_cong (fun x _ => ?_)
  rw [sum_eq F e53]
theorem rfs_eq {C M n : Nat} {m1 : Mem} (F : zF mu C M n) (e46 : m1 46 18 = mu 46 18) (v b : Int32) : mrfS m1 v b = rfSets mu v b := by
  unfold mrfS rfSets
  rw [e46, F.c4]
theorem zInv.wgh (h : zInv mu lm) (v : Int32) (k : Nat) : zInv (wghM mu v k) lm := h.told (zSm.u43 _) (h.st.fr (wghM_c _ _ _ (by decide)) (wghM_c _ _ _ (by decide)) (wghM_c _ _ _ (by decide)) (fun q _ => by rw [wghM_c _ _ _ (by decide)]))
theorem zfst_cong {p q : Nat → Bool} {df : Int32} : ∀ {m j : Nat}, (∀ i, p i = q i) → zfst p df m j = zfst q df m j
  | 0, _, _ => rfl
  | m + 1, j, h => by rw [zfst, zfst, h j, zfst_cong (m := m) (j := j + 1) h]
theorem bo_sets (h : zInv mu lm) (v b : Int32) : zBo cX7_sets 4 cX8_sets 5 [.int v, .int b] mu lm := by
  obtain ⟨C, M, n, F⟩ := h.fa
  by_cases hf : rfSets mu v b = 0
  · have hW := h.wgh v M
    have hc := sp_X7_sets (d := 0) (mu := mu) (lm := lm) F.C F.C8 F.M F.M6 hf
    generalize eX : zfst (fun x => decide (sBr (wghM mu v M) M (nI x) = b)) (-9) (2 ^ M) 0 = X at hc
    have e53 : zk_up (wghM mu v M) 0 10 X 53 = mu 53 := by rw [zup_cf _ _ (by decide), wghM_c _ _ _ (by decide)]
    have e46 : zk_up (wghM mu v M) 0 10 X 46 = mu 46 := by rw [zup_cf _ _ (by decide), wghM_c _ _ _ (by decide)]
    have hm := sp_X8_sets (d := 0) (mu := zk_up (wghM mu v M) 0 10 X) (lm := tellL lm (sCnt (wghM mu v M) M 0 b) 1) (C := C) (M := M) (v := v) (b := b) (by rw [e46]; exact F.C') F.C8 (by rw [e46]; exact F.M') F.M6 (by rw [rfs_eq F (by rw [e46])]; exact hf)
    rw [wth_eq F e53, sWith_n, nI_l (by have := sCnt_le (wghM mu v M) F.M6 0 b; omega), zfst_cong (q := fun x => decide (sBr (wghM mu v M) M (nI x) = b)) (fun x => by rw [sum_eq F e53]), eX] at hm
    refine zboR (by decide) (by decide) hc hm rfl ?_
    have hT := hW.tell X
    refine hT.told zSm.rf ?_
    obtain ⟨a, b', c, d, e⟩ := hT.st
    refine ⟨a, ?_, ?_, d, e⟩
    · unfold tellL
      rw [eu_1, Nat.div_one, zup_k _ _ _ (by decide), zup_s, zup_cf _ _ (by decide), zup_cf _ _ (by decide), zup_k _ _ _ (by decide), zup_s]
    · unfold tellL
      rw [eu_1, zup_s, zup_cf _ _ (by decide), zup_cf _ _ (by decide), zup_s]
      rfl
  · exact zboR (by decide) (by decide) (sp_X7_sets_n (d := 0) hf) (sp_X8_sets_n (d := 0) (by rw [rfs_eq F rfl]; exact hf)) (rfs_eq F rfl v b) h
theorem bo_sure (h : zInv mu lm) (v b : Int32) : zBo cX7_sure 9 cX8_sure 8 [.int v, .int b] mu lm := by
  obtain ⟨C, M, n, F⟩ := h.fa
  by_cases hf : rfSets mu v b = 0
  · have hW := h.wgh v M
    have hc := sp_X7_sure (d := 0) (mu := mu) (lm := lm) F.C F.C8 F.M F.M6 hf
    have ec : ∀ c, c ≠ 0 → c ≠ 45 → c ≠ 43 → (cSure mu M v b).2 c = mu c := by
      intro c a a2 a3
      unfold cSure
      split
      · show fndM _ _ c = _
        rw [fndM_c a a2, wghM_c _ _ _ a3]
      · show zk_up _ _ _ _ c = _
        rw [zup_cf _ _ a, wghM_c _ _ _ a3]
    have e53 := ec 53 (by decide) (by decide) (by decide)
    have e46 := ec 46 (by decide) (by decide) (by decide)
    have hm := sp_X8_sure (d := 0) (mu := (cSure mu M v b).2) (lm := lm) (C := C) (M := M) (v := v) (b := b) (by rw [e46]; exact F.C') F.C8 (by rw [e46]; exact F.M') F.M6 (by rw [rfs_eq F (by rw [e46])]; exact hf)
    refine zboR (by decide) (by decide) hc hm ?_ ?_
    · unfold mSure
      simp only [wth_eq F e53]
      unfold cSure
      by_cases h0 : sWith (wghM mu v M) M 0 b = 0
      · simp only [if_pos h0]
      · simp only [if_neg h0]
    · unfold mSure
      simp only [wth_eq F e53]
      unfold cSure
      by_cases h0 : sWith (wghM mu v M) M 0 b = 0
      · simp only [if_pos h0]
        exact hW.fnd (by decide)
      · simp only [if_neg h0]
        exact hW.tell _
  · exact zboR (by decide) (by decide) (sp_X7_sure_n (d := 0) hf) (sp_X8_sure_n (d := 0) (by rw [rfs_eq F rfl]; exact hf)) (rfs_eq F rfl v b) h
/-! the first of the least -/
theorem tstM_j (g : Nat → Int32) : ∀ k, ∃ j, j ≤ k ∧ (tstM g (k + 1)).1 = nI j
  | 0 => ⟨0, Nat.le_refl _, by rw [tstM_s]; rfl⟩
  | k + 1 => by
    rw [tstM_s]
    split
    · exact ⟨k + 1, Nat.le_refl _, rfl⟩
    · obtain ⟨j, hj, e⟩ := tstM_j g k
      exact ⟨j, by omega, e⟩
theorem tst_eq {g : Nat → Int32} {z : Int32} (h0 : g 0 < z) : ∀ k, k < 900 → tstR g z (k + 1) = tstM g (k + 1)
  | 0, _ => by
    rw [tstR_s, tstM_s, if_pos (show g 0 < (tstR g z 0).2 from h0), if_pos (show (tstM g 0).1 = -9 ∨ g 0 < (tstM g 0).2 from Or.inl rfl)]
  | k + 1, hk => by
    rw [tstR_s, tstM_s, tst_eq h0 k (by omega)]
    obtain ⟨j, hj, e⟩ := tstM_j g k
    by_cases q : g (k + 1) < (tstM g (k + 1)).2
    · rw [if_pos q, if_pos (Or.inr q)]
    · rw [if_neg q, if_neg]
      rintro (w | w)
      · rw [e] at w
        exact nI_ne9 (by omega) w
      · exact q w
theorem askR_t (g : Nat → Int32) (all : Int32) : ∀ k, askR g all k = tstR (fun k => zmax (g k) (all - g k)) (all + 1) k
  | 0 => rfl
  | k + 1 => by rw [askR_s, tstR_s, askR_t g all k]
theorem askM_t (g : Nat → Int32) (all : Int32) : ∀ k, askM g all k = tstM (fun k => zmax (g k) (all - g k)) k
  | 0 => rfl
  | k + 1 => by rw [askM_s, tstM_s, askM_t g all k]
theorem zct_mono {f g : Nat → Int32} : ∀ {n : Nat}, (∀ k, k < n → f k = 1 → g k = 1) → zct f n ≤ zct g n
  | 0, _ => Nat.le_refl _
  | n + 1, h => by
    rw [zct, zct]
    have := zct_mono (f := f) (g := g) (n := n) (fun k hk => h k (by omega))
    by_cases q : f n = 1
    · rw [if_pos q, if_pos (h n (by omega) q)]; omega
    · rw [if_neg q]; omega
theorem sCnt_mono {M : Nat} {nd b : Int32} : sCnt mu M nd b ≤ sCnt mu M 0 b := by
  refine zct_mono (fun k _ q => ?_)
  have : nI k &&& nd = nd ∧ sBr mu M (nI k) = b := by
    by_cases p : nI k &&& nd = nd ∧ sBr mu M (nI k) = b
    · exact p
    · rw [zb_f p] at q
      exact absurd q zi01
  exact zb_t ⟨Int32.and_zero, this.2⟩
theorem zmax_n {a b : Nat} (ha : a < 2147483648) (hb : b < 2147483648) : zmax (nI a) (nI b) = nI (max a b) := by
  unfold zmax
  by_cases h : a < b
  · rw [if_pos (by rw [nIlt ha hb]; exact h), show max a b = b by omega]
  · rw [if_neg (by rw [nIlt ha hb]; exact h), show max a b = a by omega]
theorem nI_sub {a b : Nat} (h : b ≤ a) : nI a - nI b = nI (a - b) := by
  have : nI (a - b) + nI b = nI a := by rw [nI_add, Nat.sub_add_cancel h]
  rw [← this, Int32.add_sub_cancel]
theorem bo_ask (h : zInv mu lm) (v b : Int32) : zBo cX7_ask 10 cX8_ask 10 [.int v, .int b] mu lm := by
  obtain ⟨C, M, n, F⟩ := h.fa
  by_cases hf : rfSets mu v b = 0
  · have hW := h.wgh v M
    have hc := sp_X7_ask (d := 0) (mu := mu) (lm := lm) F.C F.C8 F.M F.M6 hf
    have ec : ∀ c, c ≠ 0 → c ≠ 45 → c ≠ 43 → (cAsk mu M v b).2 c = mu c := by
      intro c a a2 a3
      unfold cAsk
      split
      · show fndM _ _ c = _
        rw [fndM_c a a2, wghM_c _ _ _ a3]
      · show zk_up _ _ _ _ c = _
        rw [zup_cf _ _ a, wghM_c _ _ _ a3]
    have e53 := ec 53 (by decide) (by decide) (by decide)
    have e46 := ec 46 (by decide) (by decide) (by decide)
    have hM0 : M ≠ 0 := by
      intro q
      unfold rfSets at hf
      rw [F.M, q] at hf
      split at hf
      · rw [if_pos (show nI 0 = 0 from rfl)] at hf
        exact absurd hf (by decide)
      · exact absurd hf (by decide)
    have hM6 := F.M6
    obtain ⟨M', rfl⟩ : ∃ M', M = M' + 1 := ⟨M - 1, by omega⟩
    generalize hMM : M' + 1 = M at *
    have hm := sp_X8_ask (d := 0) (mu := (cAsk mu M v b).2) (lm := lm) (C := C) (M := M) (v := v) (b := b) (by rw [e46]; exact F.C') F.C8 (by rw [e46]; exact F.M') F.M6 (by rw [rfs_eq F (by rw [e46])]; exact hf)
    have key : askM (fun i => sWith (wghM mu v M) M (1 <<< (nI i &&& 31)) b) (sWith (wghM mu v M) M 0 b) M = askR (fun i => sWith (wghM mu v M) M (1 <<< (nI i &&& 31)) b) (sWith (wghM mu v M) M 0 b) M := by
      rw [askM_t, askR_t]
      generalize hg : (fun k => zmax (sWith (wghM mu v M) M (1 <<< (nI k &&& 31)) b) (sWith (wghM mu v M) M 0 b - sWith (wghM mu v M) M (1 <<< (nI k &&& 31)) b)) = g
      have hg0 := congrFun hg 0
      rw [← hMM]
      refine (tst_eq ?_ M' (by omega)).symm
      rw [← hg0, hMM]
      show zmax (sWith (wghM mu v M) M (1 <<< (nI 0 &&& 31)) b) (sWith (wghM mu v M) M 0 b - sWith (wghM mu v M) M (1 <<< (nI 0 &&& 31)) b) < sWith (wghM mu v M) M 0 b + 1
      rw [sWith_n, sWith_n]
      have h1 := sCnt_mono (mu := wghM mu v M) (M := M) (nd := 1 <<< (nI 0 &&& 31)) (b := b)
      have h2 := sCnt_le (wghM mu v M) F.M6 0 b
      rw [nI_sub h1, zmax_n (by omega) (by omega), nI_1, nIlt (by omega) (by omega)]
      omega
    refine zboR (by decide) (by decide) hc hm ?_ ?_
    · unfold mAsk
      simp only [wth_eq F e53, key]
      unfold cAsk
      by_cases h0 : sWith (wghM mu v M) M 0 b = 0
      · simp only [if_pos h0]
      · simp only [if_neg h0]
    · unfold mAsk
      simp only [wth_eq F e53, key]
      unfold cAsk
      by_cases h0 : sWith (wghM mu v M) M 0 b = 0
      · simp only [if_pos h0]
        exact hW.fnd (by decide)
      · simp only [if_neg h0]
        exact hW.tell _
  · exact zboR (by decide) (by decide) (sp_X7_ask_n (d := 0) hf) (sp_X8_ask_n (d := 0) (by rw [rfs_eq F rfl]; exact hf)) (rfs_eq F rfl v b) h
/-! test -/
theorem pLike_n (x kind v : Int32) : ∃ p, p ≤ 6 ∧ pLike x kind v = nI p := by
  refine ⟨_, zct_le _ _, zct_sum (n := 6) (fun k _ => ?_)⟩
  by_cases q : kSay (nI k) v = kSay kind v
  · simp only [if_pos q]; exact zbit _
  · simp only [if_neg q]; exact Or.inl trivial
theorem gPart_n (x v : Int32) : ∀ k, ∃ p, p ≤ 6 ∧ gPart x v k = nI p
  | 0 => ⟨0, by decide, rfl⟩
  | k + 1 => by
    rw [gPart_s]
    obtain ⟨a, ha, ea⟩ := gPart_n x v k
    split
    · obtain ⟨b, hb, eb⟩ := pLike_n x (nI k) v
      exact ⟨max a b, by omega, by rw [ea, eb, zmax_n (by omega) (by omega)]⟩
    · exact ⟨a, ha, ea⟩
theorem most_eq (x v : Int32) : ∀ k, tMost x v k = gPart x v k
  | 0 => rfl
  | k + 1 => by
    rw [tMost_s, gPart_s, most_eq x v k]
    by_cases q : (x >>> (nI k &&& 31)) &&& 1 = 1
    · rw [if_pos q]
      congr 1
      unfold pLike
      refine zsum_cong (fun o _ => ?_)
      unfold tN
      by_cases e : kSay (nI o) v = kSay (nI k) v
      · rw [if_pos e]
        rcases zbit (x >>> (nI o &&& 31)) with w | w
        · rw [w, zb_f (fun z => zi01 z.1.2)]
        · rw [w, zb_t ⟨⟨q, rfl⟩, e.symm⟩]
      · rw [if_neg e, zb_f (fun z => e z.2.symm)]
    · rw [if_neg q]
      have e0 : zsum 6 (tN x v k) = 0 := by
        rw [zsum_cong (g := fun _ => 0) (fun o _ => by unfold tN; exact zb_f (fun z => q z.1.1))]
        decide
      rw [e0]
      obtain ⟨a, ha, ea⟩ := gPart_n x v k
      rw [ea, nI0, zmax_n (by omega) (by omega), show max a 0 = a by omega]
theorem bo_test (h : zInv mu lm) (r : Int32) : zBo cX7_test 9 cX8_test 10 [.int r] mu lm := by
  by_cases hr : 0 ≤ r ∧ r < 6
  · obtain ⟨k, hk, rfl⟩ := zget hr (M := 6) rfl (by decide)
    obtain ⟨e1, e2, e3⟩ := zrow_at h.rs hk
    by_cases hf : (rfNt mu (2 + 2 * k) (3 + 2 * k)).1 = 0
    · obtain ⟨h', ho⟩ := ntOk_of (by decide) e2 hf
      obtain ⟨g1, g2⟩ := nt_ok h.rs hk ho
      have ec : ∀ c, c ≠ 0 → (cTst mu (3 + 2 * k) h').2 c = mu c := by
        intro c a
        unfold cTst
        split
        · rfl
        · exact zup_cf _ _ a
      have g3 : mtOk (cTst mu (3 + 2 * k) h').2 k h' := by
        obtain ⟨a, b, c⟩ := g1
        have : itF (cTst mu (3 + 2 * k) h').2 k = itF mu k := by unfold itF; rw [ec 48 (by decide)]
        exact ⟨by rw [ec 47 (by decide)]; exact a, b, by rw [this]; exact c⟩
      have eK : kFitG (itF (cTst mu (3 + 2 * k) h').2 k) h' = kFit mu (3 + 2 * k) h' := by
        rw [kFit_G]
        refine kFitG_cong (fun q hq => ?_)
        rw [← g2 q hq]
        unfold itF
        rw [ec 48 (by decide)]
      have key : tstM (fun v => tMost (kFit mu (3 + 2 * k) h') (nI v) 6) 100 = tstR (fun v => gPart (kFit mu (3 + 2 * k) h') (nI v) 6) 7 100 := by
        rw [show (fun v => tMost (kFit mu (3 + 2 * k) h') (nI v) 6) = (fun v => gPart (kFit mu (3 + 2 * k) h') (nI v) 6) from funext (fun v => most_eq _ _ 6)]
        refine (tst_eq ?_ 99 (by decide)).symm
        obtain ⟨p, hp, ep⟩ := gPart_n (kFit mu (3 + 2 * k) h') (nI 0) 6
        show gPart (kFit mu (3 + 2 * k) h') (nI 0) 6 < 7
        rw [ep, show (7 : Int32) = nI 7 from rfl, nIlt (by omega) (by decide)]
        omega
      refine zboR (by decide) (by decide) (sp_X7_test (d := 0) hk ho) (sp_X8_test (d := 0) hk (by rw [ec 47 (by decide), e1]; exact e2) g3) ?_ ?_
      · rw [eK]
        unfold mTst
        rw [key]
        unfold cTst
        by_cases h0 : kFit mu (3 + 2 * k) h' = 0
        · simp only [if_pos h0]
        · simp only [if_neg h0]
      · rw [eK]
        unfold mTst
        rw [key]
        unfold cTst
        by_cases h0 : kFit mu (3 + 2 * k) h' = 0
        · simp only [if_pos h0]
          exact h
        · simp only [if_neg h0]
          exact h.tell _
    · rcases nt_m (mu := mu) (k := k) with q | ⟨f, hf6, q, -⟩
      · exact absurd q hf
      · have hc := sp_X7_test_f (d := 0) (lm := lm) hk e2 hf
        have N := nt_f h.rs hk (fndM mu f) (fndM_c (by decide) (by decide)) (fndM_c (by decide) (by decide))
        rw [q] at hc
        have hm := sp_X8_test_f (d := 0) (mu := fndM mu f) (lm := lm) hk (by rw [fndM_c (by decide) (by decide), e1]; exact e2) (by rw [N.1]; exact hf)
        rw [N.2 f q hf6] at hm
        exact zboR (by decide) (by decide) hc hm rfl (h.fnd hf6)
  · exact zboR (by decide) (by decide) (sp_X7_test_n (d := 0) hr) (sp_X8_test_n (d := 0) hr) rfl h
end M71
