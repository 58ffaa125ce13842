section M70
variable {mu : Mem} {lm : MemL}
/-! ===== copy, mean, counts, digests ===== -/
theorem zhl_iff {i n x : Int32} (h0 : 0 ≤ n) : (0 ≤ i ∧ 0 ≤ n ∧ n ≤ x ∧ i ≤ x - n) ↔ (0 ≤ i ∧ n ≤ x ∧ i ≤ x - n) := ⟨fun h => ⟨h.1, h.2.2.1, h.2.2.2⟩, fun h => ⟨h.1, h0, h.2.1, h.2.2⟩⟩
theorem bo_copy (h : zInv mu lm) (r i t j n : Int32) : zBo cX7_copy 8 cX8_copy 9 [.int r, .int i, .int t, .int j, .int n] mu lm := by
  by_cases hb : (0 ≤ r ∧ r < 6) ∧ (0 ≤ t ∧ t < 6)
  · obtain ⟨k, hk, rfl⟩ := zget hb.1 (M := 6) rfl (by decide)
    obtain ⟨l, hl, rfl⟩ := zget hb.2 (M := 6) rfl (by decide)
    have hR := h.rs
    obtain ⟨e1, e2, e3⟩ := zrow_at hR hk
    obtain ⟨f1, f2, f3⟩ := zrow_at hR hl
    have hc : ∀ c, 45 < c → (cCopy mu k l i j n).2 c = mu c := by
      intro c c0
      unfold cCopy
      split
      · split
        · split
          · exact zuc_c _ _ (by omega)
          · exact fndM_c (by omega) (by omega)
        · exact fndM_c (by omega) (by omega)
      · exact fndM_c (by omega) (by omega)
    refine zboR (by decide) (by decide) (sp_X7_copy (d := 0) hk hl e2 f2 i j n) (sp_X8_copy (d := 0) hk hl (by rw [hc 47 (by decide), e1]; exact e2) (by rw [hc 47 (by decide), f1]; exact f2) i j n) ?_ ?_
    · unfold mCopy
      rw [hc 47 (by decide), e1, f1]
      unfold cCopy
      by_cases h0 : 0 ≤ n
      · simp only [if_pos h0, zhl_iff h0]
        by_cases h1 : 0 ≤ mu (2 + 2 * k) 1 ∧ 0 ≤ mu (2 + 2 * l) 1
        · simp only [if_pos h1]
          by_cases h2 : (0 ≤ i ∧ n ≤ mu (2 + 2 * k) 1 ∧ i ≤ mu (2 + 2 * k) 1 - n) ∧ (0 ≤ j ∧ n ≤ mu (2 + 2 * l) 1 ∧ j ≤ mu (2 + 2 * l) 1 - n)
          · simp only [if_pos h2]
          · simp only [if_neg h2]
        · simp only [if_neg h1]
      · simp only [if_neg h0]
    · unfold mCopy
      rw [hc 47 (by decide), hc 48 (by decide), e1, f1]
      unfold cCopy
      by_cases h0 : 0 ≤ n
      · simp only [if_pos h0, zhl_iff h0]
        by_cases h1 : 0 ≤ mu (2 + 2 * k) 1 ∧ 0 ≤ mu (2 + 2 * l) 1
        · simp only [if_pos h1]
          by_cases h2 : (0 ≤ i ∧ n ≤ mu (2 + 2 * k) 1 ∧ i ≤ mu (2 + 2 * k) 1 - n) ∧ (0 ≤ j ∧ n ≤ mu (2 + 2 * l) 1 ∧ j ≤ mu (2 + 2 * l) 1 - n)
          · simp only [if_pos h2]
            obtain ⟨K, hK, eK⟩ := zsz_pos e2 (by decide) h1.1
            obtain ⟨T, hT, eT⟩ := zsz_pos f2 (by decide) h1.2
            obtain ⟨I, B, ei, en, hI⟩ := zpart eK (by omega) h0 h2.1
            obtain ⟨J, B', ej, en', hJ⟩ := zpart eT (by omega) h0 h2.2
            have eB : B' = B := (nI_eq (by omega) (by omega)).mp (en'.symm.trans en)
            subst eB
            subst ei
            subst ej
            subst en
            rw [nI_clamp (by omega), nI_clamp (by omega), nI_clamp (by omega)]
            rw [eK, nI_clamp (by omega)] at e3
            rw [eT, nI_clamp (by omega)] at f3
            refine h.mk2 (fun c a b => ?_) (fun c a b => ?_) (fun q a => ?_) (iRow.up (k := l) hR (by decide) (fun i hi e => ⟨?_, ?_, fun q hq => ?_, fun q hq => ?_⟩) ⟨?_, ?_, fun q hq => ?_⟩) (h.ts.fr (fun c a b => ?_) ?_ ?_) (h.st.fr ?_ ?_ ?_ (fun k a => ?_))
            · simp (disch := omega) only [zuc_c]
            · simp (disch := omega) only [zuc_c]
            · simp (disch := omega) only [zuc_c]
            · simp (disch := omega) only [zuc_c]
            · simp (disch := omega) only [zuc_c]
            · simp (disch := omega) only [zuc_s]
              unfold va_cpy
              rw [if_neg (by omega)]
            · simp (disch := omega) only [zuc_c]
            · simp (disch := omega) only [zuc_c]; exact f1
            · simp (disch := omega) only [zuc_c]; exact f2
            · revert hq
              simp (disch := omega) only [zuc_c, zuc_s]
              rw [eT, nI_clamp (by omega)]
              intro hq
              unfold va_cpy
              by_cases g : J ≤ q ∧ q < J + B'
              · rw [if_pos (by omega), if_pos g, show 40 * k + I + (40 * l + q - (40 * l + J)) = 40 * k + (I + (q - J)) by omega]
                exact e3 _ (by omega)
              · rw [if_neg (by omega), if_neg g]
                exact f3 q hq
            · simp (disch := omega) only [zuc_c]
            · simp (disch := omega) only [zuc_c]
            · simp (disch := omega) only [zuc_c]
            · simp (disch := omega) only [zuc_c]
            · simp (disch := omega) only [zuc_c]
            · simp (disch := omega) only [zuc_c]
            · simp (disch := omega) only [zuc_c]
          · simp only [if_neg h2]
            exact h.fnd (by decide)
        · simp only [if_neg h1]
          exact h.fnd (by decide)
      · simp only [if_neg h0]
        exact h.fnd (by decide)
  · exact zboR (by decide) (by decide) (sp_X7_copy_n (d := 0) hb i j n) (sp_X8_copy_n (d := 0) hb i j n) rfl h
theorem zsumL_cong {f g : Nat → Int32} : ∀ {n : Nat}, (∀ k, k < n → f k = g k) → zsumL n f = zsumL n g
  | 0, _ => rfl
  | n + 1, h => by rw [zsumL, zsumL, zsumL_cong (fun k hk => h k (by omega)), h n (by omega)]
theorem bo_mean (h : zInv mu lm) (r : Int32) : zBo cX7_mean 6 cX8_mean 5 [.int r] mu lm := by
  by_cases hr : 0 ≤ r ∧ r < 6
  · obtain ⟨k, hk, rfl⟩ := zget hr (M := 6) rfl (by decide)
    obtain ⟨e1, e2, e3⟩ := zrow_at h.rs hk
    have hc : ∀ c, c ≠ 0 → c ≠ 45 → (cMean mu (2 + 2 * k) (3 + 2 * k)).2 c = mu c := by
      intro c c0 c45
      unfold cMean
      split
      · split
        · exact fndM_c c0 c45
        · exact zup_cf _ _ c0
      · exact fndM_c c0 c45
    refine zboR (by decide) (by decide) (sp_X7_mean (d := 0) hk e2) (sp_X8_mean (d := 0) hk (by rw [hc 47 (by decide) (by decide), e1]; exact e2)) ?_ ?_
    · unfold mMean
      rw [hc 47 (by decide) (by decide), e1]
      unfold cMean
      by_cases h1 : 0 ≤ mu (2 + 2 * k) 1
      · by_cases h2 : mu (2 + 2 * k) 1 = 0
        · simp only [if_pos h1, if_pos h2]
        · simp only [if_pos h1, if_neg h2]
      · simp only [if_neg h1]
    · unfold mMean
      rw [hc 47 (by decide) (by decide), hc 48 (by decide) (by decide), e1, zsumL_cong e3]
      unfold cMean
      by_cases h1 : 0 ≤ mu (2 + 2 * k) 1
      · by_cases h2 : mu (2 + 2 * k) 1 = 0
        · simp only [if_pos h1, if_pos h2]
          exact h.fnd (by decide)
        · simp only [if_pos h1, if_neg h2]
          exact h.tell _
      · simp only [if_neg h1]
        exact h.fnd (by decide)
  · exact zboR (by decide) (by decide) (sp_X7_mean_n (d := 0) hr) (sp_X8_mean_n (d := 0) hr) rfl h
theorem zcnt_12 {C M n : Nat} (F : zF mu C M n) : zsum 3 (fun k => zb (0 ≤ mu 60 k)) = zsum 3 (fun k => if mu (31 + 2 * k) 1 = -1 then 0 else 1) := by
  refine zsum_cong (fun k hk => ?_)
  obtain ⟨a, b⟩ := F.kp k hk
  rw [a]
  rcases b with b | ⟨j, hj, b⟩
  · rw [b, if_pos rfl, zb_f (by decide)]
  · rw [b, zb_t (nI_pos' (by omega)), if_neg]
    intro q
    have := nI_pos (n := j) (by omega)
    rw [q] at this
    exact this (by decide)
theorem zcnt_eq {C M n : Nat} (F : zF mu C M n) (hr : iRs mu) (ht : iTs mu) {w : Nat} (hw : w ≤ 12) : mCnt mu C M w = cCnt mu C M w := by
  have h8 : zsum M (fun k => zb (mu 53 k = 1 ∨ mu 53 k = 4)) = zsum M (fun k => zb (mu 24 k = 1 ∨ mu 24 k = 4)) := zsum_cong (fun k hk => by simp only [F.kd hk])
  have h9 : zsum M (fun k => zb (mu 53 k = 2 ∨ mu 53 k = 5)) = zsum M (fun k => zb (mu 24 k = 2 ∨ mu 24 k = 5)) := zsum_cong (fun k hk => by simp only [F.kd hk])
  have h10 : zsum 6 (fun k => zb (0 ≤ mu 47 k)) = zsum 6 (fun k => zb (0 ≤ mu (2 + 2 * k) 1)) := zsum_cong (fun k hk => by simp only [(hr k hk).1])
  have h11 : zsum 4 (fun k => zb (0 ≤ mu 49 k)) = zsum 4 (fun k => zb (0 ≤ mu (15 + 2 * k) 1)) := zsum_cong (fun k hk => by simp only [(ht k hk).1])
  have h12 := zcnt_12 F
  unfold mCnt cCnt
  match w, hw with
  | 0, _ => exact F.c4
  | 1, _ => exact F.c5
  | 2, _ => exact F.hr
  | 3, _ => exact F.n1'.trans F.n1.symm
  | 4, _ => exact F.sum
  | 5, _ => exact F.hd
  | 6, _ => exact F.sd
  | 7, _ => exact F.lk
  | 8, _ => exact h8
  | 9, _ => exact h9
  | 10, _ => exact h10
  | 11, _ => exact h11
  | 12, _ => exact h12
theorem bo_count (h : zInv mu lm) (w : Int32) : zBo cX7_count 2 cX8_count 2 [.int w] mu lm := by
  obtain ⟨C, M, n, F⟩ := h.fa
  by_cases hw : 0 ≤ w ∧ w ≤ 12
  · obtain ⟨k, hk, rfl⟩ := zgetl (M := 12) hw (by decide)
    exact zboR (by decide) (by decide) (sp_X7_count (d := 0) F.C F.C8 F.M F.M6 hk) (sp_X8_count (d := 0) F.C' F.C8 F.M' F.M6 hk) (zcnt_eq F h.rs h.ts hk) h
  · exact zboR (by decide) (by decide) (sp_X7_count_n (d := 0) hw) (sp_X8_count_n (d := 0) hw) rfl h
theorem dgA_cong {f g : Nat → Int32} {h : Int64} : ∀ {n : Nat}, (∀ k, k < n → f k = g k) → dgA f n h = dgA g n h
  | 0, _ => rfl
  | n + 1, e => by rw [dgA, dgA, dgA_cong (fun k hk => e k (by omega)), e n (by omega)]
theorem dgS_cong {s t : Nat → Int32} {f g : Nat → Nat → Int32} {h : Int64} : ∀ {n : Nat}, (∀ k, k < n → s k = t k ∧ ∀ q, q < (t k).toNatClampNeg → f k q = g k q) → dgS s f n h = dgS t g n h
  | 0, _ => rfl
  | n + 1, e => by rw [dgS, dgS, dgS_cong (fun k hk => e k (by omega)), (e n (by omega)).1, dgA_cong (e n (by omega)).2]
theorem mTl_eq {C M n j : Nat} (F : zF mu C M n) (hj : j < M) (w : Int32) : mTl mu j w = mFact mu j w := by
  unfold mTl mFact
  obtain ⟨q, hq, eq⟩ := F.S j hj
  rw [F.kd hj, F.se hj, eq, nI_clamp (by have := F.C8; omega), F.air hq, F.tk (by have := F.M6; omega)]
theorem dgM_eq {C M n : Nat} (F : zF mu C M n) (h : Int64) : ∀ k, k ≤ M → mgM mu k h = dgM mu k h
  | 0, _ => rfl
  | k + 1, hk => by rw [mgM, dgM, dgM_eq F h k (by omega), dgA_cong (fun w _ => mTl_eq F (by omega) (nI w))]
theorem bo_digest (h : zInv mu lm) : zBoL cX7_digest 5 cX8_digest 5 [] mu lm := by
  obtain ⟨C, M, n, F⟩ := h.fa
  refine zboL (by decide) (by decide) (sp_X7_digest (d := 0) F.C F.C8 F.M F.M6 F.S (fun k hk => (h.rs k hk).2.1) (fun k hk => (h.ts k hk).2.1)) (sp_X8_digest (d := 0) F.C' F.C8 F.M' F.M6 F.S' (fun k hk => by rw [(h.rs k hk).1]; exact (h.rs k hk).2.1) (fun k hk => by rw [(h.ts k hk).1]; exact (h.ts k hk).2.1)) ?_ h
  have e1 : mg1 mu C M = dg1 mu C M := dgA_cong (fun w hw => zcnt_eq F h.rs h.ts (by omega))
  have e2 : mg2 mu C M = dg2 mu C M := by unfold mg2 dg2; rw [e1]; exact dgA_cong (fun q hq => F.air hq)
  have e3 : mg3 mu C M = dg3 mu C M := by unfold mg3 dg3; rw [e2]; exact dgM_eq F _ M (Nat.le_refl _)
  have e4 : mg4 mu C M = dg4 mu C M := by unfold mg4 dg4; rw [e3]; exact dgA_cong (fun k hk => (F.kp k hk).1)
  have e5 : mg5 mu C M = dg5 mu C M := by unfold mg5 dg5; rw [e4]; exact dgS_cong (fun k hk => ⟨(h.rs k hk).1, (h.rs k hk).2.2⟩)
  unfold mg6 dg6
  rw [e5]
  exact dgS_cong (fun k hk => ⟨(h.ts k hk).1, (h.ts k hk).2.2⟩)
/-! ===== notes ===== -/
theorem zall_cong {p q : Nat → Bool} : ∀ {m k : Nat}, (∀ i, i < m → p (k + i) = q (k + i)) → zall p m k = zall q m k
  | 0, _, _ => rfl
  | m + 1, k, h => by
    have ih : zall p m (k + 1) = zall q m (k + 1) := zall_cong (fun i hi => by
      have := h (i + 1) (by omega)
      rw [show k + (i + 1) = k + 1 + i by omega] at this
      exact this)
    rw [zall, zall, show p k = q k from h 0 (by omega), ih]
theorem zor_cong {f g : Nat → Int32} : ∀ {n : Nat}, (∀ k, k < n → f k = g k) → zor n f = zor n g
  | 0, _ => rfl
  | n + 1, h => by rw [zor, zor, zor_cong (fun k hk => h k (by omega)), h n (by omega)]
theorem zbt_cong {p q : Nat → Bool} {n : Nat} (h : ∀ k, k < n → p k = q k) : zbt p n = zbt q n := zor_cong (fun k hk => by rw [h k hk])
theorem nt_eq {k : Nat} (h : iRs mu) (hk : k < 6) : (mrfN mu k).1 = (rfNt mu (2 + 2 * k) (3 + 2 * k)).1 := by
  obtain ⟨e1, e2, e3⟩ := h k hk
  unfold mrfN rfNt
  rw [e1]
  rw [zall_cong (p := inP (itF mu k) 99) (q := fun i => decide (0 ≤ mu (3 + 2 * k) i ∧ mu (3 + 2 * k) i ≤ 99)) (m := (mu (2 + 2 * k) 1).toNatClampNeg) (k := 0) (fun i hi => by rw [Nat.zero_add]; unfold inP itF; rw [e3 i hi])]
  split
  · split
    · split <;> rfl
    · rfl
  · rfl
theorem nt_m {k : Nat} : (rfNt mu (2 + 2 * k) (3 + 2 * k)).1 = 0 ∨ (∃ f, f < 6 ∧ (rfNt mu (2 + 2 * k) (3 + 2 * k)) = (-3, fndM mu f) ∧ True) := by
  unfold rfNt
  split
  · split
    · split
      · exact Or.inl rfl
      · exact Or.inr ⟨3, by decide, rfl, trivial⟩
    · exact Or.inr ⟨5, by decide, rfl, trivial⟩
  · exact Or.inr ⟨1, by decide, rfl, trivial⟩
theorem nt_f {k : Nat} (h : iRs mu) (hk : k < 6) (m1 : Mem) (e47 : m1 47 = mu 47) (e48 : m1 48 = mu 48) : (mrfN m1 k).1 = (rfNt mu (2 + 2 * k) (3 + 2 * k)).1 ∧ ∀ f, rfNt mu (2 + 2 * k) (3 + 2 * k) = (-3, fndM mu f) → f < 6 → (mrfN m1 k).2 = fndD m1 f := by
  obtain ⟨e1, e2, e3⟩ := h k hk
  unfold mrfN rfNt
  rw [e47, e1]
  rw [zall_cong (p := inP (itF m1 k) 99) (q := fun i => decide (0 ≤ mu (3 + 2 * k) i ∧ mu (3 + 2 * k) i ≤ 99)) (m := (mu (2 + 2 * k) 1).toNatClampNeg) (k := 0) (fun i hi => by rw [Nat.zero_add]; unfold inP itF; rw [e48, e3 i hi])]
  have inj : ∀ {f g : Nat}, f < 6 → g < 6 → ((-3, fndM mu f) : Int32 × Mem) = (-3, fndM mu g) → f = g := by
    intro f g hf hg e
    have e' := congrFun (congrFun (congrArg Prod.snd e) 0) 9
    unfold fndM at e'
    simp only [zup_cf _ _ (show (0 : Nat) ≠ 45 by decide), zup_s] at e'
    exact (nI_eq (by omega) (by omega)).mp e'
  by_cases a : 0 ≤ mu (2 + 2 * k) 1
  · simp only [if_pos a]
    by_cases b : (mu (2 + 2 * k) 1).toNatClampNeg % 2 = 0 ∧ (mu (2 + 2 * k) 1).toNatClampNeg ≤ 16
    · simp only [if_pos b]
      by_cases c : zall (fun i => decide (0 ≤ mu (3 + 2 * k) i ∧ mu (3 + 2 * k) i ≤ 99)) (mu (2 + 2 * k) 1).toNatClampNeg 0 = true
      · simp only [if_pos c]
        refine ⟨by first | trivial | rfl, fun f e _ => ?_⟩
        exact absurd (show (0 : Int32) = -3 from congrArg Prod.fst e) (by decide)
      · simp only [if_neg c]
        refine ⟨by first | trivial | rfl, fun f e hf => ?_⟩
        rw [inj (by decide) hf e]
    · simp only [if_neg b]
      refine ⟨by first | trivial | rfl, fun f e hf => ?_⟩
      rw [inj (by decide) hf e]
  · simp only [if_neg a]
    refine ⟨by first | trivial | rfl, fun f e hf => ?_⟩
    rw [inj (by decide) hf e]
theorem nt_ok {k h' : Nat} (h : iRs mu) (hk : k < 6) (ho : ntOk mu (2 + 2 * k) (3 + 2 * k) h') : mtOk mu k h' ∧ ∀ q, q < 2 * h' → itF mu k q = mu (3 + 2 * k) q := by
  obtain ⟨e1, e2, e3⟩ := h k hk
  obtain ⟨o1, o2, o3⟩ := ho
  rw [o1, nI_clamp (by omega)] at e3
  refine ⟨⟨by rw [e1, o1], o2, ?_⟩, e3⟩
  rw [← o3]
  exact zall_cong (fun i hi => by rw [Nat.zero_add]; unfold inP itF; rw [e3 i hi])
theorem fit_cong {f g : Nat → Int32} {kd : Int32} {h : Nat} (e : ∀ q, q < 2 * h → f q = g q) : zall (fitP f kd) h 0 = zall (fitP g kd) h 0 := zall_cong (fun i hi => by rw [Nat.zero_add]; unfold fitP; rw [e (2 * i) (by omega), e (2 * i + 1) (by omega)])
theorem kFitG_cong {f g : Nat → Int32} {h : Nat} (e : ∀ q, q < 2 * h → f q = g q) : kFitG f h = kFitG g h := by
  unfold kFitG
  exact zor_cong (fun k _ => by rw [fit_cong e])
theorem bo_who (h : zInv mu lm) (r : Int32) : zBo cX7_who 6 cX8_who 4 [.int r] mu lm := by
  obtain ⟨C, M, n, F⟩ := h.fa
  by_cases hr : 0 ≤ r ∧ r < 6
  · obtain ⟨k, hk, rfl⟩ := zget hr (M := 6) rfl (by decide)
    obtain ⟨e1, e2, e3⟩ := zrow_at h.rs hk
    by_cases hf : (rfNt mu (2 + 2 * k) (3 + 2 * k)).1 = 0
    · obtain ⟨h', ho⟩ := ntOk_of (by decide) e2 hf
      obtain ⟨g1, g2⟩ := nt_ok h.rs hk ho
      refine zboR (by decide) (by decide) (sp_X7_who (d := 0) F.C F.C8 F.M F.M6 hk ho) (sp_X8_who (d := 0) F.C' F.C8 F.M' F.M6 hk (by rw [e1]; exact e2) g1) ?_ h
      refine zbt_cong (fun i hi => ?_)
      rw [fit_cong g2, F.kd hi]
      rfl
    · rcases nt_m (mu := mu) (k := k) with q | ⟨f, hf6, q, -⟩
      · exact absurd q hf
      · have hc := sp_X7_who_f (d := 0) (lm := lm) hk e2 hf
        have N := nt_f h.rs hk (fndM mu f) (fndM_c (by decide) (by decide)) (fndM_c (by decide) (by decide))
        rw [q] at hc
        have hm := sp_X8_who_f (d := 0) (mu := fndM mu f) (lm := lm) hk (by rw [fndM_c (by decide) (by decide), e1]; exact e2) (by rw [N.1]; exact hf)
        rw [N.2 f q hf6] at hm
        exact zboR (by decide) (by decide) hc hm rfl (h.fnd hf6)
  · exact zboR (by decide) (by decide) (sp_X7_who_n (d := 0) hr) (sp_X8_who_n (d := 0) hr) rfl h
theorem bo_kinds (h : zInv mu lm) (r : Int32) : zBo cX7_kinds 4 cX8_kinds 2 [.int r] mu lm := by
  by_cases hr : 0 ≤ r ∧ r < 6
  · obtain ⟨k, hk, rfl⟩ := zget hr (M := 6) rfl (by decide)
    obtain ⟨e1, e2, e3⟩ := zrow_at h.rs hk
    by_cases hf : (rfNt mu (2 + 2 * k) (3 + 2 * k)).1 = 0
    · obtain ⟨h', ho⟩ := ntOk_of (by decide) e2 hf
      obtain ⟨g1, g2⟩ := nt_ok h.rs hk ho
      exact zboR (by decide) (by decide) (sp_X7_kinds (d := 0) hk ho) (sp_X8_kinds (d := 0) hk (by rw [e1]; exact e2) g1) (by rw [kFit_G]; exact kFitG_cong g2) h
    · rcases nt_m (mu := mu) (k := k) with q | ⟨f, hf6, q, -⟩
      · exact absurd q hf
      · have hc := sp_X7_kinds_f (d := 0) (lm := lm) hk e2 hf
        have N := nt_f h.rs hk (fndM mu f) (fndM_c (by decide) (by decide)) (fndM_c (by decide) (by decide))
        rw [q] at hc
        have hm := sp_X8_kinds_f (d := 0) (mu := fndM mu f) (lm := lm) hk (by rw [fndM_c (by decide) (by decide), e1]; exact e2) (by rw [N.1]; exact hf)
        rw [N.2 f q hf6] at hm
        exact zboR (by decide) (by decide) hc hm rfl (h.fnd hf6)
  · exact zboR (by decide) (by decide) (sp_X7_kinds_n (d := 0) hr) (sp_X8_kinds_n (d := 0) hr) rfl h
theorem bo_leaks (h : zInv mu lm) (r : Int32) : zBo cX7_leaks 5 cX8_leaks 8 [.int r] mu lm := by
  by_cases hr : 0 ≤ r ∧ r < 6
  · obtain ⟨k, hk, rfl⟩ := zget hr (M := 6) rfl (by decide)
    obtain ⟨e1, e2, e3⟩ := zrow_at h.rs hk
    have hc : ∀ c, c ≠ 0 → c ≠ 45 → (cLk mu (2 + 2 * k) (3 + 2 * k)).2 c = mu c := by
      intro c c0 c45
      unfold cLk
      split
      · split
        · exact fndM_c c0 c45
        · split
          · rfl
          · exact fndM_c c0 c45
      · exact fndM_c c0 c45
    have ea : zall (inP (itF mu k) 999) (mu (2 + 2 * k) 1).toNatClampNeg 0 = zall (fun i => decide (0 ≤ mu (3 + 2 * k) i ∧ mu (3 + 2 * k) i ≤ 999)) (mu (2 + 2 * k) 1).toNatClampNeg 0 := zall_cong (fun i hi => by rw [Nat.zero_add]; unfold inP itF; rw [e3 i hi])
    have eb : (mu (2 + 2 * k) 1).toNatClampNeg ≠ 0 → lkG (itF mu k) ((mu (2 + 2 * k) 1).toNatClampNeg - 1) = lkB mu (3 + 2 * k) ((mu (2 + 2 * k) 1).toNatClampNeg - 1) := by
      intro h0
      rw [lkB_G]
      unfold lkG
      exact zbt_cong (fun i _ => zall_cong (fun t ht => by rw [Nat.zero_add]; unfold lkP itF; rw [e3 (t + 1) (by omega), e3 t (by omega)]))
    have ei : ∀ m1 : Mem, m1 48 = mu 48 → itF m1 k = itF mu k := fun m1 e => by unfold itF; rw [e]
    refine zboR (by decide) (by decide) (sp_X7_leaks (d := 0) hk e2) (sp_X8_leaks (d := 0) hk (by rw [hc 47 (by decide) (by decide), e1]; exact e2)) ?_ ?_
    · unfold mLk
      rw [ei _ (hc 48 (by decide) (by decide)), hc 47 (by decide) (by decide), e1, ea]
      unfold cLk
      by_cases h1 : 0 ≤ mu (2 + 2 * k) 1
      · by_cases h2 : mu (2 + 2 * k) 1 = 0
        · simp only [if_pos h1, if_pos h2]
        · simp only [if_pos h1, if_neg h2]
          by_cases h3 : zall (fun i => decide (0 ≤ mu (3 + 2 * k) i ∧ mu (3 + 2 * k) i ≤ 999)) (mu (2 + 2 * k) 1).toNatClampNeg 0 = true
          · simp only [if_pos h3]
            refine eb (fun q => h2 ?_)
            obtain ⟨j, hj, ej⟩ := zsz_pos e2 (by decide) h1
            rw [ej, nI_clamp (by omega)] at q
            rw [ej, q]; rfl
          · simp only [if_neg h3]
      · simp only [if_neg h1]
    · unfold mLk
      rw [ei _ (hc 48 (by decide) (by decide)), hc 47 (by decide) (by decide), e1, ea]
      unfold cLk
      by_cases h1 : 0 ≤ mu (2 + 2 * k) 1
      · by_cases h2 : mu (2 + 2 * k) 1 = 0
        · simp only [if_pos h1, if_pos h2]
          exact h.fnd (by decide)
        · simp only [if_pos h1, if_neg h2]
          by_cases h3 : zall (fun i => decide (0 ≤ mu (3 + 2 * k) i ∧ mu (3 + 2 * k) i ≤ 999)) (mu (2 + 2 * k) 1).toNatClampNeg 0 = true
          · simp only [if_pos h3]
            exact h
          · simp only [if_neg h3]
            exact h.fnd (by decide)
      · simp only [if_neg h1]
        exact h.fnd (by decide)
  · exact zboR (by decide) (by decide) (sp_X7_leaks_n (d := 0) hr) (sp_X8_leaks_n (d := 0) hr) rfl h
end M70
