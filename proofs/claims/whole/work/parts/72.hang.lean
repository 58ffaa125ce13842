section M72
variable {mu : Mem} {lm : MemL}
/-! ===== window ===== -/
theorem bts_lt : ∀ C, C < 9 → ∀ k, k < 2 ^ C - 1 → bts (nI k) < bts (nI (2 ^ C - 1)) := by decide +kernel
theorem full_bit : ∀ C, C < 9 → ∀ k, k < C → (nI (2 ^ C - 1) >>> (nI k &&& 31)) &&& 1 = 1 := by decide +kernel
theorem out_eq {C M n : Nat} (F : zF mu C M n) (o : Int32) : lftS mu C o = outS mu C o := by
  unfold lftS outS
  refine zsum_cong (fun k hk => ?_)
  rw [F.air hk]
  rcases zbit (o >>> (nI k &&& 31)) with q | q
  · rw [q, if_neg zi01, if_pos rfl]
  · rw [q, if_pos rfl, if_neg zi10]
theorem zsum_0 : ∀ n, zsum n (fun _ => 0) = 0
  | 0 => rfl
  | n + 1 => by rw [zsum_s, zsum_0 n]; rfl
theorem bcE_b {k : Nat} (h : k < 256) : bcE (nI k) = bts (nI k) := bcE_n k h
theorem win_eq {C M n : Nat} (F : zF mu C M n) {w : Int32} (hw : 0 ≤ w) : wR mu C w (2 ^ C) = wB mu C w (2 ^ C - 1) := by
  have hC8 := F.C8
  have hp : 2 ^ C ≤ 256 := zpow hC8
  have hp0 : 0 < 2 ^ C := Nat.pow_pos (by decide)
  have inv : ∀ k, k ≤ 2 ^ C - 1 → (wR mu C w k = -9 ∧ wB mu C w k = nI (2 ^ C - 1)) ∨ ∃ j, j < 2 ^ C - 1 ∧ wR mu C w k = nI j ∧ wB mu C w k = nI j := by
    intro k
    induction k with
    | zero => intro _; exact Or.inl ⟨rfl, rfl⟩
    | succ k ih =>
      intro hk
      rw [wR_s, wB_s, out_eq F, bcE_b (by omega)]
      rcases ih (by omega) with ⟨a, b⟩ | ⟨j, hj, a, b⟩
      · rw [a, b, bcE_b (by omega)]
        have hb := bts_lt C (by omega) k (by omega)
        by_cases q : outS mu C (nI k) ≤ w
        · rw [if_pos ⟨q, Or.inl rfl⟩, if_pos ⟨hb, q⟩]
          exact Or.inr ⟨k, by omega, rfl, rfl⟩
        · rw [if_neg (fun z => q z.1), if_neg (fun z => q z.2)]
          exact Or.inl ⟨rfl, rfl⟩
      · rw [a, b, bcE_b (by omega)]
        by_cases q : outS mu C (nI k) ≤ w ∧ bts (nI k) < bts (nI j)
        · rw [if_pos ⟨q.1, Or.inr q.2⟩, if_pos ⟨q.2, q.1⟩]
          exact Or.inr ⟨k, by omega, rfl, rfl⟩
        · rw [if_neg, if_neg (fun z => q ⟨z.2, z.1⟩)]
          · exact Or.inr ⟨j, hj, rfl, rfl⟩
          · rintro ⟨z1, z2 | z2⟩
            · exact nI_ne9 (by omega) z2
            · exact q ⟨z1, z2⟩
  have e : 2 ^ C = (2 ^ C - 1) + 1 := by omega
  rw [show wR mu C w (2 ^ C) = wR mu C w (2 ^ C - 1 + 1) by rw [← e], wR_s]
  have h0 : lftS mu C (nI (2 ^ C - 1)) = 0 := by
    unfold lftS
    rw [zsum_cong (g := fun _ => 0) (fun k hk => by rw [if_pos (full_bit C (by omega) k hk)])]
    exact zsum_0 C
  rcases inv (2 ^ C - 1) (Nat.le_refl _) with ⟨a, b⟩ | ⟨j, hj, a, b⟩
  · rw [a, b, if_pos ⟨by rw [h0]; exact hw, Or.inl rfl⟩]
  · rw [a, b, if_neg]
    rintro ⟨-, z | z⟩
    · exact nI_ne9 (by omega) z
    · have := bts_lt C (by omega) j hj
      simp only [zlt] at z this
      omega
theorem wB_lt {C : Nat} {w : Int32} (hC8 : C ≤ 8) : ∀ k, k ≤ 256 → ∃ j, j < 256 ∧ wB mu C w k = nI j
  | 0, _ => ⟨2 ^ C - 1, by have := zpow hC8; have : 0 < 2 ^ C := Nat.pow_pos (by decide); omega, rfl⟩
  | k + 1, hk => by
    rw [wB_s]
    split
    · exact ⟨k, by omega, rfl⟩
    · exact wB_lt hC8 k (by omega)
theorem bo_window (h : zInv mu lm) (w : Int32) : zBo cX7_window 6 cX8_window 6 [.int w] mu lm := by
  obtain ⟨C, M, n, F⟩ := h.fa
  by_cases hw : 0 ≤ w ∧ w ≤ 7992
  · by_cases hM : mu 23 6 = 0
    · exact zboR (by decide) (by decide) (sp_X7_window_0 (d := 0) hw hM) (sp_X8_window_0 (d := 0) hw (by rw [F.c4]; exact hM)) rfl h
    · have hM0 : 0 < M := by
        apply Nat.pos_of_ne_zero
        intro q
        apply hM
        rw [F.M, q]; rfl
      have hc := sp_X7_window (d := 0) (mu := mu) (lm := lm) F.C F.C8 F.M F.M6 hM0 hw
      have eW := win_eq F hw.1
      obtain ⟨j, hj, ej⟩ := wB_lt (mu := mu) (w := w) F.C8 (2 ^ C - 1) (by have := zpow F.C8; omega)
      have F1 := F.sm (zSm.t0 (wB mu C w (2 ^ C - 1)))
      have hm := sp_X8_window (d := 0) (lm := lm) F1.C' F1.C8 F1.M' F1.M6 hM0 hw
      have e1 : ∀ k, wR (zk_up mu 0 10 (wB mu C w (2 ^ C - 1))) C w k = wR mu C w k := by
        intro k
        induction k with
        | zero => rfl
        | succ k ih => rw [wR_s, wR_s, ih]; unfold lftS; rw [zup_cf _ _ (by decide)]
      rw [e1, eW] at hm
      exact zboR (by decide) (by decide) hc hm (by rw [ej, bcE_b hj]) (h.tell _)
  · exact zboR (by decide) (by decide) (sp_X7_window_n (d := 0) hw) (sp_X8_window_n (d := 0) hw) rfl h
/-! ===== sums of naturals ===== -/
theorem zsum_nsum {f : Nat → Int32} {g : Nat → Nat} : ∀ {n : Nat}, (∀ q, q < n → f q = nI (g q)) → zsum n f = nI (nsum n g)
  | 0, _ => rfl
  | n + 1, h => by rw [zsum_s, nsum, zsum_nsum (n := n) (fun q hq => h q (by omega)), h n (by omega), nI_add]
theorem nsum_cong {f g : Nat → Nat} : ∀ {n : Nat}, (∀ q, q < n → f q = g q) → nsum n f = nsum n g
  | 0, _ => rfl
  | n + 1, h => by rw [nsum, nsum, nsum_cong (n := n) (fun q hq => h q (by omega)), h n (by omega)]
theorem nsum_f {f : Nat → Nat} : ∀ n, nsum (n + 1) f = f 0 + nsum n (fun q => f (q + 1))
  | 0 => by rw [nsum, nsum, nsum]; omega
  | n + 1 => by rw [nsum, nsum_f n, nsum]; omega
theorem nsum_rev {f : Nat → Nat} : ∀ n, nsum n (fun q => f (n - 1 - q)) = nsum n f
  | 0 => rfl
  | n + 1 => by
    have e : nsum n (fun q => f (n + 1 - 1 - (q + 1))) = nsum n f := (nsum_cong (fun q hq => by rw [show n + 1 - 1 - (q + 1) = n - 1 - q by omega])).trans (nsum_rev n)
    rw [nsum_f, nsum, e, show n + 1 - 1 - 0 = n by omega, Nat.add_comm]
theorem nsum_mul {f : Nat → Nat} (c : Nat) : ∀ n, c * nsum n f = nsum n (fun q => c * f q)
  | 0 => rfl
  | n + 1 => by rw [nsum, nsum, Nat.mul_add, nsum_mul c n]
theorem nsum_le2 {f : Nat → Nat} {b : Nat} : ∀ {n : Nat}, (∀ q, q < n → f q ≤ b) → nsum n f ≤ b * n
  | 0, _ => Nat.zero_le _
  | n + 1, h => by
    rw [nsum, Nat.mul_add, Nat.mul_one]
    have := nsum_le2 (n := n) (fun q hq => h q (by omega))
    have := h n (by omega)
    omega
theorem nsum_0 {f : Nat → Nat} : ∀ {n : Nat}, nsum n f = 0 ↔ ∀ q, q < n → f q = 0
  | 0 => ⟨fun _ q hq => absurd hq (Nat.not_lt_zero _), fun _ => rfl⟩
  | n + 1 => by
    rw [nsum]
    have ih := nsum_0 (f := f) (n := n)
    constructor
    · intro h q hq
      by_cases e : q = n
      · subst e; omega
      · exact ih.mp (by omega) q (by omega)
    · intro h
      have h1 := ih.mpr (fun q hq => h q (by omega))
      have h2 := h n (by omega)
      omega
/-- the air in naturals -/
def nA (mu : Mem) (q : Nat) : Nat := (mu 27 q).toNatClampNeg
def nL (mu : Mem) : Nat := (mu 23 4).toNatClampNeg
theorem zF.nA {C M n q : Nat} (F : zF mu C M n) (hq : q < C) : mu 27 q = nI (nA mu q) ∧ nA mu q ≤ 999 := by
  have := F.A q hq
  rw [F.air hq] at this
  obtain ⟨X, hX, e⟩ := zin_n (b := 999) (by decide) this
  unfold Jvm.Pilot.@@N@@.nA
  rw [e, nI_clamp (by omega)]
  exact ⟨rfl, hX⟩
theorem zF.nL {C M n : Nat} (F : zF mu C M n) : mu 23 4 = nI (nL mu) ∧ nL mu ≤ 9 := by
  obtain ⟨X, hX, e⟩ := zin_n (b := 9) (by decide) F.L
  unfold Jvm.Pilot.@@N@@.nL
  rw [e, nI_clamp (by omega)]
  exact ⟨rfl, hX⟩
/-- all that hangs h hours later -/
def aN (mu : Mem) (C h : Nat) : Nat := nsum C (fun q => nA mu q - nL mu * h)
theorem aN_c {C M n h : Nat} (F : zF mu C M n) (hh : h ≤ 2000) : aIn mu C (nI h) = nI (aN mu C h) := by
  unfold aIn aN
  refine zsum_nsum (fun q hq => ?_)
  rw [(F.nA hq).1, F.nL.1, hm_n (F.nA hq).2 F.nL.2 hh]
theorem aN_le {C M n h : Nat} (F : zF mu C M n) : aN mu C h ≤ 7992 := by
  have := nsum_le2 (n := C) (f := fun q => nA mu q - nL mu * h) (b := 999) (fun q hq => by have := (F.nA hq).2; omega)
  have := F.C8
  unfold aN
  omega
theorem aN_m {C M n h : Nat} (F : zF mu C M n) (hh : h ≤ 2000) : aInM mu C h = nI (aN mu C h) := by
  rw [← aN_c F hh]
  unfold aInM aIn
  refine zsum_cong (fun q hq => ?_)
  rw [F.air hq, F.lk]
/-! ===== clear ===== -/
theorem zfst_at {p : Nat → Bool} {df : Int32} : ∀ {i m j : Nat}, i < m → p (j + i) = true → (∀ i', i' < i → p (j + i') = false) → zfst p df m j = nI (j + i)
  | 0, m + 1, j, _, h, _ => by rw [zfst, if_pos (show p j = true from h)]; rfl
  | i + 1, m + 1, j, hi, h, hn => by
    rw [zfst, if_neg (by rw [show p j = false from hn 0 (by omega)]; decide)]
    rw [zfst_at (i := i) (m := m) (j := j + 1) (by omega) (by rw [← h]; congr 1; omega) (fun i' hi' => by rw [← hn (i' + 1) (by omega)]; congr 1; omega)]
    congr 1; omega
theorem zfst_no {p : Nat → Bool} {df : Int32} : ∀ {m j : Nat}, (∀ i, i < m → p (j + i) = false) → zfst p df m j = df
  | 0, _, _ => rfl
  | m + 1, j, h => by
    rw [zfst, if_neg (by rw [show p j = false from h 0 (by omega)]; decide)]
    exact zfst_no (fun i hi => by rw [← h (i + 1) (by omega)]; congr 1; omega)
def nmx : Nat → (Nat → Nat) → Nat
  | 0, _ => 0
  | k + 1, f => max (nmx k f) (f k)
theorem nmx_le {f : Nat → Nat} {b : Nat} : ∀ {n : Nat}, nmx n f ≤ b ↔ ∀ q, q < n → f q ≤ b
  | 0 => ⟨fun _ q hq => absurd hq (Nat.not_lt_zero _), fun _ => Nat.zero_le _⟩
  | n + 1 => by
    rw [nmx]
    have ih := nmx_le (f := f) (b := b) (n := n)
    constructor
    · intro h q hq
      by_cases e : q = n
      · subst e; omega
      · exact ih.mp (by omega) q (by omega)
    · intro h
      have h1 := ih.mpr (fun q hq => h q (by omega))
      have h2 := h n (by omega)
      omega
theorem zmx_n {f : Nat → Int32} {g : Nat → Nat} : ∀ {n : Nat}, (∀ q, q < n → f q = nI (g q) ∧ g q ≤ 999999) → zmx n f = nI (nmx n g) ∧ nmx n g ≤ 999999
  | 0, _ => ⟨rfl, Nat.zero_le _⟩
  | n + 1, h => by
    obtain ⟨a, b⟩ := zmx_n (n := n) (fun q hq => h q (by omega))
    obtain ⟨c, d⟩ := h n (by omega)
    rw [zmx, nmx, a, c, zmax_n (by omega) (by omega)]
    exact ⟨rfl, by omega⟩
theorem clr_eq {C M n : Nat} (F : zF mu C M n) (hM0 : 0 < M) : zfst (clP mu C) (-9) 1001 0 = cClr mu C := by
  have hp : ∀ k, k ≤ 2000 → (clP mu C k = true ↔ nmx C (nA mu) ≤ nL mu * k) := by
    intro k hk
    unfold clP
    rw [decide_eq_true_iff]
    show aInM mu C k = 0 ↔ _
    rw [aN_m F hk, nI0, nI_eq (by have := aN_le (h := k) F; omega) (by decide)]
    unfold aN
    rw [nsum_0, nmx_le]
    exact ⟨fun h q hq => by have := h q hq; omega, fun h q hq => by have := h q hq; omega⟩
  have hf : ∀ k, k ≤ 2000 → ¬ nmx C (nA mu) ≤ nL mu * k → clP mu C k = false := fun k hk q => by
    cases e : clP mu C k
    · rfl
    · exact absurd ((hp k hk).mp e) q
  obtain ⟨z1, z2⟩ := zmx_n (n := C) (f := mu 27) (g := nA mu) (fun q hq => ⟨(F.nA hq).1, by have := (F.nA hq).2; omega⟩)
  have hX : nmx C (nA mu) ≤ 999 := nmx_le.mpr (fun q hq => (F.nA hq).2)
  have hL := F.nL
  generalize nmx C (nA mu) = X at hp hf z1 z2 hX
  generalize nL mu = L at hp hf hL
  unfold cClr
  rw [if_neg (by rw [F.M]; exact nI_ne0 hM0 (by have := F.M6; omega)), z1, hL.1]
  by_cases h0 : X = 0
  · rw [if_pos (by rw [h0]; rfl), zfst_at (i := 0) (by decide) ((hp 0 (by omega)).mpr (by omega)) (fun i hi => by omega)]
    rfl
  · rw [if_neg (nI_ne0 (by omega) (by omega))]
    by_cases l0 : L = 0
    · rw [if_pos (by rw [l0]; rfl)]
      refine zfst_no (fun i hi => hf _ (by omega) ?_)
      rw [l0, Nat.zero_mul]
      omega
    · rw [if_neg (nI_ne0 (by omega) (by omega)), nI_add, show (1 : Int32) = nI 1 from rfl, nI_sub (by omega), pk_div (by omega) (by omega) (by omega)]
      have hd : ∀ k, X ≤ L * k ↔ (X + L - 1) / L ≤ k := by
        intro k
        rw [Nat.div_le_iff_le_mul (by omega), Nat.mul_comm k L]
        omega
      have hle : (X + L - 1) / L ≤ 999 := (hd 999).mp (by have : L * 999 ≥ 1 * 999 := Nat.mul_le_mul_right _ (by omega); omega)
      generalize (X + L - 1) / L = N at hd hle
      rw [zfst_at (i := N) (by omega) ((hp _ (by omega)).mpr (by rw [Nat.zero_add]; exact (hd N).mpr (Nat.le_refl _))) (fun i hi => hf _ (by omega) (by rw [Nat.zero_add, hd]; omega)), Nat.zero_add]
theorem bo_clear (h : zInv mu lm) : zBo cX7_clear 2 cX8_clear 2 [] mu lm := by
  obtain ⟨C, M, n, F⟩ := h.fa
  have hc := sp_X7_clear (d := 0) (mu := mu) (lm := lm) F.C F.C8 F.M F.M6
  by_cases hM : mu 23 6 = 0
  · refine zboR (by decide) (by decide) hc (sp_X8_clear_0 (d := 0) (by rw [F.c4]; exact hM)) ?_ h
    unfold cClr
    rw [if_pos hM]
  · have hM0 : 0 < M := by
      apply Nat.pos_of_ne_zero
      intro q
      apply hM
      rw [F.M, q]; rfl
    refine zboK (by decide) (by decide) hc (sp_X8_clear (d := 0) F.C' F.C8 F.M' F.M6 F.A F.L' hM0) (fun r2 m2 l2 q => ?_)
    obtain ⟨rfl, rfl, q⟩ := q
    exact ⟨by rw [clr_eq F hM0], h.s56 q⟩
/-! ===== odds, mid ===== -/
theorem ptR_a {k P s : Nat} : ∀ h, h ≤ k → ptR k P s h = s * (12 - P) ^ h
  | 0, _ => by rw [ptR, Nat.pow_zero, Nat.mul_one]
  | h + 1, hk => by rw [ptR, ptR_a h (by omega), if_pos (by omega), Nat.pow_succ, Nat.mul_assoc]
theorem ptR_b {k P s : Nat} : ∀ i, ptR k P s (k + 1 + i) = s * (12 - P) ^ k * 12 ^ i
  | 0 => by rw [Nat.add_zero, ptR, ptR_a k (Nat.le_refl _), if_neg (by omega), if_neg (by omega), Nat.pow_zero]
  | i + 1 => by rw [show k + 1 + (i + 1) = k + 1 + i + 1 by omega, ptR, ptR_b i, if_neg (by omega), if_pos (by omega), Nat.pow_succ, Nat.mul_assoc]
theorem pOf_a {k N P : Nat} (h : k < N) : pOf k N P = P * (12 - P) ^ k * 12 ^ (N - 1 - k) := by
  unfold pOf
  rw [if_pos h]
  have := ptR_b (k := k) (P := P) (s := P) (N - 1 - k)
  rwa [show k + 1 + (N - 1 - k) = N by omega] at this
theorem pOf_b {N P : Nat} : pOf N N P = (12 - P) ^ N := by
  unfold pOf
  rw [if_neg (by omega), ptR_a N (Nat.le_refl _), Nat.mul_div_cancel_left _ (by decide)]
theorem tA_sum {w : Nat → Nat} {P N : Nat} : ∀ k, k ≤ N → tA w P N k = nsum k (fun i => w (N - k + i) * (P * (12 - P) ^ i * 12 ^ (k - 1 - i))) + w N * (12 - P) ^ k
  | 0, _ => by rw [tA, nsum, Nat.pow_zero, Nat.mul_one, Nat.zero_add]
  | k + 1, hk => by
    rw [tA, tA_sum k (by omega), nsum_f, Nat.mul_add, nsum_mul]
    rw [nsum_cong (n := k) (f := fun q => w (N - (k + 1) + (q + 1)) * (P * (12 - P) ^ (q + 1) * 12 ^ (k + 1 - 1 - (q + 1)))) (g := fun q => (12 - P) * (w (N - k + q) * (P * (12 - P) ^ q * 12 ^ (k - 1 - q)))) (fun q hq => by
      rw [show N - (k + 1) + (q + 1) = N - k + q by omega, show k + 1 - 1 - (q + 1) = k - 1 - q by omega, Nat.pow_succ]
      ac_rfl)]
    rw [show N - (k + 1) + 0 = N - 1 - k by omega, Nat.pow_zero, Nat.mul_one, show k + 1 - 1 - 0 = k by omega, Nat.pow_succ]
    rw [Nat.add_assoc]
    congr 1
    · ac_rfl
    · congr 1
      ac_rfl
theorem up_eq {w : Nat → Nat} {P N : Nat} : upS w N P (N + 1) = tA w P N N := by
  rw [tA_sum N (Nat.le_refl _)]
  unfold upS
  rw [nsum, pOf_b]
  congr 1
  refine nsum_cong (fun q hq => ?_)
  rw [pOf_a hq, show N - N + q = q by omega]
theorem tel_S {A B N : Nat} {l1 : MemL} (h : iS mu lm) (e1 : l1 46 = lm 46) (e2 : l1 0 = lm 0) (hB : B < 2 ^ 63) : iS mu (telD (tellL l1 A B) A B) := by
  obtain ⟨a, b, c, d, e⟩ := h
  refine ⟨a, ?_, ?_, d, e⟩
  · unfold telD tellL
    rw [eu_200 hB, zup_k _ _ _ (by decide), zup_s, zup_cf _ _ (by decide), zup_cf _ _ (by decide), zup_k _ _ _ (by decide), zup_s]
  · unfold telD tellL
    rw [eu_200 hB, zup_s, zup_cf _ _ (by decide), zup_cf _ _ (by decide), zup_s]
theorem p12 {N : Nat} (h : N ≤ 6) : 12 ^ N < 2 ^ 63 := Nat.lt_of_le_of_lt (Nat.pow_le_pow_right (by decide) h) (by decide)
theorem bo_odds (h : zInv mu lm) (w m p : Int32) : zBo cX7_odds 5 cX8_odds 7 [.int w, .int m, .int p] mu lm := by
  obtain ⟨C, M, n, F⟩ := h.fa
  by_cases hb : (0 ≤ w ∧ w ≤ 7992) ∧ (0 ≤ m ∧ m ≤ 6) ∧ (0 ≤ p ∧ p ≤ 12)
  · by_cases hM : mu 23 6 = 0
    · exact zboR (by decide) (by decide) (sp_X7_odds_0 (d := 0) hb hM) (sp_X8_odds_0 (d := 0) hb (by rw [F.c4]; exact hM)) rfl h
    · have hM0 : 0 < M := by
        apply Nat.pos_of_ne_zero
        intro q
        apply hM
        rw [F.M, q]; rfl
      obtain ⟨N, hN, rfl⟩ := zgetl (M := 6) hb.2.1 (by decide)
      obtain ⟨P, hP, rfl⟩ := zgetl (M := 12) hb.2.2 (by decide)
      have hw2 : ∀ h, (fun h => if w ≤ aIn mu C (nI h) then 1 else 0) h ≤ 7992 := fun h => by
        simp only
        split <;> decide
      have hc := sp_X7_odds (d := 0) (mu := mu) (lm := lm) F.C F.C8 F.M F.M6 hM0 hN hP (fun h => if w ≤ aIn mu C (nI h) then 1 else 0) (fun h _ => hw2 h) hb.1 (fun h _ => rfl)
      have hm := sp_X8_odds (d := 0) (mu := mu) (lm := tellL (wthL lm (fun h => lN ((fun h => if w ≤ aIn mu C (nI h) then 1 else 0) h)) (N + 1)) (tA (fun h => if w ≤ aIn mu C (nI h) then 1 else 0) P N N) (12 ^ N)) F.C' F.C8 F.M' F.M6 F.A F.L' hM0 hN hP (fun h => if w ≤ aIn mu C (nI h) then 1 else 0) hw2 hb.1 (fun h hh => by rw [aN_m F (by omega), ← aN_c F (by omega)])
      rw [up_eq] at hm
      refine zboK (by decide) (by decide) hc hm (fun r2 m2 l2 q => ?_)
      obtain ⟨rfl, rfl, q⟩ := q
      exact ⟨rfl, h.told (zSm.s56 q) (tel_S (N := N) (h.st.fr (q 0 (by decide)) (q 45 (by decide)) (q 51 (by decide)) (fun k _ => by rw [q 46 (by decide)])) (by unfold wthL; rw [zuc_c _ _ (by decide)]) (by unfold wthL; rw [zuc_c _ _ (by decide)]) (p12 hN))⟩
  · exact zboR (by decide) (by decide) (sp_X7_odds_n (d := 0) w m p hb) (sp_X8_odds_n (d := 0) w m p hb) rfl h
theorem bo_mid (h : zInv mu lm) (m p : Int32) : zBo cX7_mid 4 cX8_mid 6 [.int m, .int p] mu lm := by
  obtain ⟨C, M, n, F⟩ := h.fa
  by_cases hb : (0 ≤ m ∧ m ≤ 6) ∧ (0 ≤ p ∧ p ≤ 12)
  · by_cases hM : mu 23 6 = 0
    · exact zboR (by decide) (by decide) (sp_X7_mid_0 (d := 0) hb hM) (sp_X8_mid_0 (d := 0) hb (by rw [F.c4]; exact hM)) rfl h
    · have hM0 : 0 < M := by
        apply Nat.pos_of_ne_zero
        intro q
        apply hM
        rw [F.M, q]; rfl
      obtain ⟨N, hN, rfl⟩ := zgetl (M := 6) hb.1 (by decide)
      obtain ⟨P, hP, rfl⟩ := zgetl (M := 12) hb.2 (by decide)
      have hc := sp_X7_mid (d := 0) (mu := mu) (lm := lm) F.C F.C8 F.M F.M6 hM0 hN hP (aN mu C) (fun h _ => aN_le F) (fun h hh => aN_c F (by omega))
      have hm := sp_X8_mid (d := 0) (mu := mu) (lm := tellL (wthL lm (fun h => lN (aN mu C h)) (N + 1)) (tA (aN mu C) P N N) (12 ^ N)) F.C' F.C8 F.M' F.M6 F.A F.L' hM0 hN hP (aN mu C) (fun h => aN_le F) (fun h hh => aN_m F (by omega))
      rw [up_eq] at hm
      refine zboK (by decide) (by decide) hc hm (fun r2 m2 l2 q => ?_)
      obtain ⟨rfl, rfl, q⟩ := q
      exact ⟨rfl, h.told (zSm.s56 q) (tel_S (N := N) (h.st.fr (q 0 (by decide)) (q 45 (by decide)) (q 51 (by decide)) (fun k _ => by rw [q 46 (by decide)])) (by unfold wthL; rw [zuc_c _ _ (by decide)]) (by unfold wthL; rw [zuc_c _ _ (by decide)]) (p12 hN))⟩
  · exact zboR (by decide) (by decide) (sp_X7_mid_n (d := 0) m p hb) (sp_X8_mid_n (d := 0) m p hb) rfl h
end M72
