section M75
variable {mu : Mem} {lm : MemL}
/-! ===== the small language: the class's signs, the model's reader ===== -/
theorem fltR_cong {f g : Nat → Int32} {n : Nat} : ∀ (m i s : Nat) (cells : Int32), (∀ q, i ≤ q → q < i + m → f q = g q) → fltR f n m i s cells = fltR g n m i s cells
  | 0, _, _, _, _ => rfl
  | m + 1, i, s, cells, h => by
    rw [fltR_s, fltR_s, h i (by omega) (by omega), fltR_cong m (i + 1) s cells (fun q a b => h q (by omega) (by omega)), fltR_cong m (i + 1) (s + 1) (if s = 2 then g i - 48 else cells) (fun q a b => h q (by omega) (by omega))]
theorem setR_cong {f g : Nat → Int32} : ∀ (m i s : Nat) (nu : Mem), (∀ q, i ≤ q → q < i + m → f q = g q) → setR f m i s nu = setR g m i s nu
  | 0, _, _, _, _ => rfl
  | m + 1, i, s, nu, h => by
    rw [setR_s, setR_s, h i (by omega) (by omega), setR_cong m (i + 1) s nu (fun q a b => h q (by omega) (by omega)), setR_cong m (i + 1) (s + 1) (stpM nu s (g i)) (fun q a b => h q (by omega) (by omega))]
theorem lt_lo {f : Nat → Int32} {n p : Nat} (h : p < n) : lt f n p = f p := if_pos h
theorem skp_hi {f : Nat → Int32} {n p : Nat} (h : n ≤ p) : skp f n p = p := by rw [skp_s, lt_hi h, if_neg (by decide)]
theorem skp_no {f : Nat → Int32} {n : Nat} : ∀ m p, n - p ≤ m → ¬ lt f n (skp f n p) = 32
  | 0, p, h => by
    rw [skp_hi (by omega), lt_hi (by omega)]
    decide
  | m + 1, p, h => by
    by_cases q : lt f n p = 32
    · rw [skp_s, if_pos q]
      exact skp_no m (p + 1) (by omega)
    · rw [skp_s, if_neg q]
      exact q
theorem fltR_sk {f : Nat → Int32} {n s : Nat} {cells : Int32} (hs : btw s = true) : ∀ m i, i + m = n → fltR f n m i s cells = fltR f n (n - skp f n i) (skp f n i) s cells
  | 0, i, h => by rw [skp_hi (by omega), show n - i = 0 by omega]
  | m + 1, i, h => by
    by_cases q : f i = 32
    · have e : skp f n i = skp f n (i + 1) := by rw [skp_s, lt_lo (by omega), if_pos q]
      rw [e, fltR_s, if_pos ⟨q, hs⟩]
      exact fltR_sk hs m (i + 1) (by omega)
    · have e : skp f n i = i := by rw [skp_s, lt_lo (by omega), if_neg q]
      rw [e, show n - i = m + 1 by omega]
theorem setR_sk {f : Nat → Int32} {n s : Nat} {nu : Mem} : ∀ m i, i + m = n → setR f m i s nu = setR f (n - skp f n i) (skp f n i) s nu
  | 0, i, h => by rw [skp_hi (by omega), show n - i = 0 by omega]
  | m + 1, i, h => by
    by_cases q : f i = 32
    · have e : skp f n i = skp f n (i + 1) := by rw [skp_s, lt_lo (by omega), if_pos q]
      rw [e, setR_s, if_pos q]
      exact setR_sk m (i + 1) (by omega)
    · have e : skp f n i = i := by rw [skp_s, lt_lo (by omega), if_neg q]
      rw [e, show n - i = m + 1 by omega]
theorem sb_k (x : Int32) : (sbv x = kLet x ∧ 0 ≤ sbv x ∧ ¬ kLet x = -9) ∨ (¬ 0 ≤ sbv x ∧ kLet x = -9) := by
  by_cases h1 : x = 97
  · subst h1; left; decide
  by_cases h2 : x = 98
  · subst h2; left; decide
  by_cases h3 : x = 102
  · subst h3; left; decide
  by_cases h4 : x = 109
  · subst h4; left; decide
  by_cases h5 : x = 118
  · subst h5; left; decide
  by_cases h6 : x = 121
  · subst h6; left; decide
  right
  unfold sbv kLet
  simp only [if_neg h1, if_neg h2, if_neg h3, if_neg h4, if_neg h5, if_neg h6]
  decide
theorem btw_o (mm : Nat) : btw (3 + 2 * mm) = true := by
  unfold btw
  rw [show (3 + 2 * mm - 3) % 2 = 0 by omega, decide_eq_true (show 3 ≤ 3 + 2 * mm by omega)]
  simp
theorem btw_e (mm : Nat) : btw (4 + 2 * mm) = false := by
  unfold btw
  rw [show (4 + 2 * mm - 3) % 2 = 1 by omega]
  simp
theorem fit_0 (r c : Int32) : fitB r c 0 = decide (r = 112) := rfl
theorem fit_1 (r c : Int32) : fitB r c 1 = decide (48 ≤ r ∧ r ≤ 57) := rfl
theorem fit_2 (r c : Int32) : fitB r c 2 = decide (51 ≤ r ∧ r ≤ 56) := rfl
theorem fit_o {r c : Int32} {mm : Nat} (h : mm < 6) : fitB r c (3 + 2 * mm) = decide (¬ kLet r = -9) := by
  unfold fitB
  rw [if_neg (by omega), if_neg (by omega), if_neg (by omega), if_neg (by omega), if_pos (btw_o mm)]
theorem fit_6 {r c : Int32} {mm : Nat} (h : mm = 6) : fitB r c (3 + 2 * mm) = false := by
  unfold fitB
  rw [if_pos (by omega)]
theorem fit_e {r c : Int32} {mm : Nat} (h : mm < 6) : fitB r c (4 + 2 * mm) = decide (48 ≤ r ∧ r ≤ 48 + c - 1) := by
  unfold fitB
  rw [if_neg (by omega), if_neg (by omega), if_neg (by omega), if_neg (by omega), if_neg (by rw [btw_e]; decide)]
theorem dg {r : Int32} {lo hi : Nat} (hl : lo ≤ 100) (hh : hi ≤ 100) : (nI lo ≤ r - 48 ∧ r - 48 ≤ nI hi) ↔ (nI (48 + lo) ≤ r ∧ r ≤ nI (48 + hi)) := by
  constructor
  · rintro ⟨h1, h2⟩
    have h0 : 0 ≤ r - 48 := by
      have := nI_pos' (n := lo) (by omega)
      simp only [zle] at *
      omega
    obtain ⟨X, hX, e⟩ := zgetl (M := hi) ⟨h0, h2⟩ (by omega)
    have er : r = nI (48 + X) := by
      have : r - 48 + 48 = nI X + 48 := by rw [e]
      rw [Int32.sub_add_cancel] at this
      rw [this, show (48 : Int32) = nI 48 from rfl, nI_add, Nat.add_comm]
    rw [e, nIle (by omega) (by omega)] at h1
    rw [er, nIle (by omega) (by omega), nIle (by omega) (by omega)]
    exact ⟨by omega, by omega⟩
  · rintro ⟨h1, h2⟩
    have h0 : 0 ≤ r := by
      have := nI_pos' (n := 48 + lo) (by omega)
      simp only [zle] at *
      omega
    obtain ⟨Y, hY, rfl⟩ := zgetl (M := 48 + hi) ⟨h0, h2⟩ (by omega)
    rw [nIle (by omega) (by omega)] at h1
    rw [show (48 : Int32) = nI 48 from rfl, nI_sub (by omega), nIle (by omega) (by omega), nIle (by omega) (by omega)]
    exact ⟨by omega, by omega⟩
theorem dgC {r : Int32} {C : Nat} (h1 : 1 ≤ C) (h8 : C ≤ 8) : (0 ≤ r - 48 ∧ r - 48 ≤ nI C - 1) ↔ (48 ≤ r ∧ r ≤ 48 + nI C - 1) := by
  rw [show nI C - 1 = nI (C - 1) from nI_sub (b := 1) h1, show (48 : Int32) + nI C - 1 = nI (48 + (C - 1)) by rw [show (48 : Int32) = nI 48 from rfl, nI_add, show (1 : Int32) = nI 1 from rfl, nI_sub (by omega), show 48 + C - 1 = 48 + (C - 1) by omega]]
  exact dg (lo := 0) (by omega) (by omega)
theorem dg9 {r : Int32} : (0 ≤ r - 48 ∧ r - 48 ≤ 9) ↔ (48 ≤ r ∧ r ≤ 57) := dg (lo := 0) (hi := 9) (by omega) (by omega)
theorem dg8 {r : Int32} : (3 ≤ r - 48 ∧ r - 48 ≤ 8) ↔ (51 ≤ r ∧ r ≤ 56) := dg (lo := 3) (hi := 8) (by omega) (by omega)
theorem dg_no {a b : Int32} (ha : 0 ≤ a) : ¬ (a ≤ -1000 - 48 ∧ (-1000 : Int32) - 48 ≤ b) := fun z => by
  have h1 : (0 : Int32) ≤ -1000 - 48 := by
    have := z.1
    simp only [zle] at *
    omega
  exact absurd h1 (by decide)
theorem fltR_0 (f : Nat → Int32) (n i s : Nat) (cells : Int32) : fltR f n 0 i s cells = if 3 < s ∧ btw s = true then -9 else nI n := rfl
theorem mmV_s (f : Nat → Int32) (n : Nat) (cells : Int32) (m p mm : Nat) : mmV f n cells (m + 1) p mm = if p < n then (if 0 ≤ sbv (lt f n p) ∧ mm ≠ 6 then (if 0 ≤ lt f n (p + 1) - 48 ∧ lt f n (p + 1) - 48 ≤ cells - 1 then mmV f n cells m (skp f n (p + 2)) (mm + 1) else nI (p + 1)) else nI p) else (if mm = 0 then nI n else -9) := rfl
theorem mmD_s (f : Nat → Int32) (n m p : Nat) : mmD f n (m + 1) p = if p < n then (sbv (lt f n p), lt f n (p + 1) - 48) :: mmD f n m (skp f n (p + 2)) else [] := rfl
theorem flt_mm {f : Nat → Int32} {n C : Nat} (hC3 : 3 ≤ C) (hC8 : C ≤ 8) : ∀ m p mm, n + 1 - p ≤ m → p ≤ n → mm ≤ 6 → ¬ lt f n p = 32 → fltR f n (n - p) p (3 + 2 * mm) (nI C) = mmV f n (nI C) m p mm
  | 0, p, mm, h1, h2, _, _ => by omega
  | m + 1, p, mm, h1, h2, h6, hb => by
    rw [mmV_s]
    by_cases hp : p < n
    · rw [if_pos hp, show n - p = (n - (p + 1)) + 1 by omega, fltR_s]
      rw [lt_lo hp] at hb ⊢
      rw [if_neg (fun z => hb z.1)]
      by_cases h66 : mm = 6
      · rw [fit_6 h66, if_neg (by decide), if_neg (fun z => z.2 h66)]
      · rw [fit_o (by omega)]
        rcases sb_k (f p) with ⟨e1, e2, e3⟩ | ⟨e2, e3⟩
        · rw [if_pos (decide_eq_true e3), if_neg (show ¬ 3 + 2 * mm = 2 by omega), if_pos ⟨e2, h66⟩, show 3 + 2 * mm + 1 = 4 + 2 * mm by omega]
          by_cases hp1 : p + 1 < n
          · rw [show n - (p + 1) = (n - (p + 2)) + 1 by omega, fltR_s, lt_lo hp1, if_neg (fun z => by rw [btw_e] at z; exact absurd z.2 (by decide)), fit_e (by omega)]
            by_cases hd : 0 ≤ f (p + 1) - 48 ∧ f (p + 1) - 48 ≤ nI C - 1
            · have hs := skp_le (f := f) (n := n) n (p + 2) (by omega) (by omega)
              rw [if_pos (decide_eq_true ((dgC (by omega) hC8).mp hd)), if_neg (show ¬ 4 + 2 * mm = 2 by omega), if_pos hd, show 4 + 2 * mm + 1 = 3 + 2 * (mm + 1) by omega, show p + 1 + 1 = p + 2 from rfl, fltR_sk (btw_o _) (n - (p + 2)) (p + 2) (by omega)]
              exact flt_mm hC3 hC8 m (skp f n (p + 2)) (mm + 1) (by omega) hs.2 (by omega) (skp_no n (p + 2) (by omega))
            · rw [if_neg (fun z => hd ((dgC (by omega) hC8).mpr (of_decide_eq_true z))), if_neg hd]
          · rw [show n - (p + 1) = 0 by omega, lt_hi (show n ≤ p + 1 by omega), if_neg (dg_no (by decide)), fltR_0, if_neg (fun z => by rw [btw_e] at z; exact absurd z.2 (by decide)), show n = p + 1 by omega]
        · rw [if_neg (fun z => (of_decide_eq_true z) e3), if_neg (fun z => e2 z.1)]
    · rw [if_neg hp, show n - p = 0 by omega, fltR_0]
      by_cases h0 : mm = 0
      · rw [if_pos h0, if_neg (fun z => absurd z.1 (by omega))]
      · rw [if_neg h0, if_pos ⟨by omega, btw_o mm⟩]
theorem flt_rd {f : Nat → Int32} {n : Nat} : fltR f n n 0 0 0 = rdV f n := by
  have hs := skp_le (f := f) (n := n) n 0 (by omega) (by omega)
  have hb := skp_no (f := f) (n := n) n 0 (by omega)
  rw [fltR_sk (show btw 0 = true from rfl) n 0 (by omega)]
  unfold rdV
  generalize skp f n 0 = p at hs hb ⊢
  by_cases hp : p < n
  · rw [show n - p = (n - (p + 1)) + 1 by omega, fltR_s]
    rw [lt_lo hp] at hb ⊢
    rw [if_neg (fun z => hb z.1), fit_0]
    by_cases h112 : f p = 112
    · rw [if_pos (decide_eq_true h112), if_neg (show ¬ 0 = 2 by decide), if_pos h112, show 0 + 1 = 1 from rfl]
      by_cases hp1 : p + 1 < n
      · rw [show n - (p + 1) = (n - (p + 2)) + 1 by omega, fltR_s, lt_lo hp1, if_neg (fun z => absurd z.2 (by decide)), fit_1]
        by_cases hd : 0 ≤ f (p + 1) - 48 ∧ f (p + 1) - 48 ≤ 9
        · rw [if_pos (decide_eq_true (dg9.mp hd)), if_pos hd, if_neg (show ¬ 1 = 2 by decide), show 1 + 1 = 2 from rfl, show p + 1 + 1 = p + 2 from rfl]
          by_cases hp2 : p + 2 < n
          · rw [show n - (p + 2) = (n - (p + 3)) + 1 by omega, fltR_s, lt_lo hp2, if_neg (fun z => absurd z.2 (by decide)), fit_2]
            by_cases he : 3 ≤ f (p + 2) - 48 ∧ f (p + 2) - 48 ≤ 8
            · have hs3 := skp_le (f := f) (n := n) n (p + 3) (by omega) (by omega)
              rw [if_pos (decide_eq_true (dg8.mp he)), if_pos he, if_pos (show 2 = 2 from rfl), show 2 + 1 = 3 + 2 * 0 from rfl, show p + 2 + 1 = p + 3 from rfl, fltR_sk (btw_o _) (n - (p + 3)) (p + 3) (by omega)]
              have h0 : 0 ≤ f (p + 2) - 48 := by
                have := he.1
                have e0 : (0 : Int32).toInt = 0 := by decide
                have e3 : (3 : Int32).toInt = 3 := by decide
                simp only [zle] at *
                omega
              obtain ⟨C, hC, eC⟩ := zgetl (M := 8) ⟨h0, he.2⟩ (by decide)
              have hC3 : 3 ≤ C := by
                have := he.1
                rw [eC, show (3 : Int32) = nI 3 from rfl, nIle (by omega) (by omega)] at this
                exact this
              rw [eC]
              exact flt_mm hC3 hC (n + 1) (skp f n (p + 3)) 0 (by omega) hs3.2 (by omega) (skp_no n (p + 3) (by omega))
            · rw [if_neg (fun z => he (dg8.mpr (of_decide_eq_true z))), if_neg he]
          · rw [show n - (p + 2) = 0 by omega, lt_hi (show n ≤ p + 2 by omega), if_neg (dg_no (by decide)), fltR_0, if_neg (fun z => absurd z.1 (by omega)), show n = p + 2 by omega]
        · rw [if_neg (fun z => hd (dg9.mpr (of_decide_eq_true z))), if_neg hd]
      · rw [show n - (p + 1) = 0 by omega, lt_hi (show n ≤ p + 1 by omega), if_neg (dg_no (by decide)), fltR_0, if_neg (fun z => absurd z.1 (by omega)), show n = p + 1 by omega]
    · rw [if_neg h112, if_neg (fun z => h112 (of_decide_eq_true z))]
  · rw [show n - p = 0 by omega, lt_hi (show n ≤ p by omega), if_neg (by decide), fltR_0, if_neg (fun z => absurd z.1 (by omega)), show n = p by omega]
theorem zInv.rd {m : Mem} (h : zInv mu lm) (q : rdK mu m) : zInv m lm :=
  h.mk2 (fun c a b => q.1 c (by omega) (by omega)) (fun c a b => q.1 c (by omega) (by omega)) (fun k a => q.2 k (by omega)) (h.rs.fr (fun c a b => q.1 c (by omega) (by omega)) (q.1 47 (by decide) (by decide)) (q.1 48 (by decide) (by decide))) (h.ts.fr (fun c a b => q.1 c (by omega) (by omega)) (q.1 49 (by decide) (by decide)) (q.1 50 (by decide) (by decide))) (h.st.fr (q.1 0 (by decide) (by decide)) (q.1 45 (by decide) (by decide)) (q.1 51 (by decide) (by decide)) (fun k a => q.2 k (by omega)))
theorem bo_fault (h : zInv mu lm) (t : Int32) : zBo cX7_fault 3 cX8_fault 2 [.int t] mu lm := by
  by_cases hr : 0 ≤ t ∧ t < 4
  · obtain ⟨k, hk, rfl⟩ := zget hr (M := 4) rfl (by decide)
    obtain ⟨t1, t2, t3⟩ := zrow_at h.ts hk
    have hc := sp_X7_fault (d := 0) (mu := mu) (lm := lm) hk t2
    unfold cFlt at hc
    by_cases h0 : 0 ≤ mu (15 + 2 * k) 1
    · obtain ⟨j, hj, ej⟩ : ∃ j, j ≤ 60 ∧ mu (15 + 2 * k) 1 = nI j := by
        rcases t2 with z | z
        · rw [z] at h0; exact absurd h0 (by decide)
        · exact z
      simp only [if_pos h0] at hc
      rw [ej, nI_clamp (by omega)] at hc t3
      rw [fltR_cong (g := txF mu k) j 0 0 0 (fun q _ hq => (t3 q (by omega)).symm), flt_rd] at hc
      refine zboK (by decide) (by decide) hc (sp_X8_fault (d := 0) hk (by rw [t1, ej]) hj) (fun r m l q => ?_)
      obtain ⟨rfl, rfl, q1, -⟩ := q
      exact ⟨rfl, h.rd q1⟩
    · simp only [if_neg h0] at hc
      exact zboR (by decide) (by decide) hc (sp_X8_fault_1 (d := 0) hk (by rw [fndM_c (by decide) (by decide), t1]; exact h0)) rfl (h.fnd (by decide))
  · exact zboR (by decide) (by decide) (sp_X7_fault_n (d := 0) hr) (sp_X8_fault_n (d := 0) hr) rfl h
end M75
