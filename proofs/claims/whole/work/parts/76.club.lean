section M76
variable {mu : Mem} {lm : MemL}
/-! ===== a club is settled ===== -/
def sSt (f : Nat → Int32) (n C m p mm : Nat) (nu R : Mem) : Prop :=
  R 23 4 = nu 23 4 ∧ R 23 5 = nI C ∧ R 23 6 = nI (mm + (mmD f n m p).length) ∧ 0 < mm + (mmD f n m p).length ∧ (∀ j, j < mm → R 24 j = nu 24 j ∧ R 25 j = nu 25 j) ∧ (∀ j x, (mmD f n m p)[j]? = some x → R 24 (mm + j) = x.1 ∧ R 25 (mm + j) = x.2 ∧ ∃ q, q < C ∧ x.2 = nI q) ∧ ∀ c, c ≠ 23 → c ≠ 24 → c ≠ 25 → R c = nu c
theorem set_mm {f : Nat → Int32} {n C : Nat} (hn : n ≤ 60) (hC3 : 3 ≤ C) (hC8 : C ≤ 8) : ∀ (m p mm : Nat) (nu : Mem), n + 1 - p ≤ m → p ≤ n → mm ≤ 6 → ¬ lt f n p = 32 → mmV f n (nI C) m p mm = -9 → nu 23 6 = nI mm → nu 23 5 = nI C → sSt f n C m p mm nu (setR f (n - p) p (3 + 2 * mm) nu)
  | 0, p, mm, nu, h1, h2, _, _, _, _, _ => by omega
  | m + 1, p, mm, nu, h1, h2, h6, hb, hv, n6, n5 => by
    rw [mmV_s] at hv
    by_cases hp : p < n
    · rw [if_pos hp] at hv
      by_cases a1 : 0 ≤ sbv (lt f n p) ∧ mm ≠ 6
      · rw [if_pos a1] at hv
        by_cases a2 : 0 ≤ lt f n (p + 1) - 48 ∧ lt f n (p + 1) - 48 ≤ nI C - 1
        · rw [if_pos a2] at hv
          have hp1 : p + 1 < n := fig_lt (by decide) a2
          have hs := skp_le (f := f) (n := n) n (p + 2) (by omega) (by omega)
          have hD : mmD f n (m + 1) p = (sbv (f p), f (p + 1) - 48) :: mmD f n m (skp f n (p + 2)) := by rw [mmD_s, if_pos hp, lt_lo hp, lt_lo hp1]
          rw [lt_lo hp] at a1 hb
          rw [lt_lo hp1] at a2
          have hk : sbv (f p) = kLet (f p) := by
            rcases sb_k (f p) with ⟨e1, -, -⟩ | ⟨e2, -⟩
            · exact e1
            · exact absurd a1.1 e2
          have hne : ¬ f (p + 1) = 32 := fun z => by
            rw [z] at a2
            have h0 : (0 : Int32) ≤ 32 - 48 := a2.1
            exact absurd h0 (by decide)
          obtain ⟨q, hq, eq⟩ : ∃ q, q < C ∧ f (p + 1) - 48 = nI q := by
            have := a2.2
            rw [show nI C - 1 = nI (C - 1) from nI_sub (b := 1) (by omega)] at this
            obtain ⟨q, hq, eq⟩ := zgetl (M := C - 1) ⟨a2.1, this⟩ (by omega)
            exact ⟨q, by omega, eq⟩
          have st1 : stpM nu (3 + 2 * mm) (f p) = zk_up (zk_up nu 24 mm (kLet (f p))) 23 6 (nI (mm + 1)) := by
            unfold stpM joinM
            rw [if_neg (by omega), if_neg (by omega), if_pos ⟨by omega, btw_o mm⟩, n6, nI_clamp (by omega), if_pos (by omega)]
          have n6' : zk_up (zk_up nu 24 mm (kLet (f p))) 23 6 (nI (mm + 1)) 23 6 = nI (mm + 1) := zup_s _ _ _ _
          have n5' : zk_up (zk_up nu 24 mm (kLet (f p))) 23 6 (nI (mm + 1)) 23 5 = nI C := by rw [zup_k _ _ _ (by decide), zup_c _ _ _ (by decide), n5]
          have st2 : stpM (zk_up (zk_up nu 24 mm (kLet (f p))) 23 6 (nI (mm + 1))) (4 + 2 * mm) (f (p + 1)) = zk_up (zk_up (zk_up nu 24 mm (kLet (f p))) 23 6 (nI (mm + 1))) 25 mm (nI q) := by
            unfold stpM seatM
            rw [if_neg (by omega), if_neg (by omega), if_neg (fun z => by rw [btw_e] at z; exact absurd z.2 (by decide)), if_pos (by omega), n6', n5', eq, nI_clamp (by omega), if_pos ⟨by omega, nI_pos' (by omega), nI_lt hq (by omega)⟩, show mm + 1 - 1 = mm by omega]
          have eR : setR f (n - p) p (3 + 2 * mm) nu = setR f (n - skp f n (p + 2)) (skp f n (p + 2)) (3 + 2 * (mm + 1)) (zk_up (zk_up (zk_up nu 24 mm (kLet (f p))) 23 6 (nI (mm + 1))) 25 mm (nI q)) := by
            rw [show n - p = (n - (p + 2)) + 1 + 1 by omega, setR_s, if_neg hb, setR_s, if_neg hne, st1, show 3 + 2 * mm + 1 = 4 + 2 * mm by omega, st2, show 4 + 2 * mm + 1 = 3 + 2 * (mm + 1) by omega, show p + 1 + 1 = p + 2 from rfl]
            exact setR_sk (n - (p + 2)) (p + 2) (by omega)
          rw [eR]
          have ih := set_mm hn hC3 hC8 m (skp f n (p + 2)) (mm + 1) (zk_up (zk_up (zk_up nu 24 mm (kLet (f p))) 23 6 (nI (mm + 1))) 25 mm (nI q)) (by omega) hs.2 (by omega) (skp_no n (p + 2) (by omega)) hv (by rw [zup_c _ _ _ (by decide)]; exact n6') (by rw [zup_c _ _ _ (by decide)]; exact n5')
          generalize setR f (n - skp f n (p + 2)) (skp f n (p + 2)) (3 + 2 * (mm + 1)) (zk_up (zk_up (zk_up nu 24 mm (kLet (f p))) 23 6 (nI (mm + 1))) 25 mm (nI q)) = R at ih
          obtain ⟨i1, i2, i3, i4, i5, i6, i7⟩ := ih
          unfold sSt
          rw [hD]
          refine ⟨?_, i2, ?_, ?_, fun j hj => ?_, fun j x hx => ?_, fun c c1 c2 c3 => ?_⟩
          · rw [i1, zup_c _ _ _ (by decide), zup_k _ _ _ (by decide), zup_c _ _ _ (by decide)]
          · rw [i3, List.length_cons, show mm + 1 + (mmD f n m (skp f n (p + 2))).length = mm + ((mmD f n m (skp f n (p + 2))).length + 1) by omega]
          · rw [List.length_cons]; omega
          · obtain ⟨b1, b2⟩ := i5 j (by omega)
            rw [b1, b2, zup_c _ _ _ (by decide), zup_c _ _ _ (by decide), zup_k _ _ _ (by omega), zup_k _ _ _ (by omega), zup_c _ _ _ (by decide), zup_c _ _ _ (by decide)]
            exact ⟨rfl, rfl⟩
          · cases j with
            | zero =>
              have hx' : (sbv (f p), f (p + 1) - 48) = x := Option.some.inj hx
              obtain ⟨b1, b2⟩ := i5 mm (by omega)
              rw [Nat.add_zero, b1, b2, zup_c _ _ _ (by decide), zup_c _ _ _ (by decide), zup_s, zup_s, ← hx', ← hk, eq]
              exact ⟨rfl, rfl, q, hq, rfl⟩
            | succ j =>
              have := i6 j x (by rw [List.getElem?_cons_succ] at hx; exact hx)
              rwa [show mm + 1 + j = mm + (j + 1) by omega] at this
          · rw [i7 c c1 c2 c3, zup_cf _ _ c3, zup_cf _ _ c1, zup_cf _ _ c2]
        · rw [if_neg a2] at hv
          exact absurd hv (nI_ne9 (by omega))
      · rw [if_neg a1] at hv
        exact absurd hv (nI_ne9 (by omega))
    · rw [if_neg hp] at hv
      have hm0 : ¬ mm = 0 := fun z => by
        rw [if_pos z] at hv
        exact absurd hv (nI_ne9 (by omega))
      rw [show n - p = 0 by omega]
      show sSt f n C (m + 1) p mm nu nu
      unfold sSt
      rw [mmD_s, if_neg hp]
      exact ⟨rfl, n5, n6, by omega, fun _ _ => ⟨rfl, rfl⟩, fun j x hx => absurd hx (by simp), fun _ _ _ _ => rfl⟩
theorem set_rd {f : Nat → Int32} {n : Nat} (hn : n ≤ 60) (hv : rdV f n = -9) : ∃ C L, 3 ≤ C ∧ C ≤ 8 ∧ L ≤ 9 ∧ lt f n (skp f n 0 + 1) - 48 = nI L ∧ lt f n (skp f n 0 + 2) - 48 = nI C ∧ ∃ R, setR f n 0 0 (zk_up mu 23 6 0) = R ∧ R 23 4 = nI L ∧ R 23 5 = nI C ∧ R 23 6 = nI (rdD f n).length ∧ 0 < (rdD f n).length ∧ (∀ j x, (rdD f n)[j]? = some x → R 24 j = x.1 ∧ R 25 j = x.2 ∧ ∃ q, q < C ∧ x.2 = nI q) ∧ ∀ c, c ≠ 23 → c ≠ 24 → c ≠ 25 → R c = mu c := by
  have hs := skp_le (f := f) (n := n) n 0 (by omega) (by omega)
  have hb := skp_no (f := f) (n := n) n 0 (by omega)
  rw [setR_sk (n := n) n 0 (by omega)]
  unfold rdV at hv
  unfold rdD
  generalize skp f n 0 = p at hs hb hv ⊢
  by_cases a0 : lt f n p = 112
  · rw [if_pos a0] at hv
    by_cases a1 : 0 ≤ lt f n (p + 1) - 48 ∧ lt f n (p + 1) - 48 ≤ 9
    · rw [if_pos a1] at hv
      by_cases a2 : 3 ≤ lt f n (p + 2) - 48 ∧ lt f n (p + 2) - 48 ≤ 8
      · rw [if_pos a2] at hv
        have hp2 : p + 2 < n := fig_lt (by decide) a2
        have hs3 := skp_le (f := f) (n := n) n (p + 3) (by omega) (by omega)
        have h0 : 0 ≤ lt f n (p + 2) - 48 := by
          have := a2.1
          have e0 : (0 : Int32).toInt = 0 := by decide
          have e3 : (3 : Int32).toInt = 3 := by decide
          simp only [zle] at *
          omega
        obtain ⟨C, hC, eC⟩ := zgetl (M := 8) ⟨h0, a2.2⟩ (by decide)
        obtain ⟨L, hL, eL⟩ := zgetl (M := 9) a1 (by decide)
        have hC3 : 3 ≤ C := by
          have := a2.1
          rw [eC, show (3 : Int32) = nI 3 from rfl, nIle (by omega) (by omega)] at this
          exact this
        rw [eC] at hv
        have c0 : f p = 112 := by rw [← lt_lo (f := f) (show p < n by omega)]; exact a0
        have c1 : f (p + 1) - 48 = nI L := by rw [← lt_lo (f := f) (show p + 1 < n by omega)]; exact eL
        have c2 : f (p + 2) - 48 = nI C := by rw [← lt_lo (f := f) hp2]; exact eC
        have d0 : ¬ f p = 32 := by rw [c0]; decide
        have d1 : ¬ f (p + 1) = 32 := fun z => by
          have := a1.1
          rw [lt_lo (show p + 1 < n by omega), z] at this
          exact absurd this (by decide)
        have d2 : ¬ f (p + 2) = 32 := fun z => by
          have := h0
          rw [lt_lo hp2, z] at this
          exact absurd this (by decide)
        have s0 : stpM (zk_up mu 23 6 0) 0 (f p) = zk_up mu 23 6 0 := rfl
        have s1 : stpM (zk_up mu 23 6 0) 1 (f (p + 1)) = zk_up (zk_up mu 23 6 0) 23 4 (nI L) := by rw [← c1]; rfl
        have s2 : stpM (zk_up (zk_up mu 23 6 0) 23 4 (nI L)) 2 (f (p + 2)) = zk_up (zk_up (zk_up mu 23 6 0) 23 4 (nI L)) 23 5 (nI C) := by rw [← c2]; rfl
        have eR : setR f (n - p) p 0 (zk_up mu 23 6 0) = setR f (n - skp f n (p + 3)) (skp f n (p + 3)) (3 + 2 * 0) (zk_up (zk_up (zk_up mu 23 6 0) 23 4 (nI L)) 23 5 (nI C)) := by
          rw [show n - p = (n - (p + 3)) + 1 + 1 + 1 by omega, setR_s, if_neg d0, setR_s, if_neg d1, setR_s, if_neg d2, s0, show 0 + 1 = 1 from rfl, s1, show 1 + 1 = 2 from rfl, show p + 1 + 1 = p + 2 from rfl, s2]
          exact setR_sk (n - (p + 3)) (p + 3) (by omega)
        have ih := set_mm hn hC3 hC (n + 1) (skp f n (p + 3)) 0 (zk_up (zk_up (zk_up mu 23 6 0) 23 4 (nI L)) 23 5 (nI C)) (by omega) hs3.2 (by omega) (skp_no n (p + 3) (by omega)) hv (by rw [zup_k _ _ _ (by decide), zup_k _ _ _ (by decide), zup_s]; rfl) (zup_s _ _ _ _)
        rw [← eR] at ih
        obtain ⟨i1, i2, i3, i4, i5, i6, i7⟩ := ih
        rw [Nat.zero_add] at i3 i4
        refine ⟨C, L, hC3, hC, hL, eL, eC, _, rfl, ?_, i2, i3, i4, fun j x hx => ?_, fun c y1 y2 y3 => ?_⟩
        · rw [i1, zup_k _ _ _ (by decide), zup_s]
        · have := i6 j x hx
          rwa [Nat.zero_add] at this
        · rw [i7 c y1 y2 y3, zup_cf _ _ y1, zup_cf _ _ y1, zup_cf _ _ y1]
      · rw [if_neg a2] at hv
        exact absurd hv (nI_ne9 (by omega))
    · rw [if_neg a1] at hv
      exact absurd hv (nI_ne9 (by omega))
  · rw [if_neg a0] at hv
    exact absurd hv (nI_ne9 (by omega))
theorem kp3_c {c : Nat} (h1 : c ≠ 31) (h2 : c ≠ 33) (h3 : c ≠ 35) : kpM mu 3 c = mu c := by
  show zk_up (zk_up (zk_up mu 31 1 (-1)) 33 1 (-1)) 35 1 (-1) c = mu c
  rw [zup_cf _ _ h3, zup_cf _ _ h2, zup_cf _ _ h1]
theorem kp3_k {k : Nat} (hk : k < 3) : kpM mu 3 (31 + 2 * k) 1 = -1 := by
  show zk_up (zk_up (zk_up mu 31 1 (-1)) 33 1 (-1)) 35 1 (-1) (31 + 2 * k) 1 = -1
  match k, hk with
  | 0, _ => rw [zup_c _ _ _ (by decide), zup_c _ _ _ (by decide), zup_s]
  | 1, _ => rw [zup_c _ _ _ (by decide), zup_s]
  | 2, _ => exact zup_s _ _ _ _
theorem zfil_c {c p j : Nat} {v : Int32} (h : c ≠ p) : zfill mu p j v c = mu c := by funext q; exact zfill_c _ _ _ _ h
theorem zfil_s {p j q : Nat} {v : Int32} (h : q < j) : zfill mu p j v p q = v := by unfold zfill; rw [zuc_s, if_pos h]
/-- the class's world behind it -/
theorem clubM_f {p j : Nat} {R : Mem} (hR : setR (mu p) j 0 0 (zk_up mu 23 6 0) = R) : (clubM mu p j 23 4 = R 23 4 ∧ clubM mu p j 23 5 = R 23 5 ∧ clubM mu p j 23 6 = R 23 6) ∧ (clubM mu p j 24 = R 24 ∧ clubM mu p j 25 = R 25) ∧ (∀ q, q < 17 → cS (clubM mu p j) q = 0) ∧ clubM mu p j 28 1 = 0 ∧ (∀ k, k < 3 → clubM mu p j (31 + 2 * k) 1 = -1) ∧ ∀ c, c ≠ 23 → c ≠ 26 → c ≠ 27 → c ≠ 28 → c ≠ 31 → c ≠ 33 → c ≠ 35 → clubM mu p j c = R c := by
  have e : clubM mu p j = kpM (zk_up (frshM R) 28 1 0) 3 := by unfold clubM; rw [hR]
  rw [e]
  have a23 : ∀ k, kpM (zk_up (frshM R) 28 1 0) 3 23 k = frshM R 23 k := fun k => by rw [kp3_c (by decide) (by decide) (by decide), zup_cf _ _ (by decide)]
  have b7 : frshM R 23 7 = 0 := by
    unfold frshM
    rw [zfil_c (by decide), zfil_c (by decide), zup_k _ _ _ (by decide), zup_k _ _ _ (by decide), zup_s]
  have b8 : frshM R 23 8 = 0 := by
    unfold frshM
    rw [zfil_c (by decide), zfil_c (by decide), zup_k _ _ _ (by decide), zup_s]
  have b9 : frshM R 23 9 = 0 := by
    unfold frshM
    rw [zfil_c (by decide), zfil_c (by decide), zup_s]
  refine ⟨⟨?_, ?_, ?_⟩, ⟨?_, ?_⟩, ?_, ?_, fun k hk => kp3_k hk, fun c c1 c2 c3 c4 c5 c6 c7 => ?_⟩
  · rw [a23, frshM_k (by decide) (by decide) (by decide)]
  · rw [a23, frshM_k (by decide) (by decide) (by decide)]
  · rw [a23, frshM_k (by decide) (by decide) (by decide)]
  · rw [kp3_c (by decide) (by decide) (by decide), zup_cf _ _ (by decide), frshM_c (by decide) (by decide) (by decide)]
  · rw [kp3_c (by decide) (by decide) (by decide), zup_cf _ _ (by decide), frshM_c (by decide) (by decide) (by decide)]
  · refine sEq_mk (g := fun _ => 0) (fun q hq => ?_) ?_ ?_ ?_ (fun j hj => ?_)
    · rw [cS_a hq, kp3_c (by decide) (by decide) (by decide), zup_cf _ _ (by decide)]
      unfold frshM
      rw [zfil_s hq]
    · rw [cS_8, a23, b7]
    · rw [cS_9, a23, b8]
    · rw [cS_10, a23, b9]
    · rw [cS_t, kp3_c (by decide) (by decide) (by decide), zup_cf _ _ (by decide)]
      unfold frshM
      rw [zfil_c (by decide), zfil_s hj]
  · rw [kp3_c (by decide) (by decide) (by decide), zup_s]
  · rw [kp3_c c5 c6 c7, zup_cf _ _ c4, frshM_c c1 c2 c3]
/-- the model's world behind it -/
theorem clbD_f {m : Mem} {N : Nat} : (clbD m N 46 16 = m 46 12 ∧ clbD m N 46 17 = m 46 13 ∧ clbD m N 46 18 = m 46 14 ∧ clbD m N 46 24 = 0) ∧ (∀ k, k < 9 → clbD m N 46 k = m 46 k) ∧ (∀ j, j < N → clbD m N 53 j = m 52 (2 * j) ∧ clbD m N 54 j = m 52 (2 * j + 1)) ∧ (∀ q, q < 17 → clbD m N 55 q = 0) ∧ (∀ k, k < 3 → clbD m N 60 k = -1) ∧ ∀ c, c ≠ 46 → c ≠ 53 → c ≠ 54 → c ≠ 55 → c ≠ 60 → clbD m N c = m c := by
  unfold clbD
  refine ⟨⟨?_, ?_, ?_, ?_⟩, fun k hk => ?_, fun j hj => ⟨?_, ?_⟩, fun q hq => ?_, fun k hk => zfil_s hk, fun c c1 c2 c3 c4 c5 => ?_⟩
  · rw [zfil_c (by decide), zup_k _ _ _ (by decide), suM_c _ _ (by decide) (by decide), zup_k _ _ _ (by decide), zup_k _ _ _ (by decide), zup_s]
  · rw [zfil_c (by decide), zup_k _ _ _ (by decide), suM_c _ _ (by decide) (by decide), zup_k _ _ _ (by decide), zup_s]
  · rw [zfil_c (by decide), zup_k _ _ _ (by decide), suM_c _ _ (by decide) (by decide), zup_s]
  · rw [zfil_c (by decide), zup_s]
  · rw [zfil_c (by decide), zup_k _ _ _ (by omega), suM_c _ _ (by decide) (by decide), zup_k _ _ _ (by omega), zup_k _ _ _ (by omega), zup_k _ _ _ (by omega), zfil_c (by decide)]
  · rw [zfil_c (by decide), zup_cf _ _ (by decide)]
    unfold suM
    rw [zuc_c _ _ (by decide), zuc_s, if_pos hj, zup_cf _ _ (by decide), zup_cf _ _ (by decide), zup_cf _ _ (by decide), zfil_c (by decide)]
  · rw [zfil_c (by decide), zup_cf _ _ (by decide)]
    unfold suM
    rw [zuc_s, if_pos hj, zup_cf _ _ (by decide), zup_cf _ _ (by decide), zup_cf _ _ (by decide), zfil_c (by decide)]
  · rw [zfil_c (by decide), zup_cf _ _ (by decide), suM_c _ _ (by decide) (by decide), zup_cf _ _ (by decide), zup_cf _ _ (by decide), zup_cf _ _ (by decide), zfil_s hq]
  · rw [zfil_c c5, zup_cf _ _ c1, suM_c _ _ c2 c3, zup_cf _ _ c1, zup_cf _ _ c1, zup_cf _ _ c1, zfil_c c4]
theorem bo_club (h : zInv mu lm) (t : Int32) : zBo cX7_club 4 cX8_club 3 [.int t] mu lm := by
  by_cases hr : 0 ≤ t ∧ t < 4
  · obtain ⟨k, hk, rfl⟩ := zget hr (M := 4) rfl (by decide)
    obtain ⟨t1, t2, t3⟩ := zrow_at h.ts hk
    have hc := sp_X7_club (d := 0) (mu := mu) (lm := lm) hk t2
    unfold cClub at hc
    by_cases h0 : 0 ≤ mu (15 + 2 * k) 1
    · obtain ⟨j, hj, ej⟩ : ∃ j, j ≤ 60 ∧ mu (15 + 2 * k) 1 = nI j := by
        rcases t2 with z | z
        · rw [z] at h0; exact absurd h0 (by decide)
        · exact z
      simp only [if_pos h0] at hc
      rw [ej, nI_clamp (by omega)] at hc t3
      rw [fltR_cong (g := txF mu k) j 0 0 0 (fun q _ hq => (t3 q (by omega)).symm), flt_rd] at hc
      by_cases hv : rdV (txF mu k) j = -9
      · simp only [if_pos hv] at hc
        obtain ⟨C, L, hC3, hC8, hL, eL, eC, R, hR, r4, r5, r6, r0, rj, rc⟩ := set_rd (mu := mu) hj hv
        have hR' : setR (mu (16 + 2 * k)) j 0 0 (zk_up mu 23 6 0) = R := by rw [← hR]; exact setR_cong j 0 0 _ (fun q _ hq => (t3 q (by omega)).symm)
        obtain ⟨⟨x4, x5, x6⟩, ⟨x24, x25⟩, xS, x28, xk, xc⟩ := clubM_f hR'
        rw [x6, r6] at hc
        generalize clubM mu (16 + 2 * k) j = X at hc x4 x5 x6 x24 x25 xS x28 xk xc
        have xm : ∀ c, c ≠ 23 → c ≠ 24 → c ≠ 25 → c ≠ 26 → c ≠ 27 → c ≠ 28 → c ≠ 31 → c ≠ 33 → c ≠ 35 → X c = mu c := fun c c1 c2 c3 c4 c5 c6 c7 c8 c9 => by rw [xc c c1 c4 c5 c6 c7 c8 c9, rc c c1 c2 c3]
        have eT : txF X k = txF mu k := by
          funext q
          unfold txF
          rw [xm 50 (by decide) (by decide) (by decide) (by decide) (by decide) (by decide) (by decide) (by decide) (by decide)]
        have hm := sp_X8_club (d := 0) (mu := X) (lm := lm) hk (n := j) (by rw [xm 49 (by decide) (by decide) (by decide) (by decide) (by decide) (by decide) (by decide) (by decide) (by decide), t1, ej]) hj
        rw [eT] at hm
        refine zboK (by decide) (by decide) hc hm (fun r m' l q => ?_)
        obtain ⟨rfl, m, ⟨-, -, ⟨k1, k2⟩, q4⟩, ⟨z, -⟩ | ⟨-, rfl, rfl⟩⟩ := q
        · exact absurd hv z
        · refine ⟨rfl, ?_⟩
          obtain ⟨q12, q13, q14, qj⟩ := q4 hv
          have hN6 := rdD_len hj hv
          obtain ⟨⟨d16, d17, d18, d24⟩, d9, dj, d55, d60, dc⟩ := clbD_f (m := m) (N := (rdD (txF mu k) j).length)
          rw [q12, eL] at d16
          rw [q13, eC] at d17
          rw [q14] at d18
          generalize clbD m (rdD (txF mu k) j).length = Y at d16 d17 d18 d24 d9 dj d55 d60 dc
          have yX : ∀ c, c ≠ 46 → c ≠ 52 → c ≠ 53 → c ≠ 54 → c ≠ 55 → c ≠ 60 → Y c = X c := fun c c1 c2 c3 c4 c5 c6 => by rw [dc c c1 c3 c4 c5 c6, k1 c c1 c2]
          have y23 : Y 23 = X 23 := yX 23 (by decide) (by decide) (by decide) (by decide) (by decide) (by decide)
          have y24 : Y 24 = X 24 := yX 24 (by decide) (by decide) (by decide) (by decide) (by decide) (by decide)
          have y25 : Y 25 = X 25 := yX 25 (by decide) (by decide) (by decide) (by decide) (by decide) (by decide)
          have y26 : Y 26 = X 26 := yX 26 (by decide) (by decide) (by decide) (by decide) (by decide) (by decide)
          have y27 : Y 27 = X 27 := yX 27 (by decide) (by decide) (by decide) (by decide) (by decide) (by decide)
          have y28 : Y 28 = X 28 := yX 28 (by decide) (by decide) (by decide) (by decide) (by decide) (by decide)
          have ym : ∀ c, c ≠ 23 → c ≠ 24 → c ≠ 25 → c ≠ 26 → c ≠ 27 → c ≠ 28 → c ≠ 31 → c ≠ 33 → c ≠ 35 → c < 52 → c ≠ 46 → Y c = mu c := fun c c1 c2 c3 c4 c5 c6 c7 c8 c9 c10 c11 => by rw [yX c c11 (by omega) (by omega) (by omega) (by omega) (by omega), xm c c1 c2 c3 c4 c5 c6 c7 c8 c9]
          have ySt : cS Y = cS X := by unfold cS; rw [y23, y26, y27]
          refine ⟨C, (rdD (txF mu k) j).length, 0, fun _ => (0, 0, 0), ⟨⟨by rw [y23, x5, r5], d17, by rw [y23, x6, r6], d18, hC8, hN6, fun _ => hC3, fun z => by omega, by rw [d16, y23, x4, r4], by rw [y23, x4, r4]; exact nI_in9 (b := 9) hL (by decide), fun i hi => ?_⟩, ⟨by rw [y28, x28]; rfl, by omega, fun i hi => absurd hi (Nat.not_lt_zero _), fun q hq => by rw [ySt, xS q hq]; rfl⟩, ⟨by rw [d24]; rfl, fun q hq => by rw [d55 q hq]; rfl, fun i hi => absurd hi (Nat.not_lt_zero _)⟩, fun i hi => ⟨?_, Or.inl ?_⟩⟩, ?_, ?_, ?_⟩
          · have hx := List.getElem?_eq_getElem hi
            obtain ⟨u1, u2, q, hq, u3⟩ := rj i _ hx
            obtain ⟨w1, w2⟩ := qj i _ hx
            obtain ⟨v1, v2⟩ := dj i hi
            rw [y24, y25, x24, x25, v1, v2, w1, w2, u1, u2]
            exact ⟨rfl, rfl, q, hq, u3⟩
          · rw [d60 i hi, yX (31 + 2 * i) (by omega) (by omega) (by omega) (by omega) (by omega) (by omega), xk i hi]
          · rw [yX (31 + 2 * i) (by omega) (by omega) (by omega) (by omega) (by omega) (by omega), xk i hi]
          · exact h.rs.fr (fun c a b => ym c (by omega) (by omega) (by omega) (by omega) (by omega) (by omega) (by omega) (by omega) (by omega) (by omega) (by omega)) (ym 47 (by decide) (by decide) (by decide) (by decide) (by decide) (by decide) (by decide) (by decide) (by decide) (by decide) (by decide)) (ym 48 (by decide) (by decide) (by decide) (by decide) (by decide) (by decide) (by decide) (by decide) (by decide) (by decide) (by decide))
          · exact h.ts.fr (fun c a b => ym c (by omega) (by omega) (by omega) (by omega) (by omega) (by omega) (by omega) (by omega) (by omega) (by omega) (by omega)) (ym 49 (by decide) (by decide) (by decide) (by decide) (by decide) (by decide) (by decide) (by decide) (by decide) (by decide) (by decide)) (ym 50 (by decide) (by decide) (by decide) (by decide) (by decide) (by decide) (by decide) (by decide) (by decide) (by decide) (by decide))
          · exact h.st.fr (ym 0 (by decide) (by decide) (by decide) (by decide) (by decide) (by decide) (by decide) (by decide) (by decide) (by decide) (by decide)) (ym 45 (by decide) (by decide) (by decide) (by decide) (by decide) (by decide) (by decide) (by decide) (by decide) (by decide) (by decide)) (ym 51 (by decide) (by decide) (by decide) (by decide) (by decide) (by decide) (by decide) (by decide) (by decide) (by decide) (by decide)) (fun i hi => by rw [d9 i hi, k2 i (by omega), xm 46 (by decide) (by decide) (by decide) (by decide) (by decide) (by decide) (by decide) (by decide) (by decide)])
      · simp only [if_neg hv] at hc
        refine zboK (by decide) (by decide) hc (sp_X8_club (d := 0) hk (by rw [t1, ej]) hj) (fun r m' l q => ?_)
        obtain ⟨rfl, m, ⟨-, -, k1, -⟩, ⟨-, rfl, rfl⟩ | ⟨z, -⟩⟩ := q
        · exact ⟨rfl, h.rd k1⟩
        · exact absurd z hv
    · simp only [if_neg h0] at hc
      exact zboR (by decide) (by decide) hc (sp_X8_club_1 (d := 0) hk (by rw [fndM_c (by decide) (by decide), t1]; exact h0)) rfl (h.fnd (by decide))
  · exact zboR (by decide) (by decide) (sp_X7_club_n (d := 0) hr) (sp_X8_club_n (d := 0) hr) rfl h
end M76
