section M68
variable {mu : Mem} {lm : MemL}
/-! ===== the deeds ===== -/
theorem iA.fr {mu' : Mem} {C M : Nat} (h : iA mu C M) (e4 : mu' 23 4 = mu 23 4) (e5 : mu' 23 5 = mu 23 5) (e6 : mu' 23 6 = mu 23 6) (e24 : mu' 24 = mu 24) (e25 : mu' 25 = mu 25) (e46 : ∀ k, 15 < k → k < 24 → mu' 46 k = mu 46 k) (e53 : mu' 53 = mu 53) (e54 : mu' 54 = mu 54) : iA mu' C M := by
  unfold iA at h ⊢
  rw [e4, e5, e6, e24, e25, e46 16 (by decide) (by decide), e46 17 (by decide) (by decide), e46 18 (by decide) (by decide), e53, e54]
  exact h
theorem cS_fr {mu' : Mem} (e7 : mu' 23 7 = mu 23 7) (e8 : mu' 23 8 = mu 23 8) (e9 : mu' 23 9 = mu 23 9) (e26 : mu' 26 = mu 26) (e27 : mu' 27 = mu 27) : cS mu' = cS mu := by
  unfold cS
  rw [e7, e8, e9, e26, e27]
theorem iDc.fr {mu' : Mem} {C M n : Nat} {D : Nat → Nat × Nat × Nat} (h : iDc mu C M n D) (e23 : mu' 23 = mu 23) (e24 : mu' 24 = mu 24) (e25 : mu' 25 = mu 25) (e26 : mu' 26 = mu 26) (e27 : mu' 27 = mu 27) (e28 : mu' 28 = mu 28) (e29 : mu' 29 = mu 29) : iDc mu' C M n D := by
  unfold iDc dAll at h ⊢
  rw [e23, e24, e25, e28, e29, cS_fr (mu := mu) (mu' := mu') (by rw [e23]) (by rw [e23]) (by rw [e23]) e26 e27]
  exact h
theorem iDm.fr {mu' : Mem} {kd st : Nat → Int32} {lk : Int32} {C n : Nat} {D : Nat → Nat × Nat × Nat} (h : iDm mu kd st lk C n D) (e46 : mu' 46 24 = mu 46 24) (e55 : mu' 55 = mu 55) (e57 : mu' 57 = mu 57) : iDm mu' kd st lk C n D := by
  unfold iDm at h ⊢
  rw [e46, e55, e57]
  exact h
theorem iK.fr {mu' : Mem} {kd st : Nat → Int32} {lk : Int32} {C M : Nat} (h : iK mu kd st lk C M) (h1 : ∀ c, 31 ≤ c → c ≤ 36 → mu' c = mu c) (e58 : mu' 58 = mu 58) (e59 : mu' 59 = mu 59) (e60 : mu' 60 = mu 60) : iK mu' kd st lk C M := by
  intro k hk
  have := h k hk
  unfold iK1 dAll at this ⊢
  rw [h1 (31 + 2 * k) (by omega) (by omega), h1 (32 + 2 * k) (by omega) (by omega), e58, e59, e60]
  exact this
theorem iDc.cg {C M n : Nat} {D D' : Nat → Nat × Nat × Nat} (h : iDc mu C M n D) (e : ∀ k, k < n → D k = D' k) : iDc mu C M n D' := by
  obtain ⟨a, b, c, d⟩ := h
  exact ⟨a, b, fun k hk => by rw [← e k hk]; exact c k hk, by rw [← rn_cong e]; exact d⟩
theorem iDm.cg {kd st : Nat → Int32} {lk : Int32} {C n : Nat} {D D' : Nat → Nat × Nat × Nat} (h : iDm mu kd st lk C n D) (e : ∀ k, k < n → D k = D' k) : iDm mu kd st lk C n D' := by
  obtain ⟨a, b, c⟩ := h
  exact ⟨a, by rw [← rn_cong e]; exact b, fun k hk => by rw [← rn_cong (fun i hi => e i (by omega))]; exact c k hk⟩
theorem iX.cg {C M n : Nat} {D D' : Nat → Nat × Nat × Nat} (h : iX mu C M n D) (e : ∀ k, k < n → D k = D' k) : iX mu C M n D' := ⟨h.1, h.2.1.cg e, h.2.2.1.cg e, h.2.2.2⟩
/-- a good deed -/
def dGd (C M : Nat) (D : Nat × Nat × Nat) : Prop := dOk C M D.1 D.2.1 ∧ D.2.1 < 8 ∧ D.2.2 < 100
theorem wrD_cf {n w o v c : Nat} (h1 : c ≠ 28) (h2 : c ≠ 29) : wrD mu n w o v c = mu c := by funext k; exact wrD_c h1 h2
theorem prfM_cf {C n c : Nat} {D : Nat × Nat × Nat} (h1 : c ≠ 23) (h2 : c ≠ 26) (h3 : c ≠ 27) (h4 : c ≠ 28) (h5 : c ≠ 29) : prfM mu C n D c = mu c := by funext k; exact prfM_c h1 h2 h3 h4 h5
theorem iDc.st {C M n : Nat} {D : Nat → Nat × Nat × Nat} (h : iDc mu C M n D) (hC : mu 23 5 = nI C) (hC8 : C ≤ 8) (hM6 : M ≤ 6) (hn : n < 40) (hd : dGd C M (D n)) : iDc (prfM mu C n (D n)) C M (n + 1) D := by
  obtain ⟨a, b, c, e⟩ := h
  obtain ⟨d1, d2, d3⟩ := hd
  refine ⟨prfM_n, by omega, fun k hk => ?_, ?_⟩
  · by_cases q : k = n
    · subst q
      refine ⟨?_, d1, d2, d3⟩
      unfold prfM
      rw [enM_c (by decide) (by decide) (by decide)]
      unfold wrD
      rw [zup_cf _ _ (by decide), zup_s]
    · have := c k (by omega)
      refine ⟨?_, this.2⟩
      rw [← this.1]
      unfold prfM
      rw [enM_c (by decide) (by decide) (by decide)]
      unfold wrD
      rw [zup_cf _ _ (by decide), zup_k _ _ _ q]
  · rw [prfM_cf (by decide) (by decide) (by decide) (by decide) (by decide), prfM_cf (by decide) (by decide) (by decide) (by decide) (by decide), prfM_k (by decide) (by decide) (by decide)]
    have e1 := cS_en (mu := wrD mu n (D n).1 (D n).2.1 (D n).2.2) (C := C) (w := (D n).1) (o := (D n).2.1) (v := (D n).2.2) (by rw [wrD_c (by decide) (by decide)]; exact hC) hC8 (fun q => by have := d1.2.1 q; omega) d1.2.2
    rw [wrD_cf (by decide) (by decide), wrD_cf (by decide) (by decide), wrD_c (by decide) (by decide), cS_fr (mu := mu) (wrD_c (by decide) (by decide)) (wrD_c (by decide) (by decide)) (wrD_c (by decide) (by decide)) (wrD_cf (by decide) (by decide)) (wrD_cf (by decide) (by decide))] at e1
    exact e1.tr (stp_cong hC8 (fun q => ⟨by have := d1.2.1 q; show (D n).2.1 < 6; omega, rfl, rfl⟩) e)
theorem iDm.st {kd st : Nat → Int32} {lk : Int32} {C n : Nat} {D : Nat → Nat × Nat × Nat} (h : iDm mu kd st lk C n D) (hC : mu 46 17 = nI C) (hC8 : C ≤ 8) (hl : mu 46 16 = lk) (hk : (D n).1 = 0 → (D n).2.1 < 6 ∧ mu 53 (D n).2.1 = kd (D n).2.1 ∧ mu 54 (D n).2.1 = st (D n).2.1) (h2 : (D n).1 = 2 → (D n).2.1 < C) : iDm (enD (ntM mu n) C (D n).1 (D n).2.1 (nI (D n).2.2)) kd st lk C (n + 1) D := by
  obtain ⟨a, b, c⟩ := h
  refine ⟨?_, ?_, fun k hk => ?_⟩
  · rw [enD_c (by decide)]
    unfold ntM
    rw [zup_s]
  · have e1 := mS_en (m := ntM mu n) (kd := kd) (st := st) (C := C) (w := (D n).1) (o := (D n).2.1) (v := (D n).2.2) (by rw [ntM_k (by decide)]; exact hC) hC8 (fun q => by rw [ntM_c (by decide) (by decide), ntM_c (by decide) (by decide)]; exact hk q) h2
    rw [ntM_k (by decide), hl, ntM_c (by decide) (by decide)] at e1
    exact e1.tr (stp_cong hC8 (fun q => ⟨(hk q).1, rfl, rfl⟩) b)
  · rw [enD_c (by decide)]
    intro q hq
    unfold ntM va_cpy
    simp only [zup_cf _ _ (show (57 : Nat) ≠ 46 by decide), zuc_s]
    by_cases e : k = n
    · subst e
      rw [if_pos (by omega), show 0 + (17 * k + q - 17 * k) = q by omega]
      exact b q hq
    · rw [if_neg (by omega)]
      exact c k (by omega) q hq
def cRun (mu : Mem) (C n : Nat) (D : Nat → Nat × Nat × Nat) : Nat → Mem
  | 0 => mu
  | k + 1 => prfM (cRun mu C n D k) C (n + k) (D (n + k))
def mRun (mu : Mem) (C n : Nat) (D : Nat → Nat × Nat × Nat) : Nat → Mem
  | 0 => mu
  | k + 1 => enD (ntM (mRun mu C n D k) (n + k)) C (D (n + k)).1 (D (n + k)).2.1 (nI (D (n + k)).2.2)
theorem cRun_c {C n c : Nat} {D : Nat → Nat × Nat × Nat} (h1 : c ≠ 23) (h2 : c ≠ 26) (h3 : c ≠ 27) (h4 : c ≠ 28) (h5 : c ≠ 29) : ∀ k, cRun mu C n D k c = mu c
  | 0 => rfl
  | k + 1 => by rw [cRun, prfM_cf h1 h2 h3 h4 h5, cRun_c h1 h2 h3 h4 h5 k]
theorem cRun_k {C n j : Nat} {D : Nat → Nat × Nat × Nat} (h1 : j ≠ 7) (h2 : j ≠ 8) (h3 : j ≠ 9) : ∀ k, cRun mu C n D k 23 j = mu 23 j
  | 0 => rfl
  | k + 1 => by rw [cRun, prfM_k h1 h2 h3, cRun_k h1 h2 h3 k]
theorem mRun_c {C n c : Nat} {D : Nat → Nat × Nat × Nat} (h1 : c ≠ 46) (h2 : c ≠ 55) (h3 : c ≠ 57) : ∀ k, mRun mu C n D k c = mu c
  | 0 => rfl
  | k + 1 => by rw [mRun, enD_c h2, ntM_c h3 h1, mRun_c h1 h2 h3 k]
theorem mRun_k {C n j : Nat} {D : Nat → Nat × Nat × Nat} (h : j ≠ 24) : ∀ k, mRun mu C n D k 46 j = mu 46 j
  | 0 => rfl
  | k + 1 => by rw [mRun, enD_c (by decide), ntM_k h, mRun_k h k]
theorem iDc.run {C M n : Nat} {D : Nat → Nat × Nat × Nat} (h : iDc mu C M n D) (hC : mu 23 5 = nI C) (hC8 : C ≤ 8) (hM6 : M ≤ 6) : ∀ N, n + N ≤ 40 → (∀ k, k < N → dGd C M (D (n + k))) → iDc (cRun mu C n D N) C M (n + N) D
  | 0, _, _ => h
  | N + 1, h1, h2 => by
    rw [cRun]
    exact (iDc.run h hC hC8 hM6 N (by omega) (fun k hk => h2 k (by omega))).st (by rw [cRun_k (by decide) (by decide) (by decide)]; exact hC) hC8 hM6 (by omega) (h2 N (by omega))
theorem iDm.run {kd st : Nat → Int32} {lk : Int32} {C M n : Nat} {D : Nat → Nat × Nat × Nat} (h : iDm mu kd st lk C n D) (hC : mu 46 17 = nI C) (hC8 : C ≤ 8) (hM6 : M ≤ 6) (hl : mu 46 16 = lk) (hks : ∀ j, j < M → mu 53 j = kd j ∧ mu 54 j = st j) : ∀ N, (∀ k, k < N → dGd C M (D (n + k))) → iDm (mRun mu C n D N) kd st lk C (n + N) D
  | 0, _ => h
  | N + 1, h2 => by
    rw [mRun]
    have g := h2 N (by omega)
    exact (iDm.run h hC hC8 hM6 hl hks N (fun k hk => h2 k (by omega))).st (by rw [mRun_k (by decide)]; exact hC) hC8 (by rw [mRun_k (by decide)]; exact hl) (fun q => by
      have hj := g.1.2.1 q
      rw [mRun_c (by decide) (by decide) (by decide), mRun_c (by decide) (by decide) (by decide)]
      exact ⟨by omega, hks _ hj⟩) g.1.2.2
theorem iX.run {C M n N : Nat} {D : Nat → Nat × Nat × Nat} (h : iX mu C M n D) (hn : n + N ≤ 40) (hg : ∀ k, k < N → dGd C M (D (n + k))) : iX (mRun (cRun mu C n D N) C n D N) C M (n + N) D := by
  obtain ⟨hA, hc, hm, hk⟩ := h
  obtain ⟨a1, a2, a3, a4, a5, a6, a7, a8, a9, a10, a11⟩ := id hA
  have c1 := hc.run a1 a5 a6 N hn hg
  have e24 : mRun (cRun mu C n D N) C n D N 24 = mu 24 := by rw [mRun_c (by decide) (by decide) (by decide), cRun_c (by decide) (by decide) (by decide) (by decide) (by decide)]
  have e25 : mRun (cRun mu C n D N) C n D N 25 = mu 25 := by rw [mRun_c (by decide) (by decide) (by decide), cRun_c (by decide) (by decide) (by decide) (by decide) (by decide)]
  have e234 : mRun (cRun mu C n D N) C n D N 23 4 = mu 23 4 := by rw [mRun_c (by decide) (by decide) (by decide), cRun_k (by decide) (by decide) (by decide)]
  refine ⟨?_, ?_, ?_, ?_⟩
  · refine hA.fr e234 ?_ ?_ e24 e25 (fun k h1 h2 => ?_) ?_ ?_
    · rw [mRun_c (by decide) (by decide) (by decide), cRun_k (by decide) (by decide) (by decide)]
    · rw [mRun_c (by decide) (by decide) (by decide), cRun_k (by decide) (by decide) (by decide)]
    · rw [mRun_k (by omega), cRun_c (by decide) (by decide) (by decide) (by decide) (by decide)]
    · rw [mRun_c (by decide) (by decide) (by decide), cRun_c (by decide) (by decide) (by decide) (by decide) (by decide)]
    · rw [mRun_c (by decide) (by decide) (by decide), cRun_c (by decide) (by decide) (by decide) (by decide) (by decide)]
  · exact c1.fr (mRun_c (by decide) (by decide) (by decide) N) (mRun_c (by decide) (by decide) (by decide) N) (mRun_c (by decide) (by decide) (by decide) N) (mRun_c (by decide) (by decide) (by decide) N) (mRun_c (by decide) (by decide) (by decide) N) (mRun_c (by decide) (by decide) (by decide) N) (mRun_c (by decide) (by decide) (by decide) N)
  · rw [e24, e25, e234]
    refine (hm.fr (mu' := cRun mu C n D N) ?_ ?_ ?_).run (M := M) ?_ a5 a6 ?_ (fun j hj => ?_) N hg
    · rw [cRun_c (by decide) (by decide) (by decide) (by decide) (by decide)]
    · rw [cRun_c (by decide) (by decide) (by decide) (by decide) (by decide)]
    · rw [cRun_c (by decide) (by decide) (by decide) (by decide) (by decide)]
    · rw [cRun_c (by decide) (by decide) (by decide) (by decide) (by decide)]; exact a2
    · rw [cRun_c (by decide) (by decide) (by decide) (by decide) (by decide)]; exact a9
    · rw [cRun_c (by decide) (by decide) (by decide) (by decide) (by decide), cRun_c (by decide) (by decide) (by decide) (by decide) (by decide)]; exact ⟨(a11 j hj).1, (a11 j hj).2.1⟩
  · rw [e24, e25, e234]
    refine hk.fr (fun c h1 h2 => ?_) ?_ ?_ ?_
    · rw [mRun_c (by omega) (by omega) (by omega), cRun_c (by omega) (by omega) (by omega) (by omega) (by omega)]
    · rw [mRun_c (by decide) (by decide) (by decide), cRun_c (by decide) (by decide) (by decide) (by decide) (by decide)]
    · rw [mRun_c (by decide) (by decide) (by decide), cRun_c (by decide) (by decide) (by decide) (by decide) (by decide)]
    · rw [mRun_c (by decide) (by decide) (by decide), cRun_c (by decide) (by decide) (by decide) (by decide) (by decide)]
theorem zInv.run {C M n N : Nat} {D : Nat → Nat × Nat × Nat} (h : iX mu C M n D) (hr : iRs mu) (ht : iTs mu) (hs : iS mu lm) (hn : n + N ≤ 40) (hg : ∀ k, k < N → dGd C M (D (n + k))) : zInv (mRun (cRun mu C n D N) C n D N) lm := by
  have e : ∀ c, c ≠ 46 → c ≠ 55 → c ≠ 57 → c ≠ 23 → c ≠ 26 → c ≠ 27 → c ≠ 28 → c ≠ 29 → mRun (cRun mu C n D N) C n D N c = mu c := fun c h1 h2 h3 h4 h5 h6 h7 h8 => by rw [mRun_c h1 h2 h3, cRun_c h4 h5 h6 h7 h8]
  exact ⟨C, M, n + N, D, h.run hn hg, hr.fr (fun c a b => e c (by omega) (by omega) (by omega) (by omega) (by omega) (by omega) (by omega) (by omega)) (e 47 (by decide) (by decide) (by decide) (by decide) (by decide) (by decide) (by decide) (by decide)) (e 48 (by decide) (by decide) (by decide) (by decide) (by decide) (by decide) (by decide) (by decide)), ht.fr (fun c a b => e c (by omega) (by omega) (by omega) (by omega) (by omega) (by omega) (by omega) (by omega)) (e 49 (by decide) (by decide) (by decide) (by decide) (by decide) (by decide) (by decide) (by decide)) (e 50 (by decide) (by decide) (by decide) (by decide) (by decide) (by decide) (by decide) (by decide)), hs.fr (e 0 (by decide) (by decide) (by decide) (by decide) (by decide) (by decide) (by decide) (by decide)) (e 45 (by decide) (by decide) (by decide) (by decide) (by decide) (by decide) (by decide) (by decide)) (e 51 (by decide) (by decide) (by decide) (by decide) (by decide) (by decide) (by decide) (by decide)) (fun k hk => by rw [mRun_k (by omega), cRun_c (by decide) (by decide) (by decide) (by decide) (by decide)])⟩
/-- one deed more -/
theorem zInv.deed {w o v : Nat} {C M n : Nat} {D : Nat → Nat × Nat × Nat} (h : iX mu C M n D) (hr : iRs mu) (ht : iTs mu) (hs : iS mu lm) (hn : n < 40) (hg : dGd C M (w, o, v)) : zInv (enD (ntM (enM (wrD mu n w o v) C w o (nI v)) n) C w o (nI v)) lm := by
  have h' : iX mu C M n (fun k => if k = n then (w, o, v) else D k) := h.cg (fun k hk => by rw [if_neg (by omega)])
  have r := zInv.run (N := 1) h' hr ht hs (by omega) (fun k hk => by rw [show n + k = n by omega]; rw [if_pos rfl]; exact hg)
  rw [mRun, mRun, cRun, cRun, Nat.add_zero] at r
  simp only [if_true] at r
  exact r
theorem enM_hi {C w o c : Nat} {v : Int32} (h : 45 < c) : enM mu C w o v c = mu c := enM_c (by omega) (by omega) (by omega)
theorem doM_hi {C n w o v c : Nat} (h : 45 < c) : (doM mu C n w o v).2 c = mu c := by
  unfold doM
  split
  · show enM _ _ _ _ _ c = _
    rw [enM_hi h, wrD_cf (by omega) (by omega)]
  · rfl
theorem zF.mm {C M n : Nat} {mu' : Mem} (F : zF mu C M n) (e : ∀ c, 45 < c → mu' c = mu c) : (mu' 46 17 = nI C ∧ mu' 46 18 = nI M ∧ mu' 46 24 = nI n) ∧ (∀ q, q < C → 0 ≤ mu' 55 q ∧ mu' 55 q ≤ 999) ∧ (0 ≤ mu' 46 16 ∧ mu' 46 16 ≤ 9) ∧ ∀ j, j < M → ∃ q, q < C ∧ mu' 54 j = nI q := by
  rw [e 46 (by decide), e 55 (by decide), e 54 (by decide)]
  exact ⟨⟨F.C', F.M', F.n1'⟩, F.A, F.L', F.S'⟩
theorem bo_talk (h : zInv mu lm) (i v : Int32) : zBo cX7_talk 3 cX8_talk 3 [.int i, .int v] mu lm := by
  obtain ⟨C, M, n, D, hx, hr, ht, hs⟩ := id h
  have F := hx.fa
  by_cases hb : (0 ≤ i ∧ i < mu 23 6) ∧ (0 ≤ v ∧ v ≤ 99)
  · obtain ⟨j, hj, rfl⟩ := zget hb.1 F.M F.Ms
    obtain ⟨a, ha, rfl⟩ := zgetl (M := 99) hb.2 (by decide)
    have G := F.mm (mu' := (doM mu C n 0 j a).2) (fun c => doM_hi)
    have e53 : (doM mu C n 0 j a).2 53 j = mu 24 j := by rw [doM_hi (by decide), F.kd hj]
    refine zboR (by decide) (by decide) (sp_X7_talk (d := 0) F.C F.C8 F.M F.M6 F.n1 F.n4 hj ha) (sp_X8_talk (d := 0) G.1.1 F.C8 G.1.2.1 F.M6 G.1.2.2 F.n4 G.2.1 G.2.2.1 (F.C3 (by omega)) G.2.2.2 hj hb.2) ?_ ?_
    · rw [e53]
      unfold doM
      by_cases hn : n < 40
      · simp only [if_pos hn]
        unfold enR
        rw [if_pos rfl, wrD_cf (by decide) (by decide)]
      · simp only [if_neg hn]
    · unfold doM
      by_cases hn : n < 40
      · simp only [if_pos hn]
        have := zInv.deed (w := 0) (o := j) (v := a) hx hr ht hs hn ⟨⟨show 0 < 4 by decide, fun _ => hj, fun q => absurd (show 0 = 2 from q) (by decide)⟩, by have := F.M6; show j < 8; omega, by show a < 100; omega⟩
        unfold enD at this
        rw [if_pos rfl] at this
        exact this
      · simp only [if_neg hn]
        exact h
  · exact zboR (by decide) (by decide) (sp_X7_talk_n (d := 0) i v hb) (sp_X8_talk_n (d := 0) F.M' F.M6 i v (by rw [F.c4]; exact hb)) rfl h
theorem zsub4 (a b c e : Int32) : a + c - (b + e) = a - b + (c - e) := by
  rw [Int32.sub_eq_add_neg, Int32.neg_add, Int32.sub_eq_add_neg, Int32.sub_eq_add_neg, Int32.sub_eq_add_neg]
  ac_rfl
theorem zsum_sub {f g : Nat → Int32} : ∀ n, zsum n f - zsum n g = zsum n (fun q => f q - g q)
  | 0 => show (0 : Int32) - 0 = 0 from rfl
  | n + 1 => by
    rw [zsum_s, zsum_s, zsum_s, ← zsum_sub n]
    exact zsub4 _ _ _ _
theorem bo_hour (h : zInv mu lm) : zBo cX7_hour 1 cX8_hour 1 [] mu lm := by
  obtain ⟨C, M, n, D, hx, hr, ht, hs⟩ := id h
  have F := hx.fa
  have ehi : ∀ c, 45 < c → (if M = 0 then (-4, mu) else doM mu C n 1 0 0).2 c = mu c := by
    intro c hc
    split
    · rfl
    · exact doM_hi hc
  have G := F.mm ehi
  refine zboR (by decide) (by decide) (sp_X7_hour (d := 0) F.C F.C8 F.M F.M6 F.n1 F.n4) (sp_X8_hour (d := 0) G.1.1 F.C8 G.1.2.1 F.M6 G.1.2.2 F.n4 G.2.1 G.2.2.1) ?_ ?_
  · rw [ehi 55 (by decide), ehi 46 (by decide)]
    by_cases h0 : M = 0
    · simp only [if_pos h0]
    · simp only [if_neg h0]
      unfold doM
      by_cases hn : n < 40
      · simp only [if_pos hn]
        unfold enR
        rw [if_neg (by decide), if_pos rfl, zsum_sub]
        apply zsum_cong
        intro q hq
        unfold hourM hourA
        rw [zup_cf _ _ (by decide), zuc_s, if_pos hq, wrD_c (by decide) (by decide), wrD_c (by decide) (by decide), F.air hq, F.lk]
        rfl
      · simp only [if_neg hn]
  · by_cases h0 : M = 0
    · simp only [if_pos h0]
      exact h
    · simp only [if_neg h0]
      unfold doM
      by_cases hn : n < 40
      · simp only [if_pos hn]
        have := zInv.deed (w := 1) (o := 0) (v := 0) hx hr ht hs hn ⟨⟨by decide, fun q => absurd q (by decide), fun q => absurd q (by decide)⟩, by decide, by decide⟩
        unfold enD at this
        rw [if_neg (by decide), if_pos rfl] at this
        exact this
      · simp only [if_neg hn]
        exact h
theorem bo_open (h : zInv mu lm) (i : Int32) : zBo cX7_open 2 cX8_open 3 [.int i] mu lm := by
  obtain ⟨C, M, n, D, hx, hr, ht, hs⟩ := id h
  have F := hx.fa
  by_cases hb : 0 ≤ i ∧ i < mu 23 5
  · obtain ⟨c, hc, rfl⟩ := zget hb F.C F.Cs
    have ehi : ∀ c', 45 < c' → (if mu 27 c = 0 then (-4, mu) else doM mu C n 2 c 0).2 c' = mu c' := by
      intro c' hc'
      split
      · rfl
      · exact doM_hi hc'
    have G := F.mm ehi
    have hC8 := F.C8
    refine zboR (by decide) (by decide) (sp_X7_open (d := 0) F.C F.C8 F.M F.M6 F.n1 F.n4 hc) (sp_X8_open (d := 0) G.1.1 F.C8 G.1.2.1 F.M6 G.1.2.2 F.n4 G.2.1 G.2.2.1 hc) ?_ ?_
    · rw [ehi 55 (by decide), F.air hc]
      by_cases h0 : mu 27 c = 0
      · simp only [if_pos h0]
      · simp only [if_neg h0]
        unfold doM
        by_cases hn : n < 40
        · simp only [if_pos hn]
          unfold enR
          rw [if_neg (by decide), if_neg (by decide), if_pos rfl, wrD_c (by decide) (by decide)]
        · simp only [if_neg hn]
    · rw [ehi 55 (by decide), F.air hc]
      by_cases h0 : mu 27 c = 0
      · simp only [if_pos h0]
        exact h
      · simp only [if_neg h0]
        unfold doM
        by_cases hn : n < 40
        · simp only [if_pos hn]
          have := zInv.deed (w := 2) (o := c) (v := 0) hx hr ht hs hn ⟨⟨show 2 < 4 by decide, fun q => absurd (show 2 = 0 from q) (by decide), fun _ => hc⟩, by show c < 8; omega, show 0 < 100 by decide⟩
          unfold enD at this
          rw [if_neg (by decide), if_neg (by decide), if_pos rfl] at this
          exact this
        · simp only [if_neg hn]
          exact h
  · exact zboR (by decide) (by decide) (sp_X7_open_n (d := 0) i hb) (sp_X8_open_n (d := 0) F.C' F.C8 F.M' F.M6 i (by rw [F.c5]; exact hb)) rfl h
theorem zF.sum {C M n : Nat} (F : zF mu C M n) : zsum C (mu 55) = zsum C (mu 27) := zsum_cong (fun q hq => F.air hq)
theorem bo_thunder (h : zInv mu lm) : zBo cX7_thunder 1 cX8_thunder 1 [] mu lm := by
  obtain ⟨C, M, n, D, hx, hr, ht, hs⟩ := id h
  have F := hx.fa
  have ehi : ∀ c, 45 < c → (if zsum C (mu 27) = 0 then (-4, mu) else doM mu C n 3 0 0).2 c = mu c := by
    intro c hc
    split
    · rfl
    · exact doM_hi hc
  have G := F.mm ehi
  refine zboR (by decide) (by decide) (sp_X7_thunder (d := 0) F.C F.C8 F.M F.M6 F.n1 F.n4) (sp_X8_thunder (d := 0) G.1.1 F.C8 G.1.2.1 F.M6 G.1.2.2 F.n4 G.2.1 G.2.2.1) ?_ ?_
  · rw [ehi 55 (by decide), F.sum, F.hd]
    by_cases h0 : zsum C (mu 27) = 0
    · simp only [if_pos h0]
    · simp only [if_neg h0]
      unfold doM
      by_cases hn : n < 40
      · simp only [if_pos hn]
        unfold enR
        rw [if_neg (by decide), if_neg (by decide), if_neg (by decide), wrD_c (by decide) (by decide), wrD_cf (by decide) (by decide)]
      · simp only [if_neg hn]
  · rw [ehi 55 (by decide), F.sum]
    by_cases h0 : zsum C (mu 27) = 0
    · simp only [if_pos h0]
      exact h
    · simp only [if_neg h0]
      unfold doM
      by_cases hn : n < 40
      · simp only [if_pos hn]
        have := zInv.deed (w := 3) (o := 0) (v := 0) hx hr ht hs hn ⟨⟨by decide, fun q => absurd q (by decide), fun q => absurd q (by decide)⟩, by decide, by decide⟩
        unfold enD at this
        rw [if_neg (by decide), if_neg (by decide), if_neg (by decide)] at this
        exact this
      · simp only [if_neg hn]
        exact h
end M68
