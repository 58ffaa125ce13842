section M65
/-! ===== the invariant ===== -/
def iA (mu : Mem) (C M : Nat) : Prop := mu 23 5 = nI C ∧ mu 46 17 = nI C ∧ mu 23 6 = nI M ∧ mu 46 18 = nI M ∧ C ≤ 8 ∧ M ≤ 6 ∧ (0 < M → 3 ≤ C) ∧ (M = 0 → C = 0) ∧ mu 46 16 = mu 23 4 ∧ (0 ≤ mu 23 4 ∧ mu 23 4 ≤ 9) ∧ ∀ j, j < M → mu 53 j = mu 24 j ∧ mu 54 j = mu 25 j ∧ ∃ q, q < C ∧ mu 25 j = nI q
def iRow (mu : Mem) (b p sz it N K : Nat) : Prop := ∀ k, k < K → mu sz k = mu (b + 2 * k) 1 ∧ zSz (mu (b + 2 * k) 1) N ∧ ∀ q, q < (mu (b + 2 * k) 1).toNatClampNeg → mu it (N * k + q) = mu (p + 2 * k) q
def iS (mu : Mem) (lm : MemL) : Prop := mu 46 6 = mu 0 10 ∧ lm 46 7 = lm 0 11 ∧ lm 46 8 = lm 0 12 ∧ mu 46 4 = mu 0 9 ∧ ∀ f, f < 6 → mu 51 f = mu 45 f
def iDc (mu : Mem) (C M n : Nat) (D : Nat → Nat × Nat × Nat) : Prop := mu 28 1 = nI n ∧ n ≤ 40 ∧ dAll mu 29 C M n D ∧ sEq (cS mu) (rn (mu 24) (mu 25) (mu 23 4) C D n)
def iDm (mu : Mem) (kd st : Nat → Int32) (lk : Int32) (C n : Nat) (D : Nat → Nat × Nat × Nat) : Prop := mu 46 24 = nI n ∧ sEq (mu 55) (rn kd st lk C D n) ∧ ∀ k, k < n → sEq (fun q => mu 57 (17 * k + q)) (rn kd st lk C D k)
def iK1 (mu : Mem) (kd st : Nat → Int32) (lk : Int32) (C M k : Nat) : Prop := mu 60 k = mu (31 + 2 * k) 1 ∧ (mu (31 + 2 * k) 1 = -1 ∨ ∃ (n : Nat) (D : Nat → Nat × Nat × Nat), n ≤ 40 ∧ mu (31 + 2 * k) 1 = nI n ∧ dAll mu (32 + 2 * k) C M n D ∧ sEq (fun q => mu 58 (17 * k + q)) (rn kd st lk C D n) ∧ ∀ i, i < n → sEq (fun q => mu 59 (680 * k + (17 * i + q))) (rn kd st lk C D i))
def iK (mu : Mem) (kd st : Nat → Int32) (lk : Int32) (C M : Nat) : Prop := ∀ k, k < 3 → iK1 mu kd st lk C M k
def iX (mu : Mem) (C M n : Nat) (D : Nat → Nat × Nat × Nat) : Prop := iA mu C M ∧ iDc mu C M n D ∧ iDm mu (mu 24) (mu 25) (mu 23 4) C n D ∧ iK mu (mu 24) (mu 25) (mu 23 4) C M
def iRs (mu : Mem) : Prop := iRow mu 2 3 47 48 40 6
def iTs (mu : Mem) : Prop := iRow mu 15 16 49 50 60 4
def zInv (mu : Mem) (lm : MemL) : Prop := ∃ (C M n : Nat) (D : Nat → Nat × Nat × Nat), iX mu C M n D ∧ iRs mu ∧ iTs mu ∧ iS mu lm
/-! frames -/
theorem iRow.fr {mu mu' : Mem} {b p sz it N K : Nat} (h : iRow mu b p sz it N K) (h1 : ∀ j, j < K → mu' (b + 2 * j) = mu (b + 2 * j) ∧ mu' (p + 2 * j) = mu (p + 2 * j)) (h2 : mu' sz = mu sz) (h3 : mu' it = mu it) : iRow mu' b p sz it N K := by
  intro k hk
  rw [(h1 k hk).1, (h1 k hk).2, h2, h3]
  exact h k hk
theorem zsz_le {x : Int32} {N : Nat} (h : zSz x N) (hN : N < 2147483648) : x.toNatClampNeg ≤ N := by
  rcases h with rfl | ⟨j, hj, rfl⟩
  · exact Nat.zero_le _
  · rw [nI_clamp (by omega)]; exact hj
theorem iRow.up {mu mu' : Mem} {b p sz it N K k : Nat} (h : iRow mu b p sz it N K) (hN : N < 2147483648) (h1 : ∀ j, j < K → j ≠ k → mu' sz j = mu sz j ∧ mu' (b + 2 * j) 1 = mu (b + 2 * j) 1 ∧ (∀ q, q < N → mu' it (N * j + q) = mu it (N * j + q)) ∧ ∀ q, q < N → mu' (p + 2 * j) q = mu (p + 2 * j) q) (h2 : mu' sz k = mu' (b + 2 * k) 1 ∧ zSz (mu' (b + 2 * k) 1) N ∧ ∀ q, q < (mu' (b + 2 * k) 1).toNatClampNeg → mu' it (N * k + q) = mu' (p + 2 * k) q) : iRow mu' b p sz it N K := by
  intro j hj
  by_cases e : j = k
  · subst e; exact h2
  · obtain ⟨a1, a2, a3, a4⟩ := h1 j hj e
    obtain ⟨b1, b2, b3⟩ := h j hj
    rw [a1, a2]
    refine ⟨b1, b2, fun q hq => ?_⟩
    have hl := zsz_le b2 hN
    rw [a3 q (by omega), a4 q (by omega)]
    exact b3 q hq
theorem iX.fr {mu mu' : Mem} {C M n : Nat} {D : Nat → Nat × Nat × Nat} (h : iX mu C M n D) (h1 : ∀ c, 23 ≤ c → c ≤ 36 → mu' c = mu c) (h2 : ∀ c, 53 ≤ c → c ≠ 56 → mu' c = mu c) (h3 : ∀ k, 15 < k → mu' 46 k = mu 46 k) : iX mu' C M n D := by
  have e23 := h1 23 (by decide) (by decide)
  have e24 := h1 24 (by decide) (by decide)
  have e25 := h1 25 (by decide) (by decide)
  have e26 := h1 26 (by decide) (by decide)
  have e27 := h1 27 (by decide) (by decide)
  have e28 := h1 28 (by decide) (by decide)
  have e29 := h1 29 (by decide) (by decide)
  have ecS : cS mu' = cS mu := by unfold cS; rw [e23, e26, e27]
  obtain ⟨hA, hc, hm, hk⟩ := h
  refine ⟨?_, ?_, ?_, ?_⟩
  · unfold iA at hA ⊢
    rw [e23, e24, e25, h2 53 (by decide) (by decide), h2 54 (by decide) (by decide), h3 16 (by decide), h3 17 (by decide), h3 18 (by decide)]
    exact hA
  · unfold iDc dAll at hc ⊢
    rw [e28, e29, e24, e25, e23, ecS]
    exact hc
  · unfold iDm at hm ⊢
    rw [e23, e24, e25, h3 24 (by decide), h2 55 (by decide) (by decide), h2 57 (by decide) (by decide)]
    exact hm
  · rw [e23, e24, e25]
    intro k hk'
    have := hk k hk'
    unfold iK1 dAll at this ⊢
    rw [h1 (31 + 2 * k) (by omega) (by omega), h1 (32 + 2 * k) (by omega) (by omega), h2 58 (by decide) (by decide), h2 59 (by decide) (by decide), h2 60 (by decide) (by decide)]
    exact this
theorem zInv.mk2 {mu mu' : Mem} {lm lm' : MemL} (h : zInv mu lm) (h1 : ∀ c, 23 ≤ c → c ≤ 36 → mu' c = mu c) (h2 : ∀ c, 53 ≤ c → c ≠ 56 → mu' c = mu c) (h3 : ∀ k, 15 < k → mu' 46 k = mu 46 k) (hr : iRs mu') (ht : iTs mu') (hs : iS mu' lm') : zInv mu' lm' := by
  obtain ⟨C, M, n, D, hx, -⟩ := h
  exact ⟨C, M, n, D, hx.fr h1 h2 h3, hr, ht, hs⟩
theorem zInv.rs {mu : Mem} {lm : MemL} (h : zInv mu lm) : iRs mu := by obtain ⟨C, M, n, D, -, h, -⟩ := h; exact h
theorem zInv.ts {mu : Mem} {lm : MemL} (h : zInv mu lm) : iTs mu := by obtain ⟨C, M, n, D, -, -, h, -⟩ := h; exact h
theorem zInv.st {mu : Mem} {lm : MemL} (h : zInv mu lm) : iS mu lm := by obtain ⟨C, M, n, D, -, -, -, h⟩ := h; exact h
theorem iRs.fr {mu mu' : Mem} (h : iRs mu) (h1 : ∀ c, 2 ≤ c → c ≤ 13 → mu' c = mu c) (h2 : mu' 47 = mu 47) (h3 : mu' 48 = mu 48) : iRs mu' := iRow.fr h (fun j hj => ⟨h1 _ (by omega) (by omega), h1 _ (by omega) (by omega)⟩) h2 h3
theorem iTs.fr {mu mu' : Mem} (h : iTs mu) (h1 : ∀ c, 15 ≤ c → c ≤ 22 → mu' c = mu c) (h2 : mu' 49 = mu 49) (h3 : mu' 50 = mu 50) : iTs mu' := iRow.fr h (fun j hj => ⟨h1 _ (by omega) (by omega), h1 _ (by omega) (by omega)⟩) h2 h3
/-- what stays but for what is told and what is tried -/
def zSm (mu mu' : Mem) : Prop := (∀ c, 1 < c → c ≤ 36 → mu' c = mu c) ∧ (∀ c, 46 < c → c ≠ 51 → c ≠ 52 → c ≠ 56 → mu' c = mu c) ∧ ∀ k, 15 < k → mu' 46 k = mu 46 k
theorem zInv.told {mu mu' : Mem} {lm lm' : MemL} (h : zInv mu lm) (hs : zSm mu mu') (ht : iS mu' lm') : zInv mu' lm' :=
  h.mk2 (fun c a b => hs.1 c (by omega) b) (fun c a b => hs.2.1 c (by omega) (by omega) (by omega) b) hs.2.2 (h.rs.fr (fun c a b => hs.1 c (by omega) (by omega)) (hs.2.1 47 (by decide) (by decide) (by decide) (by decide)) (hs.2.1 48 (by decide) (by decide) (by decide) (by decide))) (h.ts.fr (fun c a b => hs.1 c (by omega) (by omega)) (hs.2.1 49 (by decide) (by decide) (by decide) (by decide)) (hs.2.1 50 (by decide) (by decide) (by decide) (by decide))) ht
theorem zSm.rf {mu : Mem} : zSm mu mu := ⟨fun _ _ _ => rfl, fun _ _ _ _ _ => rfl, fun _ _ => rfl⟩
theorem zSm.tr {mu mu1 mu2 : Mem} (h : zSm mu mu1) (h2 : zSm mu1 mu2) : zSm mu mu2 := ⟨fun c a b => (h2.1 c a b).trans (h.1 c a b), fun c a b d e => (h2.2.1 c a b d e).trans (h.2.1 c a b d e), fun k a => (h2.2.2 k a).trans (h.2.2 k a)⟩
theorem fndM_c {mu : Mem} {f c : Nat} (h : c ≠ 0) (h2 : c ≠ 45) : fndM mu f c = mu c := by unfold fndM; rw [zup_cf _ _ h2, zup_cf _ _ h]
theorem fndD_c {mu : Mem} {f c : Nat} (h : c ≠ 46) (h2 : c ≠ 51) : fndD mu f c = mu c := by unfold fndD; rw [zup_cf _ _ h2, zup_cf _ _ h]
theorem fndD_k {mu : Mem} {f k : Nat} (h : k ≠ 4) : fndD mu f 46 k = mu 46 k := by unfold fndD; rw [zup_cf _ _ (by decide), zup_k _ _ _ h]
theorem zSm.fM {mu : Mem} (f : Nat) : zSm mu (fndM mu f) := ⟨fun c a b => fndM_c (by omega) (by omega), fun c a b d e => fndM_c (by omega) (by omega), fun k a => by rw [fndM_c (by decide) (by decide)]⟩
theorem zSm.fD {mu : Mem} (f : Nat) : zSm mu (fndD mu f) := ⟨fun c a b => fndD_c (by omega) (by omega), fun c a b d e => fndD_c (by omega) (by omega), fun k a => fndD_k (by omega)⟩
theorem zSm.t0 {mu : Mem} (v : Int32) : zSm mu (zk_up mu 0 10 v) := ⟨fun c a b => zup_cf _ _ (by omega), fun c a b d e => zup_cf _ _ (by omega), fun k a => by rw [zup_cf _ _ (by decide)]⟩
theorem zSm.t46 {mu : Mem} (v : Int32) : zSm mu (zk_up mu 46 6 v) := ⟨fun c a b => zup_cf _ _ (by omega), fun c a b d e => zup_cf _ _ (by omega), fun k a => by rw [zup_k _ _ _ (by omega)]⟩
theorem zSm.s56 {mu mu' : Mem} (h : ∀ c, c ≠ 56 → mu' c = mu c) : zSm mu mu' := ⟨fun c a b => h c (by omega), fun c a b d e => h c e, fun k a => by rw [h 46 (by decide)]⟩
theorem zSm.u43 {mu : Mem} (f : Nat → Int32) : zSm mu (zk_uc mu 43 f) := ⟨fun c a b => zuc_c _ _ (by omega), fun c a b d e => zuc_c _ _ (by omega), fun k a => by rw [zuc_c _ _ (by decide)]⟩
theorem iS.fnd {mu : Mem} {lm : MemL} {f : Nat} (h : iS mu lm) (hf : f < 6) : iS (fndD (fndM mu f) f) lm := by
  obtain ⟨a, b, c, d, e⟩ := h
  refine ⟨?_, b, c, ?_, fun g hg => ?_⟩
  · rw [fndD_k (by decide), fndM_c (by decide) (by decide), fndD_c (by decide) (by decide), a]
    unfold fndM
    rw [zup_cf _ _ (by decide), zup_k _ _ _ (by decide)]
  · rw [fndD_c (c := 0) (by decide) (by decide)]
    unfold fndD fndM
    rw [zup_cf _ _ (by decide), zup_s, zup_cf _ _ (by decide), zup_s]
  · rw [fndD_c (c := 45) (by decide) (by decide)]
    unfold fndD fndM
    by_cases q : g = f
    · subst q
      rw [zup_s, zup_s, zup_cf _ _ (by decide), zup_cf _ _ (by decide), e g hg]
    · rw [zup_k _ _ _ q, zup_k _ _ _ q, zup_cf _ _ (by decide), zup_cf _ _ (by decide), zup_cf _ _ (by decide), zup_cf _ _ (by decide), e g hg]
theorem iS.tell {mu : Mem} {lm : MemL} (h : iS mu lm) (v : Int32) : iS (zk_up (zk_up mu 0 10 v) 46 6 v) lm := by
  obtain ⟨a, b, c, d, e⟩ := h
  refine ⟨?_, b, c, ?_, fun g hg => ?_⟩
  · rw [zup_s, zup_cf _ _ (by decide), zup_s]
  · rw [zup_k _ _ _ (by decide), zup_cf _ _ (by decide), zup_cf _ _ (by decide), zup_k _ _ _ (by decide), d]
  · rw [zup_cf _ _ (by decide), zup_cf _ _ (by decide), zup_cf _ _ (by decide), zup_cf _ _ (by decide), e g hg]
theorem iS.fr {mu mu' : Mem} {lm : MemL} (h : iS mu lm) (h0 : mu' 0 = mu 0) (h1 : mu' 45 = mu 45) (h2 : mu' 51 = mu 51) (h3 : ∀ k, k < 9 → mu' 46 k = mu 46 k) : iS mu' lm := by
  obtain ⟨a, b, c, d, e⟩ := h
  exact ⟨by rw [h0, h3 6 (by decide), a], b, c, by rw [h0, h3 4 (by decide), d], fun g hg => by rw [h1, h2, e g hg]⟩
theorem zInv.fnd {mu : Mem} {lm : MemL} {f : Nat} (h : zInv mu lm) (hf : f < 6) : zInv (fndD (fndM mu f) f) lm := h.told ((zSm.fM f).tr (zSm.fD f)) (h.st.fnd hf)
theorem zInv.tell {mu : Mem} {lm : MemL} (h : zInv mu lm) (v : Int32) : zInv (zk_up (zk_up mu 0 10 v) 46 6 v) lm := h.told ((zSm.t0 v).tr (zSm.t46 v)) (h.st.tell v)
/-! ===== a call of the class, the same call of the model ===== -/
def zBo (cc : ByteArray) (nL : Nat) (cc' : ByteArray) (nL' : Nat) (as : List Value) (mu : Mem) (lm : MemL) : Prop := zk_M 20 RX7 cc nL (some .int) none 0 (zk_loc (.ref 0 :: as) nL) [] mu lm (fun r mu1 lm1 => ∃ v : Int32, r = some (.int v) ∧ zk_M 20 RX8 cc' nL' (some .int) none 0 (zk_loc (.ref 46 :: as) nL') [] mu1 lm1 (fun r2 mu2 lm2 => r2 = some (.int v) ∧ zInv mu2 lm2))
def zBoL (cc : ByteArray) (nL : Nat) (cc' : ByteArray) (nL' : Nat) (as : List Value) (mu : Mem) (lm : MemL) : Prop := zk_M 20 RX7 cc nL (some .long) none 0 (zk_loc (.ref 0 :: as) nL) [] mu lm (fun r mu1 lm1 => ∃ v : Int64, r = some (.long v) ∧ zk_M 20 RX8 cc' nL' (some .long) none 0 (zk_loc (.ref 46 :: as) nL') [] mu1 lm1 (fun r2 mu2 lm2 => r2 = some (.long v) ∧ zInv mu2 lm2))
section
variable {cc cc' : ByteArray} {nL nL' d d' : Nat} {as : List Value} {mu mu1 mu2 : Mem} {lm lm1 lm2 : MemL}
theorem zboR {x y : Int32} (hd : d ≤ 20) (hd' : d' ≤ 20) (hc : zk_M d RX7 cc nL (some .int) none 0 (zk_loc (.ref 0 :: as) nL) [] mu lm (zk_R (some (.int x)) mu1 lm1)) (hm : zk_M d' RX8 cc' nL' (some .int) none 0 (zk_loc (.ref 46 :: as) nL') [] mu1 lm1 (zk_R (some (.int y)) mu2 lm2)) (e : y = x) (hi : zInv mu2 lm2) : zBo cc nL cc' nL' as mu lm :=
  zk_post (zk_deep hd hc) (fun r m l h => by
    obtain ⟨rfl, rfl, rfl⟩ := h
    exact ⟨x, rfl, zk_post (zk_deep hd' hm) (fun r m l h => by
      obtain ⟨rfl, rfl, rfl⟩ := h
      exact ⟨by rw [e], hi⟩)⟩)
theorem zboQ {x : Int32} {Q1 : Option Value → Mem → MemL → Prop} (hd : d ≤ 20) (hd' : d' ≤ 20) (hc : zk_M d RX7 cc nL (some .int) none 0 (zk_loc (.ref 0 :: as) nL) [] mu lm Q1) (hm : ∀ r m1 l1, Q1 r m1 l1 → r = some (.int x) ∧ ∃ Q2 : Option Value → Mem → MemL → Prop, zk_M d' RX8 cc' nL' (some .int) none 0 (zk_loc (.ref 46 :: as) nL') [] m1 l1 Q2 ∧ ∀ r2 m2 l2, Q2 r2 m2 l2 → r2 = some (.int x) ∧ zInv m2 l2) : zBo cc nL cc' nL' as mu lm :=
  zk_post (zk_deep hd hc) (fun r m l h => by
    obtain ⟨h1, Q2, h2, h3⟩ := hm r m l h
    exact ⟨x, h1, zk_post (zk_deep hd' h2) h3⟩)
theorem zboL {x y : Int64} (hd : d ≤ 20) (hd' : d' ≤ 20) (hc : zk_M d RX7 cc nL (some .long) none 0 (zk_loc (.ref 0 :: as) nL) [] mu lm (zk_R (some (.long x)) mu1 lm1)) (hm : zk_M d' RX8 cc' nL' (some .long) none 0 (zk_loc (.ref 46 :: as) nL') [] mu1 lm1 (zk_R (some (.long y)) mu2 lm2)) (e : y = x) (hi : zInv mu2 lm2) : zBoL cc nL cc' nL' as mu lm :=
  zk_post (zk_deep hd hc) (fun r m l h => by
    obtain ⟨rfl, rfl, rfl⟩ := h
    exact ⟨x, rfl, zk_post (zk_deep hd' hm) (fun r m l h => by
      obtain ⟨rfl, rfl, rfl⟩ := h
      exact ⟨by rw [e], hi⟩)⟩)
end
end M65
