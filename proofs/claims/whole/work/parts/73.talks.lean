section M73
variable {mu : Mem} {lm : MemL}
/-! ===== talks ===== -/
theorem zF.sm2 {mu mu' : Mem} {C M n : Nat} (h : zF mu C M n) (e : ∀ c, 22 < c → c ≤ 36 → mu' c = mu c) (e2 : ∀ c, 52 < c → c ≠ 56 → mu' c = mu c) (e3 : ∀ k, 15 < k → mu' 46 k = mu 46 k) : zF mu' C M n := by
  have ecS : cS mu' = cS mu := by unfold cS; rw [e 23 (by decide) (by decide), e 26 (by decide) (by decide), e 27 (by decide) (by decide)]
  obtain ⟨h1, h2, h3, h4, h5⟩ := h
  refine ⟨?_, ?_, ?_, ?_, fun k hk => ?_⟩
  · unfold iA at h1 ⊢
    rw [e 23 (by decide) (by decide), e 24 (by decide) (by decide), e 25 (by decide) (by decide), e2 53 (by decide) (by decide), e2 54 (by decide) (by decide), e3 16 (by decide), e3 17 (by decide), e3 18 (by decide)]
    exact h1
  · rw [e 28 (by decide) (by decide), e3 24 (by decide)]; exact h2
  · rw [e2 55 (by decide) (by decide)]; exact h3
  · rw [e2 55 (by decide) (by decide), ecS]; exact h4
  · rw [e2 60 (by decide) (by decide), e (31 + 2 * k) (by omega) (by omega)]; exact h5 k hk
theorem fnd1_cong {P P' : Nat → Bool} : ∀ {m ln : Nat}, (∀ q, q < m → P (ln + q) = P' (ln + q)) → fnd1 P m ln = fnd1 P' m ln
  | 0, _, _ => rfl
  | m + 1, ln, h => by
    have h0 : P ln = P' ln := h 0 (by omega)
    have ih := fnd1_cong (P := P) (P' := P') (m := m) (ln := ln + 1) (fun q hq => by
      have := h (q + 1) (by omega)
      rwa [show ln + (q + 1) = ln + 1 + q by omega] at this)
    show (if P ln then some ln else fnd1 P m (ln + 1)) = (if P' ln then some ln else fnd1 P' m (ln + 1))
    rw [h0, ih]
theorem fnd2_s (P : Nat → Nat → Bool) (M m t : Nat) : fnd2 P M (m + 1) t = (match fnd1 (P t) (M ^ t) 0 with | some ln => some (t, ln) | none => fnd2 P M m (t + 1)) := rfl
theorem fnd2_cong {P P' : Nat → Nat → Bool} {M : Nat} : ∀ {m t : Nat}, (∀ s, s < t + m → ∀ ln, P s ln = P' s ln) → fnd2 P M m t = fnd2 P' M m t
  | 0, _, _ => rfl
  | m + 1, t, h => by
    have e1 : fnd1 (P t) (M ^ t) 0 = fnd1 (P' t) (M ^ t) 0 := fnd1_cong (fun q hq => h t (by omega) _)
    rw [fnd2_s, fnd2_s, e1, fnd2_cong (P := P) (P' := P') (m := m) (t := t + 1) (fun s hs ln => h s (by omega) ln)]
theorem fnd2_lt {P : Nat → Nat → Bool} {M s ln : Nat} : ∀ {m t : Nat}, fnd2 P M m t = some (s, ln) → s < t + m
  | 0, _, h => by cases h
  | m + 1, t, h => by
    rw [fnd2_s] at h
    split at h
    · cases h; omega
    · have := fnd2_lt (m := m) (t := t + 1) h
      omega
theorem tlk_P {C M n V c t W ln : Nat} (F : zF mu C M n) (hM0 : 0 < M) (hc : c < C) (hV : V ≤ 99) (hW : W ≤ 999) (ht : t ≤ 3) : decide (nI W ≤ mu 27 c + lBr (shM mu (nI V) c M) M ln t) = hbP mu M V c (nI W) t ln := by
  have hi : ∀ q, ln / M ^ q % M < M := fun q => Nat.mod_lt _ hM0
  have e1 : lBr (shM mu (nI V) c M) M ln t = nI (nsum t (fun q => shN (mu 24 (ln / M ^ q % M)) (mu 25 (ln / M ^ q % M)) (mu 23 5) V (nI c))) := by
    unfold lBr
    refine zsum_nsum (fun q hq => ?_)
    unfold shM
    rw [zuc_s, if_pos (hi q)]
    exact (shr_n hV).2
  have e2 : lnN mu M V c ln t t = nsum t (fun q => shN (mu 24 (ln / M ^ q % M)) (mu 25 (ln / M ^ q % M)) (mu 23 5) V (nI c)) := by
    unfold lnN
    refine Eq.trans (nsum_cong (fun q hq => ?_)) (nsum_rev (f := fun q => shN (mu 24 (ln / M ^ q % M)) (mu 25 (ln / M ^ q % M)) (mu 23 5) V (nI c)) t)
    rw [F.kd (hi _), F.se (hi _), F.c5]
  have hS : nsum t (fun q => shN (mu 24 (ln / M ^ q % M)) (mu 25 (ln / M ^ q % M)) (mu 23 5) V (nI c)) ≤ 99 * t := nsum_le (fun _ => (shr_n hV).1) t
  have hX := F.nA hc
  generalize nsum t (fun q => shN (mu 24 (ln / M ^ q % M)) (mu 25 (ln / M ^ q % M)) (mu 23 5) V (nI c)) = S at e1 e2 hS
  generalize nA mu c = X at hX
  unfold hbP
  rw [e1, e2, F.air hc, hX.1, nI_clamp (by omega), nI_add, decide_eq_decide, nIle (by omega) (by omega), nIle (by omega) (by omega)]
  omega
theorem hbP_eq {mu1 : Mem} {M V c : Nat} {w : Int32} (h3 : mu1 53 = mu 53) (h4 : mu1 54 = mu 54) (h5 : mu1 55 = mu 55) (h6 : mu1 46 = mu 46) : hbP mu1 M V c w = hbP mu M V c w := by
  funext t ln
  unfold hbP lnN
  rw [h3, h4, h5, h6]
theorem bo_talks (h : zInv mu lm) (v c w r : Int32) : zBo cX7_talks 9 cX8_talks 10 [.int v, .int c, .int w, .int r] mu lm := by
  obtain ⟨C, M, n, F⟩ := h.fa
  by_cases hb : (0 ≤ r ∧ r < 6) ∧ (0 ≤ v ∧ v ≤ 99) ∧ (0 ≤ c ∧ c < mu 23 5) ∧ (0 ≤ w ∧ w ≤ 999)
  · obtain ⟨hr, hv, hc, hw⟩ := hb
    obtain ⟨k, hk, rfl⟩ := zget hr (M := 6) rfl (by decide)
    obtain ⟨V, hV, rfl⟩ := zgetl (M := 99) hv (by decide)
    obtain ⟨q, hq, rfl⟩ := zget hc F.C F.Cs
    obtain ⟨W, hW, rfl⟩ := zgetl (M := 999) hw (by decide)
    have hM0 : 0 < M := Nat.pos_of_ne_zero (fun z => by have := F.C0 z; omega)
    have hC3 := F.C3 hM0
    have hX := sp_X7_talks (d := 0) (mu := mu) (lm := lm) F.C F.C8 F.M F.M6 hM0 hk hq hv hw
    have eP : fnd2 (fun t ln => decide (nI W ≤ mu 27 q + lBr (shM mu (nI V) q M) M ln t)) M 4 0 = fnd2 (hbP mu M V q (nI W)) M 4 0 := fnd2_cong (fun s hs ln => tlk_P F hM0 hq hV hW (by omega))
    rw [eP] at hX
    have E1 : ∀ c', c' ≠ 43 → shM mu (nI V) q M c' = mu c' := fun c' z => shM_c _ _ _ _ z
    have h1 : zInv (shM mu (nI V) q M) lm := h.told (zSm.u43 _) (h.st.fr (E1 0 (by decide)) (E1 45 (by decide)) (E1 51 (by decide)) (fun k _ => by rw [E1 46 (by decide)]))
    cases eo : fnd2 (hbP mu M V q (nI W)) M 4 0 with
    | none =>
      rw [eo] at hX
      have F1 := F.sm2 (mu' := shM mu (nI V) q M) (fun c' a b => E1 c' (by omega)) (fun c' a b => E1 c' (by omega)) (fun k _ => by rw [E1 46 (by decide)])
      have hm := sp_X8_talks (d := 0) (mu := shM mu (nI V) q M) (lm := lm) F1.C' F1.C8 F1.M' F1.M6 F1.A F1.L' hC3 hM0 F1.S' hk hV hq hw
      rw [hbP_eq (mu := mu) (E1 53 (by decide)) (E1 54 (by decide)) (E1 55 (by decide)) (E1 46 (by decide)), eo] at hm
      refine zboK (by decide) (by decide) hX hm (fun r2 m2 l2 z => ?_)
      obtain ⟨rfl, rfl, z2⟩ := z
      exact ⟨rfl, h1.s56 z2⟩
    | some x =>
      obtain ⟨t, ln⟩ := x
      have ht : t < 4 := by have := fnd2_lt eo; omega
      rw [eo] at hX
      have E2 : ∀ c', c' ≠ 43 → c' ≠ 2 + 2 * k → c' ≠ 3 + 2 * k → wlM (shM mu (nI V) q M) (2 + 2 * k) (3 + 2 * k) M ln t 0 c' = mu c' := fun c' z z2 z3 => by
        unfold wlM
        rw [zuc_c _ _ z3, zup_cf _ _ z2, E1 c' z]
      have a1 : wlM (shM mu (nI V) q M) (2 + 2 * k) (3 + 2 * k) M ln t 0 (2 + 2 * k) 1 = nI t := by
        unfold wlM
        rw [zuc_c _ _ (by omega), zup_s]
      have a2 : ∀ j, j < t → wlM (shM mu (nI V) q M) (2 + 2 * k) (3 + 2 * k) M ln t 0 (3 + 2 * k) j = nI (ln / M ^ (t - 1 - j) % M) := fun j hj => by
        unfold wlM
        rw [zuc_s, if_neg (by omega), if_pos hj]
      have F1 := F.sm2 (mu' := wlM (shM mu (nI V) q M) (2 + 2 * k) (3 + 2 * k) M ln t 0) (fun c' a b => E2 c' (by omega) (by omega) (by omega)) (fun c' a b => E2 c' (by omega) (by omega) (by omega)) (fun _ _ => by rw [E2 46 (by omega) (by omega) (by omega)])
      have hm := sp_X8_talks (d := 0) (mu := wlM (shM mu (nI V) q M) (2 + 2 * k) (3 + 2 * k) M ln t 0) (lm := lm) F1.C' F1.C8 F1.M' F1.M6 F1.A F1.L' hC3 hM0 F1.S' hk hV hq hw
      rw [hbP_eq (mu := mu) (E2 53 (by omega) (by omega) (by omega)) (E2 54 (by omega) (by omega) (by omega)) (E2 55 (by omega) (by omega) (by omega)) (E2 46 (by omega) (by omega) (by omega)), eo] at hm
      refine zboK (by decide) (by decide) hX hm (fun r2 m2 l2 z => ?_)
      obtain ⟨rfl, rfl, z2⟩ := z
      refine ⟨rfl, zInv.s56 ?_ z2⟩
      generalize wlM (shM mu (nI V) q M) (2 + 2 * k) (3 + 2 * k) M ln t 0 = mu1 at E2 a1 a2
      have E3 : ∀ c', c' ≠ 43 → c' ≠ 2 + 2 * k → c' ≠ 3 + 2 * k → c' ≠ 47 → c' ≠ 48 → mwl mu1 k M ln t 0 c' = mu c' := fun c' y1 y2 y3 y4 y5 => by rw [mwl_c _ y4 y5, E2 c' y1 y2 y3]
      have b1 : ∀ j, j ≠ k → mwl mu1 k M ln t 0 47 j = mu 47 j := fun j hj => by
        unfold mwl
        rw [zuc_c _ _ (by decide), zup_k _ _ _ hj, E2 47 (by omega) (by omega) (by omega)]
      have b2 : mwl mu1 k M ln t 0 47 k = nI t := by
        unfold mwl
        rw [zuc_c _ _ (by decide), zup_s]
      have b3 : mwl mu1 k M ln t 0 (2 + 2 * k) 1 = nI t := by rw [mwl_c _ (by omega) (by omega), a1]
      refine h.mk2 (fun c' a b => E3 c' (by omega) (by omega) (by omega) (by omega) (by omega)) (fun c' a b => E3 c' (by omega) (by omega) (by omega) (by omega) (by omega)) (fun _ _ => by rw [E3 46 (by omega) (by omega) (by omega) (by omega) (by omega)]) (iRow.up (k := k) h.rs (by decide) (fun j hj e => ⟨b1 j e, ?_, fun p hp => ?_, fun p hp => ?_⟩) ⟨?_, ?_, fun p hp => ?_⟩) (h.ts.fr (fun c' a b => E3 c' (by omega) (by omega) (by omega) (by omega) (by omega)) (E3 49 (by omega) (by omega) (by omega) (by omega) (by omega)) (E3 50 (by omega) (by omega) (by omega) (by omega) (by omega))) (h.st.fr (E3 0 (by omega) (by omega) (by omega) (by omega) (by omega)) (E3 45 (by omega) (by omega) (by omega) (by omega) (by omega)) (E3 51 (by omega) (by omega) (by omega) (by omega) (by omega)) (fun _ _ => by rw [E3 46 (by omega) (by omega) (by omega) (by omega) (by omega)]))
      · rw [E3 (2 + 2 * j) (by omega) (by omega) (by omega) (by omega) (by omega)]
      · unfold mwl
        rw [zuc_s, if_neg (by omega), E2 48 (by omega) (by omega) (by omega)]
      · rw [E3 (3 + 2 * j) (by omega) (by omega) (by omega) (by omega) (by omega)]
      · rw [b2, b3]
      · rw [b3]; exact Or.inr ⟨t, by omega, rfl⟩
      · rw [b3, nI_clamp (by omega)] at hp
        rw [mwl_c (c := 3 + 2 * k) _ (by omega) (by omega), a2 p hp]
        unfold mwl
        rw [zuc_s, if_pos (by omega), show 40 * k + p - 40 * k = p by omega]
  · refine zboR (by decide) (by decide) (sp_X7_talks_n (d := 0) hb) (sp_X8_talks_n (d := 0) F.C' F.C8 F.M' F.M6 v c w r (fun z => hb ?_)) rfl h
    obtain ⟨z1, z2, z3, z4⟩ := z
    rw [F.c5] at z2
    refine ⟨⟨z4.1, ?_⟩, z1, z2, z3⟩
    have := z4.2
    simp only [zle, zlt] at *
    have e5 : (5 : Int32).toInt = 5 := by decide
    have e6 : (6 : Int32).toInt = 6 := by decide
    omega
end M73
