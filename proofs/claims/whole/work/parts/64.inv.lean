section M64
/-! ===== the two pictures held against each other ===== -/
theorem zup_cf {α : Type} (mu : Nat → Nat → α) {c k c' : Nat} (v : α) (h : c' ≠ c) : zk_up mu c k v c' = mu c' := by funext q; exact zup_c mu v q h
/-- the class's evening in the order of the model's 17 numbers -/
def cS (mu : Mem) : Nat → Int32 := fun q => if q < 8 then mu 27 q else if q = 8 then mu 23 7 else if q = 9 then mu 23 8 else if q = 10 then mu 23 9 else mu 26 (q - 11)
theorem cS_a {mu : Mem} {q : Nat} (h : q < 8) : cS mu q = mu 27 q := if_pos h
theorem cS_8 {mu : Mem} : cS mu 8 = mu 23 7 := rfl
theorem cS_9 {mu : Mem} : cS mu 9 = mu 23 8 := rfl
theorem cS_10 {mu : Mem} : cS mu 10 = mu 23 9 := rfl
theorem cS_t {mu : Mem} {j : Nat} : cS mu (11 + j) = mu 26 j := by
  unfold cS
  rw [if_neg (by omega), if_neg (by omega), if_neg (by omega), if_neg (by omega), show 11 + j - 11 = j by omega]
/-- a deed's step -/
def stp (kd st : Nat → Int32) (lk : Int32) (C : Nat) (D : Nat × Nat × Nat) (s : Nat → Int32) : Nat → Int32 :=
  if D.1 = 0 then (fun q => if q < C then zmin 999 (s q + shr (kd D.2.1) (st D.2.1) (nI C) (nI D.2.2) (nI q)) else if q = 10 then s 10 + kSay (kd D.2.1) (nI D.2.2) else if q = 11 + D.2.1 then s (11 + D.2.1) + 1 else s q)
  else if D.1 = 1 then (fun q => if q < C then zmax 0 (s q - lk * 1) else if q = 8 then s 8 + 1 else s q)
  else if D.1 = 2 then (fun q => if q = D.2.1 then 0 else s q)
  else (fun q => if q < C then 0 else if q = 9 then s 9 + zsum C s else s q)
def rn (kd st : Nat → Int32) (lk : Int32) (C : Nat) (D : Nat → Nat × Nat × Nat) : Nat → Nat → Int32
  | 0 => fun _ => 0
  | k + 1 => stp kd st lk C (D k) (rn kd st lk C D k)
def sEq (f g : Nat → Int32) : Prop := ∀ q, q < 17 → f q = g q
theorem sEq.tr {f g h : Nat → Int32} (a : sEq f g) (b : sEq g h) : sEq f h := fun q hq => (a q hq).trans (b q hq)
theorem sEq.sy {f g : Nat → Int32} (a : sEq f g) : sEq g f := fun q hq => (a q hq).symm
theorem sEq.rf {f : Nat → Int32} : sEq f f := fun _ _ => rfl
theorem sEq_mk {f g : Nat → Int32} (h1 : ∀ q, q < 8 → f q = g q) (h2 : f 8 = g 8) (h3 : f 9 = g 9) (h4 : f 10 = g 10) (h5 : ∀ j, j < 6 → f (11 + j) = g (11 + j)) : sEq f g := by
  intro q hq
  by_cases a : q < 8
  · exact h1 q a
  by_cases b : q = 8
  · rw [b]; exact h2
  by_cases c : q = 9
  · rw [c]; exact h3
  by_cases d : q = 10
  · rw [d]; exact h4
  have := h5 (q - 11) (by omega)
  rwa [show 11 + (q - 11) = q by omega] at this
theorem stp_cong {kd st kd' st' : Nat → Int32} {lk : Int32} {C : Nat} {D : Nat × Nat × Nat} {s t : Nat → Int32} (hC : C ≤ 8) (hd : D.1 = 0 → D.2.1 < 6 ∧ kd D.2.1 = kd' D.2.1 ∧ st D.2.1 = st' D.2.1) (h : sEq s t) : sEq (stp kd st lk C D s) (stp kd' st' lk C D t) := by
  intro q hq
  unfold stp
  by_cases h0 : D.1 = 0
  · simp only [if_pos h0]
    obtain ⟨a, b, c⟩ := hd h0
    rw [b, c, h q hq, h 10 (by decide), h (11 + D.2.1) (by omega)]
  · simp only [if_neg h0]
    by_cases h1 : D.1 = 1
    · simp only [if_pos h1]
      rw [h q hq, h 8 (by decide)]
    · simp only [if_neg h1]
      by_cases h2 : D.1 = 2
      · simp only [if_pos h2]
        rw [h q hq]
      · simp only [if_neg h2]
        rw [h q hq, h 9 (by decide), zsum_cong (fun k hk => h k (by omega))]
theorem rn_cong {kd st : Nat → Int32} {lk : Int32} {C : Nat} {D D' : Nat → Nat × Nat × Nat} : ∀ {n : Nat}, (∀ k, k < n → D k = D' k) → rn kd st lk C D n = rn kd st lk C D' n
  | 0, _ => rfl
  | n + 1, h => by
    rw [rn, rn, h n (by omega), rn_cong (fun k hk => h k (by omega))]
/-- the class's step -/
theorem cS_en {mu : Mem} {C w o v : Nat} (hC : mu 23 5 = nI C) (hC8 : C ≤ 8) (ho : w = 0 → o < 6) (ho2 : w = 2 → o < C) : sEq (cS (enM mu C w o (nI v))) (stp (mu 24) (mu 25) (mu 23 4) C (w, o, v) (cS mu)) := by
  unfold enM stp
  by_cases h0 : w = 0
  · simp only [if_pos h0]
    have ho' := ho h0
    unfold talkM
    refine sEq_mk (fun q hq => ?_) ?_ ?_ ?_ (fun j hj => ?_)
    · rw [cS_a hq, cS_a hq, zup_cf _ _ (by decide), zup_cf _ _ (by decide)]
      unfold brth
      rw [zuc_s, hC]
      by_cases hc : q < C
      · simp only [if_pos hc]
      · rw [if_neg hc, if_neg hc, if_neg (by omega), if_neg (by omega)]
    · rw [cS_8, cS_8, zup_k _ _ _ (by decide), zup_c _ _ _ (by decide), brth_c _ _ _ _ (by decide)]
      rw [if_neg (by omega), if_neg (by omega), if_neg (by omega)]
    · rw [cS_9, cS_9, zup_k _ _ _ (by decide), zup_c _ _ _ (by decide), brth_c _ _ _ _ (by decide)]
      rw [if_neg (by omega), if_neg (by omega), if_neg (by omega)]
    · rw [cS_10, zup_s, if_neg (by omega), if_pos rfl, cS_10]
    · rw [cS_t, if_neg (by omega), if_neg (by omega), zup_c _ _ _ (by decide)]
      by_cases e : j = o
      · subst e
        rw [if_pos rfl, zup_s, cS_t]
      · rw [if_neg (by omega), zup_k _ _ _ e, brth_c _ _ _ _ (by decide), cS_t]
  · simp only [if_neg h0]
    by_cases h1 : w = 1
    · simp only [if_pos h1]
      unfold hourM
      refine sEq_mk (fun q hq => ?_) ?_ ?_ ?_ (fun j hj => ?_)
      · rw [cS_a hq, cS_a hq, zup_cf _ _ (by decide)]
        unfold hourA
        rw [zuc_s]
        by_cases hc : q < C
        · simp only [if_pos hc]
        · rw [if_neg hc, if_neg hc, if_neg (by omega)]
      · rw [cS_8, zup_s, if_neg (by omega), if_pos rfl, cS_8]
      · rw [cS_9, cS_9, zup_k _ _ _ (by decide), hourA_c _ _ (by decide), if_neg (by omega), if_neg (by omega)]
      · rw [cS_10, cS_10, zup_k _ _ _ (by decide), hourA_c _ _ (by decide), if_neg (by omega), if_neg (by omega)]
      · rw [cS_t, cS_t, zup_c _ _ _ (by decide), hourA_c _ _ (by decide), if_neg (by omega), if_neg (by omega)]
    · simp only [if_neg h1]
      by_cases h2 : w = 2
      · simp only [if_pos h2]
        have ho' := ho2 h2
        refine sEq_mk (fun q hq => ?_) ?_ ?_ ?_ (fun j hj => ?_)
        · rw [cS_a hq, cS_a hq]
          by_cases e : q = o
          · subst e; rw [if_pos rfl, zup_s]
          · rw [if_neg e, zup_k _ _ _ e]
        · rw [if_neg (by omega), cS_8, cS_8, zup_c _ _ _ (by decide)]
        · rw [if_neg (by omega), cS_9, cS_9, zup_c _ _ _ (by decide)]
        · rw [if_neg (by omega), cS_10, cS_10, zup_c _ _ _ (by decide)]
        · rw [if_neg (by omega), cS_t, cS_t, zup_c _ _ _ (by decide)]
      · simp only [if_neg h2]
        unfold thunM
        refine sEq_mk (fun q hq => ?_) ?_ ?_ ?_ (fun j hj => ?_)
        · rw [cS_a hq, cS_a hq]
          unfold zfill
          rw [zuc_s]
          by_cases hc : q < C
          · simp only [if_pos hc]
          · rw [if_neg hc, if_neg hc, if_neg (by omega), zup_c _ _ _ (by decide)]
        · rw [cS_8, cS_8, zfill_c _ _ _ _ (by decide), zup_k _ _ _ (by decide), if_neg (by omega), if_neg (by omega)]
        · rw [cS_9, zfill_c _ _ _ _ (by decide), zup_s, if_neg (by omega), if_pos rfl, cS_9, zsum_cong (fun k hk => cS_a (mu := mu) (show k < 8 by omega))]
        · rw [cS_10, cS_10, zfill_c _ _ _ _ (by decide), zup_k _ _ _ (by decide), if_neg (by omega), if_neg (by omega)]
        · rw [cS_t, cS_t, zfill_c _ _ _ _ (by decide), zup_c _ _ _ (by decide), if_neg (by omega), if_neg (by omega)]
/-- the model's step -/
theorem mS_en {m : Mem} {kd st : Nat → Int32} {C w o v : Nat} (hC : m 46 17 = nI C) (hC8 : C ≤ 8) (ho : w = 0 → o < 6 ∧ m 53 o = kd o ∧ m 54 o = st o) (ho2 : w = 2 → o < C) : sEq (enD m C w o (nI v) 55) (stp kd st (m 46 16) C (w, o, v) (m 55)) := by
  intro q hq
  unfold enD stp
  by_cases h0 : w = 0
  · simp only [if_pos h0]
    obtain ⟨a, b, c⟩ := ho h0
    unfold tkS
    rw [zuc_s, hC, b, c]
  · simp only [if_neg h0]
    by_cases h1 : w = 1
    · simp only [if_pos h1]
      unfold hrS hrA hrV
      by_cases e : q = 8
      · subst e
        rw [zup_s, if_neg (by omega), if_pos rfl]
      · rw [zup_k _ _ _ e, zuc_s, if_neg e]
    · simp only [if_neg h1]
      by_cases h2 : w = 2
      · simp only [if_pos h2]
        by_cases e : q = o
        · subst e; rw [if_pos rfl, zup_s]
        · rw [if_neg e, zup_k _ _ _ e]
      · simp only [if_neg h2]
        unfold thS zfill
        rw [zuc_s]
        by_cases hc : q < C
        · simp only [if_pos hc]
        · rw [if_neg hc, if_neg hc]
          by_cases e : q = 9
          · subst e; rw [if_pos rfl, zup_s]
          · rw [if_neg e, zup_k _ _ _ e]
theorem zin_n {x : Int32} {b : Nat} (hb : b < 2147483647) (h : 0 ≤ x ∧ x ≤ nI b) : ∃ X, X ≤ b ∧ x = nI X := zgetl h hb
theorem nI0 : (0 : Int32) = nI 0 := rfl
theorem nI_in9 {X b : Nat} (h : X ≤ b) (hb : b < 2147483648) : 0 ≤ nI X ∧ nI X ≤ nI b := ⟨by rw [nI0, nIle (by omega) (by omega)]; omega, by rw [nIle (by omega) (by omega)]; exact h⟩
theorem stp_ok {kd st : Nat → Int32} {lk : Int32} {C : Nat} {D : Nat × Nat × Nat} {s : Nat → Int32} (hC : C ≤ 8) (hl : 0 ≤ lk ∧ lk ≤ 9) (hv : D.2.2 < 100) (h : ∀ q, q < C → 0 ≤ s q ∧ s q ≤ 999) : ∀ q, q < C → 0 ≤ stp kd st lk C D s q ∧ stp kd st lk C D s q ≤ 999 := by
  intro q hq
  obtain ⟨X, hX, eX⟩ := zin_n (b := 999) (by decide) (h q hq)
  obtain ⟨L, hL, eL⟩ := zin_n (b := 9) (by decide) hl
  unfold stp
  by_cases h0 : D.1 = 0
  · simp only [if_pos h0, if_pos hq]
    obtain ⟨S, hS, eS⟩ := shr_ex (kind := kd D.2.1) (seat := st D.2.1) (cells := nI C) (c := nI q) (show D.2.2 ≤ 99 by omega)
    rw [eX, eS, nI_add]
    exact ⟨zmin_0 (nI_in9 (Nat.le_refl _) (by omega)).1, zmin_999 _⟩
  · simp only [if_neg h0]
    by_cases h1 : D.1 = 1
    · simp only [if_pos h1, if_pos hq]
      rw [eX, eL, show (1 : Int32) = nI 1 from rfl, hm_n hX hL (by decide)]
      exact nI_in9 (b := 999) (by omega) (by decide)
    · simp only [if_neg h1]
      by_cases h2 : D.1 = 2
      · simp only [if_pos h2]
        by_cases e : q = D.2.1
        · rw [if_pos e]; decide
        · rw [if_neg e]; exact h q hq
      · simp only [if_neg h2, if_pos hq]
        decide
theorem rn_ok {kd st : Nat → Int32} {lk : Int32} {C : Nat} {D : Nat → Nat × Nat × Nat} (hC : C ≤ 8) (hl : 0 ≤ lk ∧ lk ≤ 9) : ∀ {n : Nat}, (∀ k, k < n → (D k).2.2 < 100) → ∀ q, q < C → 0 ≤ rn kd st lk C D n q ∧ rn kd st lk C D n q ≤ 999
  | 0, _ => fun q _ => show (0 : Int32) ≤ 0 ∧ (0 : Int32) ≤ 999 from by decide
  | n + 1, h => fun q hq => by
    rw [rn]
    exact stp_ok hC hl (h n (by omega)) (rn_ok hC hl (fun k hk => h k (by omega))) q hq
end M64
