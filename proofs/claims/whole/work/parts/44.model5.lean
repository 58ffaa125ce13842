section M44
variable {d : Nat} {mu : Mem} {lm : MemL}
theorem skp_le {f : Nat → Int32} {n : Nat} : ∀ m p, n - p ≤ m → p ≤ n → p ≤ skp f n p ∧ skp f n p ≤ n := by
  intro m
  induction m with
  | zero =>
    intro p h1 h2
    rw [skp_s, lt_hi (by omega), if_neg (by decide)]
    exact ⟨Nat.le_refl _, h2⟩
  | succ m ih =>
    intro p h1 h2
    rw [skp_s]
    by_cases q : lt f n p = 32
    · rw [if_pos q]
      have hp : p < n := by
        rcases Nat.lt_or_ge p n with g | g
        · exact g
        · rw [lt_hi g] at q; exact absurd q (by decide)
      have := ih (p + 1) (by omega) (by omega)
      exact ⟨by omega, this.2⟩
    · rw [if_neg q]; exact ⟨Nat.le_refl _, h2⟩
theorem fig_lt {f : Nat → Int32} {n p : Nat} {a b : Int32} (ha : 0 ≤ a) (h : a ≤ lt f n p - 48 ∧ lt f n p - 48 ≤ b) : p < n := by
  rcases Nat.lt_or_ge p n with g | g
  · exact g
  · rw [lt_hi g] at h
    have h1 : (0 : Int32) ≤ -1000 - 48 := by have := h.1; simp only [zle] at *; omega
    exact absurd h1 (by decide)
/-- the members' items from p on -/
def mmV (f : Nat → Int32) (n : Nat) (cells : Int32) : Nat → Nat → Nat → Int32
  | 0, _, mm => if mm = 0 then nI n else -9
  | m + 1, p, mm => if p < n then (if 0 ≤ sbv (lt f n p) ∧ mm ≠ 6 then (if 0 ≤ lt f n (p + 1) - 48 ∧ lt f n (p + 1) - 48 ≤ cells - 1 then mmV f n cells m (skp f n (p + 2)) (mm + 1) else nI (p + 1)) else nI p) else (if mm = 0 then nI n else -9)
def mmD (f : Nat → Int32) (n : Nat) : Nat → Nat → List (Int32 × Int32)
  | 0, _ => []
  | m + 1, p => if p < n then (sbv (lt f n p), lt f n (p + 1) - 48) :: mmD f n m (skp f n (p + 2)) else []
def rdV (f : Nat → Int32) (n : Nat) : Int32 := if lt f n (skp f n 0) = 112 then (if 0 ≤ lt f n (skp f n 0 + 1) - 48 ∧ lt f n (skp f n 0 + 1) - 48 ≤ 9 then (if 3 ≤ lt f n (skp f n 0 + 2) - 48 ∧ lt f n (skp f n 0 + 2) - 48 ≤ 8 then mmV f n (lt f n (skp f n 0 + 2) - 48) (n + 1) (skp f n (skp f n 0 + 3)) 0 else nI (skp f n 0 + 2)) else nI (skp f n 0 + 1)) else nI (skp f n 0)
def rdD (f : Nat → Int32) (n : Nat) : List (Int32 × Int32) := mmD f n (n + 1) (skp f n (skp f n 0 + 3))
/-- what the reader leaves as it was -/
def rdK (mu m : Mem) : Prop := (∀ c, c ≠ 46 → c ≠ 52 → m c = mu c) ∧ ∀ k, k < 9 ∨ 14 < k → m 46 k = mu 46 k
theorem rdK.rf {mu : Mem} : rdK mu mu := ⟨fun _ _ _ => rfl, fun _ _ => rfl⟩
theorem rdK.up {mu m : Mem} (h : rdK mu m) {k : Nat} (v : Int32) (hk : 9 ≤ k ∧ k ≤ 14) : rdK mu (zk_up m 46 k v) := ⟨fun c h1 h2 => by funext q; rw [zup_c _ _ _ h1, h.1 c h1 h2], fun k' hk' => by rw [zup_k _ _ _ (by omega)]; exact h.2 k' hk'⟩
theorem rdK.up2 {mu m : Mem} (h : rdK mu m) (k : Nat) (v : Int32) : rdK mu (zk_up m 52 k v) := ⟨fun c h1 h2 => by funext q; rw [zup_c _ _ _ h2, h.1 c h1 h2], fun k' hk' => by rw [zup_c _ _ _ (by decide)]; exact h.2 k' hk'⟩
theorem nI_ne9 {n : Nat} (h : n < 1000) : ¬ nI n = -9 := fun q => absurd (show nI n < 0 by rw [q]; decide) (nI_pos (by omega))
/-- what is known behind the members' items -/
def mmQ (mu nu : Mem) (lm : MemL) (f : Nat → Int32) (n m p mm : Nat) (cells : Int32) : Option Value → Mem → MemL → Prop := fun r m' l => l = lm ∧ r = some (.int (mmV f n cells m p mm)) ∧ rdK mu m' ∧ (mmV f n cells m p mm = -9 → m' 46 12 = nu 46 12 ∧ m' 46 13 = cells ∧ m' 46 14 = nI (mm + (mmD f n m p).length) ∧ (∀ j, j < 2 * mm → m' 52 j = nu 52 j) ∧ ∀ j x, (mmD f n m p)[j]? = some x → m' 52 (2 * (mm + j)) = x.1 ∧ m' 52 (2 * (mm + j) + 1) = x.2)
def rdQ (mu : Mem) (lm : MemL) (f : Nat → Int32) (n : Nat) : Option Value → Mem → MemL → Prop := fun r m' l => l = lm ∧ r = some (.int (rdV f n)) ∧ rdK mu m' ∧ (rdV f n = -9 → m' 46 12 = lt f n (skp f n 0 + 1) - 48 ∧ m' 46 13 = lt f n (skp f n 0 + 2) - 48 ∧ m' 46 14 = nI (rdD f n).length ∧ ∀ j x, (rdD f n)[j]? = some x → m' 52 (2 * j) = x.1 ∧ m' 52 (2 * j + 1) = x.2)
theorem sp_mm {t n : Nat} (f : Nat → Int32) (cells : Int32) (mu : Mem) : ∀ (m p mm : Nat) (nu : Mem), n + 1 - p ≤ m → p ≤ n → rdAt nu t n p → txF nu t = f → nu 46 13 = cells → nu 46 14 = nI mm → mm ≤ 6 → rdK mu nu → zk_M (d + 3) RX8 cX8_read 2 (some .int) none 48 [.ref 46, .int (nI t)] [] nu lm (mmQ mu nu lm f n m p mm cells) := by
  intro m
  induction m with
  | zero => intro p mm nu h1 h2; omega
  | succ m ih =>
    intro p mm nu hmp hpn h hf hcl hm hm6 hK
    have hn60 := h.2.2.2.2.1
    refine zk_aload_n (pc := 48) 0 dX8_read_48 rfl rfl ?_
    refine zk_getI (pc := 49) dX8_read_49 flX8_93 rfl rfl ?_
    refine zk_aload_n (pc := 52) 0 dX8_read_52 rfl rfl ?_
    refine zk_getI (pc := 53) dX8_read_53 flX8_87 rfl rfl ?_
    refine zk_icmp_ge (pc := 56) 78 dX8_read_56 (by decide) (fun h56 => ?_) (fun h56 => ?_)
    · rw [h.1, h.2.2.1, nIle (by omega) (by omega)] at h56
      have hV : mmV f n cells (m + 1) p mm = if mm = 0 then nI n else -9 := by show (if p < n then _ else _) = _; rw [if_neg (by omega)]
      have hD : mmD f n (m + 1) p = [] := by show (if p < n then _ else _) = _; rw [if_neg (by omega)]
      refine zk_aload_n (pc := 78) 0 dX8_read_78 rfl rfl ?_
      refine zk_getI (pc := 79) dX8_read_79 flX8_111 rfl rfl ?_
      refine zk_if_ne (pc := 82) 92 dX8_read_82 (by decide) (fun h82 => ?_) (fun h82 => ?_)
      · rw [hm] at h82
        have hmm : ¬ mm = 0 := fun q => h82 (by rw [q]; rfl)
        refine zk_bipush (pc := 92) (v := -9) dX8_read_92 (by decide) ?_
        first
          | (refine zk_ireturn (pc := 94) dX8_read_94 (Or.inl rfl) ⟨rfl, ?_, hK, ?_⟩
             · rw [hV, if_neg hmm]
             · intro _
               rw [hD]
               exact ⟨rfl, hcl, hm, fun _ _ => rfl, fun j x hx => by simp at hx⟩)
          | (refine zk_ireturn (pc := 94) dX8_read_94 (Or.inl rfl) ⟨rfl, ?_, hK, ?_⟩
             · rw [hV, if_pos h82, h.2.2.1]
             · intro q
               rw [hV, if_pos h82] at q
               exact absurd q (nI_ne9 (by have := h.2.2.2.2.1; omega)))
      · rw [hm, show (0 : Int32) = nI 0 from rfl, nIeq (by omega) (by omega)] at h82
        refine zk_aload_n (pc := 85) 0 dX8_read_85 rfl rfl ?_
        refine zk_getI (pc := 86) dX8_read_86 flX8_87 rfl rfl ?_
        refine zk_goto (pc := 89) 94 dX8_read_89 (by decide) ?_
        first
          | (refine zk_ireturn (pc := 94) dX8_read_94 (Or.inl rfl) ⟨rfl, ?_, hK, ?_⟩
             · rw [hV, if_neg hmm]
             · intro _
               rw [hD]
               exact ⟨rfl, hcl, hm, fun _ _ => rfl, fun j x hx => by simp at hx⟩)
          | (refine zk_ireturn (pc := 94) dX8_read_94 (Or.inl rfl) ⟨rfl, ?_, hK, ?_⟩
             · rw [hV, if_pos h82, h.2.2.1]
             · intro q
               rw [hV, if_pos h82] at q
               exact absurd q (nI_ne9 (by have := h.2.2.2.2.1; omega)))
    · rw [h.1, h.2.2.1, nIle (by omega) (by omega)] at h56
      have hp : p < n := by omega
      refine zk_aload_n (pc := 59) 0 dX8_read_59 rfl rfl ?_
      have hM0 := sp_X8_isMemberItem (d := d) (lm := lm) h hp hm hm6
      by_cases a1 : 0 ≤ sbv (lt (txF nu t) n p) ∧ mm ≠ 6
      · by_cases a2 : 0 ≤ lt (txF nu t) n (p + 1) - 48 ∧ lt (txF nu t) n (p + 1) - 48 ≤ nu 46 13 - 1
        · have he : memM nu t n p mm (nu 46 13) = (1, zk_up (zk_up (zk_up (zk_up nu 46 9 (nI (p + 2))) 52 (2 * mm) (sbv (lt (txF nu t) n p))) 52 (2 * mm + 1) (lt (txF nu t) n (p + 1) - 48)) 46 14 (nI (mm + 1))) := by unfold memM; rw [if_pos a1, if_pos a2]
          rw [he] at hM0
          dsimp only at hM0
          have hp1 := fig_lt (by decide) a2
          refine zk_callVI (pc := 60) dX8_read_60 mtX8_isMemberItem lkX8_121 stX8_isMemberItem (by rfl) (by rfl) [] _ rfl rfl (Nat.le_of_ble_eq_true rfl) (Nat.le_of_ble_eq_true rfl) hM0 ?_
          refine zk_if_ne (pc := 63) 71 dX8_read_63 (by decide) (fun h63 => ?_) (fun h63 => absurd h63 (by decide))
          generalize hnu1 : zk_up (zk_up (zk_up (zk_up nu 46 9 (nI (p + 2))) 52 (2 * mm) (sbv (lt (txF nu t) n p))) 52 (2 * mm + 1) (lt (txF nu t) n (p + 1) - 48)) 46 14 (nI (mm + 1)) = nu1
          have r1 : rdAt nu1 t n (p + 2) := by
            rw [← hnu1]
            refine rdAt_k ?_ (by decide) (by decide) (by decide)
            have r0 := rdAt_up h (p' := p + 2) (by omega)
            exact ⟨by rw [zup_c _ _ _ (by decide), zup_c _ _ _ (by decide)]; exact r0.1, by rw [zup_c _ _ _ (by decide), zup_c _ _ _ (by decide)]; exact r0.2.1, by rw [zup_c _ _ _ (by decide), zup_c _ _ _ (by decide)]; exact r0.2.2.1, r0.2.2.2.1, r0.2.2.2.2.1, r0.2.2.2.2.2⟩
          have tx1 : txF nu1 t = f := by
            rw [← hf, ← hnu1]; funext q; unfold txF
            rw [zup_c _ _ _ (by decide), zup_c _ _ _ (by decide), zup_c _ _ _ (by decide), zup_c _ _ _ (by decide)]
          have hsk := skp_le (f := f) (n := n) (n - (p + 2)) (p + 2) (Nat.le_refl _) (by omega)
          refine zk_aload_n (pc := 71) 0 dX8_read_71 rfl rfl ?_
          have hS := sp_X8_skip (d := d + 1) (lm := lm) r1
          rw [tx1] at hS
          refine zk_callVV (pc := 72) dX8_read_72 mtX8_skip lkX8_114 stX8_skip (by rfl) (by rfl) [] _ rfl rfl (Nat.le_of_ble_eq_true rfl) (Nat.le_of_ble_eq_true rfl) hS ?_
          refine zk_goto (pc := 75) 48 dX8_read_75 (by decide) ?_
          have hK1 : rdK mu nu1 := by rw [← hnu1]; exact ((((hK.up _ (by omega)).up2 _ _).up2 _ _).up _ (by omega))
          have e := ih (skp f n (p + 2)) (mm + 1) (zk_up nu1 46 9 (nI (skp f n (p + 2)))) (by omega) hsk.2 (rdAt_up r1 (by omega)) (by rw [txF_up]; exact tx1) (by rw [zup_k _ _ _ (by decide), ← hnu1, zup_k _ _ _ (by decide), zup_c _ _ _ (by decide), zup_c _ _ _ (by decide), zup_k _ _ _ (by decide)]; exact hcl) (by rw [zup_k _ _ _ (by decide), ← hnu1, zup_s]) (by omega) (hK1.up _ (by omega))
          refine zk_post e ?_
          intro r m' l ⟨e1, e2, e3, e4⟩
          have hV : mmV f n cells (m + 1) p mm = mmV f n cells m (skp f n (p + 2)) (mm + 1) := by
            show (if p < n then _ else _) = _
            rw [if_pos hp, ← hf, if_pos a1, if_pos (by rw [← hcl]; exact a2), hf]
          have hD : mmD f n (m + 1) p = (sbv (lt f n p), lt f n (p + 1) - 48) :: mmD f n m (skp f n (p + 2)) := by
            show (if p < n then _ else _) = _
            rw [if_pos hp]
          refine ⟨e1, by rw [hV]; exact e2, e3, ?_⟩
          intro q
          rw [hV] at q
          obtain ⟨g1, g2, g3, g4, g5⟩ := e4 q
          rw [hD]
          have n12 : nu1 46 12 = nu 46 12 := by rw [← hnu1, zup_k _ _ _ (by decide), zup_c _ _ _ (by decide), zup_c _ _ _ (by decide), zup_k _ _ _ (by decide)]
          refine ⟨by rw [g1, zup_k _ _ _ (by decide), n12], g2, by rw [g3, List.length_cons]; congr 1; omega, ?_, ?_⟩
          · intro j hj
            rw [g4 j (by omega), zup_c _ _ _ (by decide), ← hnu1, zup_c _ _ _ (by decide), zup_k _ _ _ (by omega), zup_k _ _ _ (by omega), zup_c _ _ _ (by decide)]
          · intro j x hx
            cases j with
            | zero =>
              simp at hx
              subst hx
              rw [Nat.add_zero, g4 _ (by omega), g4 _ (by omega), zup_c _ _ _ (by decide), zup_c _ _ _ (by decide), ← hnu1, zup_c _ _ _ (by decide), zup_k _ _ _ (by omega), zup_s, zup_c _ _ _ (by decide), zup_s, hf]
              exact ⟨rfl, rfl⟩
            | succ j =>
              have := g5 j x (by simpa using hx)
              rwa [show mm + 1 + j = mm + (j + 1) by omega] at this
        · have he : memM nu t n p mm (nu 46 13) = (0, zk_up nu 46 9 (nI (p + 1))) := by unfold memM; rw [if_pos a1, if_neg a2]
          rw [he] at hM0
          dsimp only at hM0
          refine zk_callVI (pc := 60) dX8_read_60 mtX8_isMemberItem lkX8_121 stX8_isMemberItem (by rfl) (by rfl) [] _ rfl rfl (Nat.le_of_ble_eq_true rfl) (Nat.le_of_ble_eq_true rfl) hM0 ?_
          refine zk_if_ne (pc := 63) 71 dX8_read_63 (by decide) (fun h63 => absurd rfl h63) (fun h63 => ?_)
          refine zk_aload_n (pc := 66) 0 dX8_read_66 rfl rfl ?_
          refine zk_getI (pc := 67) dX8_read_67 flX8_93 rfl rfl ?_
          have hV : mmV f n cells (m + 1) p mm = nI (p + 1) := by
            show (if p < n then _ else _) = _
            rw [if_pos hp, ← hf, if_pos a1, if_neg (by rw [← hcl]; exact a2)]
          refine zk_ireturn (pc := 70) dX8_read_70 (Or.inl rfl) ⟨rfl, ?_, hK.up _ (by omega), fun q => by rw [hV] at q; exact absurd q (nI_ne9 (by omega))⟩
          rw [hV, zup_s]
      · have he : memM nu t n p mm (nu 46 13) = (0, nu) := by unfold memM; rw [if_neg a1]
        rw [he] at hM0
        dsimp only at hM0
        refine zk_callVI (pc := 60) dX8_read_60 mtX8_isMemberItem lkX8_121 stX8_isMemberItem (by rfl) (by rfl) [] _ rfl rfl (Nat.le_of_ble_eq_true rfl) (Nat.le_of_ble_eq_true rfl) hM0 ?_
        refine zk_if_ne (pc := 63) 71 dX8_read_63 (by decide) (fun h63 => absurd rfl h63) (fun h63 => ?_)
        refine zk_aload_n (pc := 66) 0 dX8_read_66 rfl rfl ?_
        refine zk_getI (pc := 67) dX8_read_67 flX8_93 rfl rfl ?_
        have hV : mmV f n cells (m + 1) p mm = nI p := by
          show (if p < n then _ else _) = _
          rw [if_pos hp, ← hf, if_neg a1]
        refine zk_ireturn (pc := 70) dX8_read_70 (Or.inl rfl) ⟨rfl, ?_, hK, fun q => by rw [hV] at q; exact absurd q (nI_ne9 (by omega))⟩
        rw [hV, h.1]
theorem sp_X8_read {t n : Nat} (ht : t < 4) (hn : mu 49 t = nI n) (hn60 : n ≤ 60) : zk_M (d + 3) RX8 cX8_read 2 (some .int) none 0 (zk_loc [.ref 46, .int (nI t)] 2) [] mu lm (rdQ mu lm (txF mu t) n) := by
  have hsk := skp_le (f := txF mu t) (n := n) n 0 (by omega) (by omega)
  refine zk_aload_n (pc := 0) 0 dX8_read_0 rfl rfl ?_
  refine zk_bipush (pc := 1) (v := 60) dX8_read_1 (by decide) ?_
  refine zk_iload_n (pc := 3) 1 dX8_read_3 rfl rfl ?_
  refine zk_imul (pc := 4) dX8_read_4 ?_
  refine zk_putI (pc := 5) dX8_read_5 flX8_90 rfl rfl ?_
  refine zk_aload_n (pc := 8) 0 dX8_read_8 rfl rfl ?_
  refine zk_aload_n (pc := 9) 0 dX8_read_9 rfl rfl ?_
  refine zk_getR (pc := 10) dX8_read_10 flX8_16 rfl rfl ?_
  refine zk_iload_n (pc := 13) 1 dX8_read_13 rfl rfl ?_
  refine zk_iaload (pc := 14) t dX8_read_14 rfl rfl ht ?_
  refine zk_putI (pc := 15) dX8_read_15 flX8_87 rfl rfl ?_
  refine zk_aload_n (pc := 18) 0 dX8_read_18 rfl rfl ?_
  refine zk_iconst (pc := 19) (v := 0) dX8_read_19 (by decide) ?_
  refine zk_putI (pc := 20) dX8_read_20 flX8_93 rfl rfl ?_
  refine zk_aload_n (pc := 23) 0 dX8_read_23 rfl rfl ?_
  refine zk_iconst (pc := 24) (v := 0) dX8_read_24 (by decide) ?_
  refine zk_putI (pc := 25) dX8_read_25 flX8_111 rfl rfl ?_
  rw [show (60 : Int32) * nI t = nI (60 * t) from by rw [show (60 : Int32) = nI 60 from rfl, pk_mul], zup_c _ _ _ (show (49 : Nat) ≠ 46 by decide), hn]
  generalize hb0 : zk_up (zk_up (zk_up (zk_up mu 46 10 (nI (60 * t))) 46 11 (nI n)) 46 9 0) 46 14 0 = b0
  have r0 : rdAt b0 t n 0 := by
    rw [← hb0]
    exact ⟨by rw [zup_k _ _ _ (by decide), zup_s]; rfl, by rw [zup_k _ _ _ (by decide), zup_k _ _ _ (by decide), zup_k _ _ _ (by decide), zup_s], by rw [zup_k _ _ _ (by decide), zup_k _ _ _ (by decide), zup_s], ht, hn60, by omega⟩
  have K0 : rdK mu b0 := by rw [← hb0]; exact ((((rdK.rf.up _ (by omega)).up _ (by omega)).up _ (by omega)).up _ (by omega))
  have m0 : b0 46 14 = nI 0 := by rw [← hb0, zup_s]; rfl
  have t0 : txF b0 t = txF mu t := by rw [← hb0, txF_up, txF_up, txF_up, txF_up]
  have hS0 := sp_X8_skip (d := d + 1) (lm := lm) r0
  rw [t0] at hS0
  generalize hp0 : skp (txF mu t) n 0 = p0 at hsk hS0
  have r1 := rdAt_up r0 (p' := p0) (by omega)
  have t1 : txF (zk_up b0 46 9 (nI p0)) t = txF mu t := by rw [txF_up]; exact t0
  have hC0 := sp_X8_isCeiling (d := d) (lm := lm) r1 hsk.2
  have K1 : rdK mu (zk_up b0 46 9 (nI p0)) := K0.up _ (by omega)
  have hrd : ∀ x, x = rdV (txF mu t) n → x = rdV (txF mu t) n := fun _ h => h
  refine zk_aload_n (pc := 28) 0 dX8_read_28 rfl rfl ?_
  refine zk_callVV (pc := 29) dX8_read_29 mtX8_skip lkX8_114 stX8_skip (by rfl) (by rfl) [] _ rfl rfl (Nat.le_of_ble_eq_true rfl) (Nat.le_of_ble_eq_true rfl) hS0 ?_
  refine zk_aload_n (pc := 32) 0 dX8_read_32 rfl rfl ?_
  by_cases a1 : lt (txF mu t) n p0 = 112
  · by_cases a2 : 0 ≤ lt (txF mu t) n (p0 + 1) - 48 ∧ lt (txF mu t) n (p0 + 1) - 48 ≤ 9
    · by_cases a3 : 3 ≤ lt (txF mu t) n (p0 + 2) - 48 ∧ lt (txF mu t) n (p0 + 2) - 48 ≤ 8
      · have he : ceiM (zk_up b0 46 9 (nI p0)) t n p0 = (1, zk_up (zk_up (zk_up (zk_up (zk_up b0 46 9 (nI p0)) 46 9 (nI (p0 + 2))) 46 12 (lt (txF mu t) n (p0 + 1) - 48)) 46 9 (nI (p0 + 3))) 46 13 (lt (txF mu t) n (p0 + 2) - 48)) := by
          unfold ceiM; rw [t1, if_pos a1, if_pos a2, if_pos a3]
        rw [he] at hC0
        dsimp only at hC0
        have hp2 := fig_lt (by decide) a3
        generalize hnu : zk_up (zk_up (zk_up (zk_up (zk_up b0 46 9 (nI p0)) 46 9 (nI (p0 + 2))) 46 12 (lt (txF mu t) n (p0 + 1) - 48)) 46 9 (nI (p0 + 3))) 46 13 (lt (txF mu t) n (p0 + 2) - 48) = nu at hC0
        have r3 : rdAt nu t n (p0 + 3) := by
          rw [← hnu]
          exact rdAt_k (rdAt_up (rdAt_k (rdAt_up r1 (p' := p0 + 2) (by omega)) (by decide) (by decide) (by decide)) (by omega)) (by decide) (by decide) (by decide)
        have t3 : txF nu t = txF mu t := by rw [← hnu, txF_up, txF_up, txF_up, txF_up]; exact t1
        have K3 : rdK mu nu := by rw [← hnu]; exact ((((K1.up _ (by omega)).up _ (by omega)).up _ (by omega)).up _ (by omega))
        refine zk_callVI (pc := 33) dX8_read_33 mtX8_isCeiling lkX8_117 stX8_isCeiling (by rfl) (by rfl) [] _ rfl rfl (Nat.le_of_ble_eq_true rfl) (Nat.le_of_ble_eq_true rfl) hC0 ?_
        refine zk_if_ne (pc := 36) 44 dX8_read_36 (by decide) (fun h36 => ?_) (fun h36 => absurd h36 (by decide))
        have hS1 := sp_X8_skip (d := d + 1) (lm := lm) r3
        rw [t3] at hS1
        refine zk_aload_n (pc := 44) 0 dX8_read_44 rfl rfl ?_
        refine zk_callVV (pc := 45) dX8_read_45 mtX8_skip lkX8_114 stX8_skip (by rfl) (by rfl) [] _ rfl rfl (Nat.le_of_ble_eq_true rfl) (Nat.le_of_ble_eq_true rfl) hS1 ?_
        have hsk1 := skp_le (f := txF mu t) (n := n) (n - (p0 + 3)) (p0 + 3) (Nat.le_refl _) (by omega)
        have n14 : nu 46 14 = nI 0 := by rw [← hnu, zup_k _ _ _ (by decide), zup_k _ _ _ (by decide), zup_k _ _ _ (by decide), zup_k _ _ _ (by decide), zup_k _ _ _ (by decide)]; exact m0
        have e := sp_mm (d := d) (lm := lm) (t := t) (n := n) (txF mu t) (lt (txF mu t) n (p0 + 2) - 48) mu (n + 1) (skp (txF mu t) n (p0 + 3)) 0 (zk_up nu 46 9 (nI (skp (txF mu t) n (p0 + 3)))) (by omega) hsk1.2 (rdAt_up r3 (by omega)) (by rw [txF_up]; exact t3) (by rw [zup_k _ _ _ (by decide), ← hnu, zup_s]) (by rw [zup_k _ _ _ (by decide)]; exact n14) (by omega) (K3.up _ (by omega))
        refine zk_post e ?_
        intro r m' l ⟨e1, e2, e3, e4⟩
        have hV : rdV (txF mu t) n = mmV (txF mu t) n (lt (txF mu t) n (p0 + 2) - 48) (n + 1) (skp (txF mu t) n (p0 + 3)) 0 := by unfold rdV; rw [hp0, if_pos a1, if_pos a2, if_pos a3]
        have hD : rdD (txF mu t) n = mmD (txF mu t) n (n + 1) (skp (txF mu t) n (p0 + 3)) := by unfold rdD; rw [hp0]
        refine ⟨e1, by rw [hV]; exact e2, e3, ?_⟩
        intro q
        rw [hV] at q
        obtain ⟨g1, g2, g3, g4, g5⟩ := e4 q
        rw [hD, hp0]
        refine ⟨by rw [g1, zup_k _ _ _ (by decide), ← hnu, zup_k _ _ _ (by decide), zup_k _ _ _ (by decide), zup_s], g2, by rw [g3, Nat.zero_add], fun j x hx => ?_⟩
        have := g5 j x hx
        rwa [Nat.zero_add] at this
      · have he : ceiM (zk_up b0 46 9 (nI p0)) t n p0 = (0, zk_up (zk_up (zk_up (zk_up b0 46 9 (nI p0)) 46 9 (nI (p0 + 2))) 46 12 (lt (txF mu t) n (p0 + 1) - 48)) 46 13 (-1)) := by
          unfold ceiM; rw [t1, if_pos a1, if_pos a2, if_neg a3]
        rw [he] at hC0
        dsimp only at hC0
        have hp2 := fig_lt (by decide) a2
        refine zk_callVI (pc := 33) dX8_read_33 mtX8_isCeiling lkX8_117 stX8_isCeiling (by rfl) (by rfl) [] _ rfl rfl (Nat.le_of_ble_eq_true rfl) (Nat.le_of_ble_eq_true rfl) hC0 ?_
        refine zk_if_ne (pc := 36) 44 dX8_read_36 (by decide) (fun h36 => absurd rfl h36) (fun h36 => ?_)
        refine zk_aload_n (pc := 39) 0 dX8_read_39 rfl rfl ?_
        refine zk_getI (pc := 40) dX8_read_40 flX8_93 rfl rfl ?_
        have hV : rdV (txF mu t) n = nI (p0 + 2) := by unfold rdV; rw [hp0, if_pos a1, if_pos a2, if_neg a3]
        refine zk_ireturn (pc := 43) dX8_read_43 (Or.inl rfl) ⟨rfl, ?_, ((K1.up _ (by omega)).up _ (by omega)).up _ (by omega), fun q => by rw [hV] at q; exact absurd q (nI_ne9 (by omega))⟩
        rw [hV, zup_k _ _ _ (by decide), zup_k _ _ _ (by decide), zup_s]
    · have he : ceiM (zk_up b0 46 9 (nI p0)) t n p0 = (0, zk_up (zk_up (zk_up b0 46 9 (nI p0)) 46 9 (nI (p0 + 1))) 46 12 (-1)) := by
        unfold ceiM; rw [t1, if_pos a1, if_neg a2]
      rw [he] at hC0
      dsimp only at hC0
      refine zk_callVI (pc := 33) dX8_read_33 mtX8_isCeiling lkX8_117 stX8_isCeiling (by rfl) (by rfl) [] _ rfl rfl (Nat.le_of_ble_eq_true rfl) (Nat.le_of_ble_eq_true rfl) hC0 ?_
      refine zk_if_ne (pc := 36) 44 dX8_read_36 (by decide) (fun h36 => absurd rfl h36) (fun h36 => ?_)
      refine zk_aload_n (pc := 39) 0 dX8_read_39 rfl rfl ?_
      refine zk_getI (pc := 40) dX8_read_40 flX8_93 rfl rfl ?_
      have hV : rdV (txF mu t) n = nI (p0 + 1) := by unfold rdV; rw [hp0, if_pos a1, if_neg a2]
      refine zk_ireturn (pc := 43) dX8_read_43 (Or.inl rfl) ⟨rfl, ?_, (K1.up _ (by omega)).up _ (by omega), fun q => by rw [hV] at q; exact absurd q (nI_ne9 (by omega))⟩
      rw [hV, zup_k _ _ _ (by decide), zup_s]
  · have he : ceiM (zk_up b0 46 9 (nI p0)) t n p0 = (0, zk_up b0 46 9 (nI p0)) := by
      unfold ceiM; rw [t1, if_neg a1]
    rw [he] at hC0
    dsimp only at hC0
    refine zk_callVI (pc := 33) dX8_read_33 mtX8_isCeiling lkX8_117 stX8_isCeiling (by rfl) (by rfl) [] _ rfl rfl (Nat.le_of_ble_eq_true rfl) (Nat.le_of_ble_eq_true rfl) hC0 ?_
    refine zk_if_ne (pc := 36) 44 dX8_read_36 (by decide) (fun h36 => absurd rfl h36) (fun h36 => ?_)
    refine zk_aload_n (pc := 39) 0 dX8_read_39 rfl rfl ?_
    refine zk_getI (pc := 40) dX8_read_40 flX8_93 rfl rfl ?_
    have hV : rdV (txF mu t) n = nI p0 := by unfold rdV; rw [hp0, if_neg a1]
    refine zk_ireturn (pc := 43) dX8_read_43 (Or.inl rfl) ⟨rfl, ?_, K1, fun q => by rw [hV] at q; exact absurd q (nI_ne9 (by omega))⟩
    rw [hV, zup_s]
end M44
