section M74
variable {mu : Mem} {lm : MemL}
/-! ===== evening: one who talks, one who opens ===== -/
def bdA (C : Nat) (a : Nat → Int32) : Prop := ∀ q, q < C → ∃ X, X ≤ 999 ∧ a q = nI X
theorem zmin_nn {a b : Nat} (ha : a < 2147483648) (hb : b < 2147483648) : zmin (nI a) (nI b) = nI (min a b) := by
  unfold zmin
  by_cases h : b < a
  · rw [if_pos (by rw [nIlt hb ha]; exact h), show min a b = b by omega]
  · rw [if_neg (by rw [nIlt hb ha]; exact h), show min a b = a by omega]
theorem mstR_sp {g : (Nat → Int32) → Int32} {C : Nat} {v : Int32} {a : Nat → Int32} {f : Nat → Nat} : ∀ k, (∀ j, j < k → g (tkA mu C v a j) = nI (f j) ∧ f j ≤ 9000) → ∃ x, x ≤ 9000 ∧ mstR g mu C v a k = nI x ∧ (∀ j, j < k → f j ≤ x) ∧ (x = 0 ∨ ∃ j, j < k ∧ f j = x)
  | 0, _ => ⟨0, by omega, rfl, fun j hj => absurd hj (Nat.not_lt_zero _), Or.inl rfl⟩
  | k + 1, h => by
    obtain ⟨x, hx, e, h1, h2⟩ := mstR_sp k (fun j hj => h j (by omega))
    obtain ⟨e2, hf⟩ := h k (by omega)
    refine ⟨max x (f k), by omega, ?_, fun j hj => ?_, ?_⟩
    · show zmax (mstR g mu C v a k) (g (tkA mu C v a k)) = _
      rw [e, e2, zmax_n (by omega) (by omega)]
    · by_cases q : j = k
      · subst q; omega
      · have := h1 j (by omega); omega
    · rcases Nat.le_total x (f k) with q | q
      · exact Or.inr ⟨k, by omega, by omega⟩
      · rcases h2 with h2 | ⟨j, hj, ej⟩
        · left; omega
        · exact Or.inr ⟨j, by omega, by omega⟩
theorem mstR_cong {g g' : (Nat → Int32) → Int32} {C : Nat} {v : Int32} {a : Nat → Int32} : ∀ k, (∀ j, j < k → g (tkA mu C v a j) = g' (tkA mu C v a j)) → mstR g mu C v a k = mstR g' mu C v a k
  | 0, _ => rfl
  | k + 1, h => by
    show zmax (mstR g mu C v a k) (g (tkA mu C v a k)) = zmax (mstR g' mu C v a k) (g' (tkA mu C v a k))
    rw [mstR_cong k (fun j hj => h j (by omega)), h k (by omega)]
theorem lstR_sp {h : (Nat → Int32) → Int32} {a : Nat → Int32} {f : Nat → Nat} : ∀ k, (∀ j, j < k → h (opA a j) = nI (f j) ∧ f j ≤ 7992) → ∃ x, x ≤ 7992 ∧ lstR h a k = nI x ∧ (∀ j, j < k → x ≤ f j) ∧ (x = 7992 ∨ ∃ j, j < k ∧ f j = x)
  | 0, _ => ⟨7992, by omega, rfl, fun j hj => absurd hj (Nat.not_lt_zero _), Or.inl rfl⟩
  | k + 1, hh => by
    obtain ⟨x, hx, e, h1, h2⟩ := lstR_sp k (fun j hj => hh j (by omega))
    obtain ⟨e2, hf⟩ := hh k (by omega)
    refine ⟨min x (f k), by omega, ?_, fun j hj => ?_, ?_⟩
    · show zmin (lstR h a k) (h (opA a k)) = _
      rw [e, e2, zmin_nn (by omega) (by omega)]
    · by_cases q : j = k
      · subst q; omega
      · have := h1 j (by omega); omega
    · rcases Nat.le_total (f k) x with q | q
      · exact Or.inr ⟨k, by omega, by omega⟩
      · rcases h2 with h2 | ⟨j, hj, ej⟩
        · left; omega
        · exact Or.inr ⟨j, by omega, by omega⟩
theorem lsR_sp {C M : Nat} {g : Nat → Nat → Int32} {f : Nat → Nat} {i : Nat} (hi : i < M ∨ i = 6) : ∀ k, (∀ c, c < k → (c < C ∨ c = 8) → g i c = nI (f c) ∧ f c ≤ 7992) → ∃ x, x ≤ 9999 ∧ lsR C M g i k = nI x ∧ (∀ c, c < k → (c < C ∨ c = 8) → x ≤ f c) ∧ (x = 9999 ∨ ∃ c, c < k ∧ (c < C ∨ c = 8) ∧ f c = x)
  | 0, _ => ⟨9999, Nat.le_refl _, rfl, fun c hc => absurd hc (Nat.not_lt_zero _), Or.inl rfl⟩
  | k + 1, h => by
    obtain ⟨x, hx, e, h1, h2⟩ := lsR_sp hi k (fun c hc => h c (by omega))
    rw [lsR_s, e]
    by_cases q : k < C ∨ k = 8
    · obtain ⟨e2, hf⟩ := h k (by omega) q
      rw [if_pos (isT_iff.mpr ⟨hi, q⟩), e2, zmin_nn (by omega) (by omega)]
      refine ⟨min x (f k), by omega, rfl, fun c hc hv => ?_, ?_⟩
      · by_cases z : c = k
        · subst z; omega
        · have := h1 c (by omega) hv; omega
      · rcases Nat.le_total (f k) x with z | z
        · exact Or.inr ⟨k, by omega, q, by omega⟩
        · rcases h2 with h2 | ⟨c, hc, hv, ec⟩
          · left; omega
          · exact Or.inr ⟨c, by omega, hv, by omega⟩
    · rw [if_neg (fun z => q (isT_iff.mp z).2), show (9999 : Int32) = nI 9999 from rfl, zmin_nn (by omega) (by omega)]
      refine ⟨min x 9999, by omega, rfl, fun c hc hv => ?_, ?_⟩
      · have hck : c ≠ k := fun z => q (z ▸ hv)
        have := h1 c (by omega) hv
        omega
      · rcases h2 with h2 | ⟨c, hc, hv, ec⟩
        · left; omega
        · exact Or.inr ⟨c, by omega, hv, by omega⟩
theorem lsR_no {C M : Nat} {g : Nat → Nat → Int32} {i : Nat} (hi : ¬ (i < M ∨ i = 6)) : ∀ k, lsR C M g i k = 9999
  | 0 => rfl
  | k + 1 => by
    rw [lsR_s, lsR_no hi k, if_neg (fun z => hi (isT_iff.mp z).1)]
    decide
theorem msR_sp {C M : Nat} {g : Nat → Nat → Int32} {L : Nat → Nat} : ∀ k, (∀ i, i < k → (i < M ∨ i = 6) → lsR C M g i 9 = nI (L i) ∧ L i ≤ 7992) → (msR C M g k = -1 ∧ ∀ i, i < k → ¬ (i < M ∨ i = 6)) ∨ ∃ x, x ≤ 7992 ∧ msR C M g k = nI x ∧ (∀ i, i < k → (i < M ∨ i = 6) → L i ≤ x) ∧ ∃ i, i < k ∧ (i < M ∨ i = 6) ∧ L i = x
  | 0, _ => Or.inl ⟨rfl, fun j hj => absurd hj (Nat.not_lt_zero _)⟩
  | k + 1, h => by
    have ih := msR_sp k (fun i hi => h i (by omega))
    rw [msR_s]
    by_cases q : k < M ∨ k = 6
    · obtain ⟨e, hL⟩ := h k (by omega) q
      have c1 : nI (L k) < 9999 := show nI (L k) < nI 9999 from nI_lt (by omega) (by decide)
      rw [e]
      right
      rcases ih with ⟨e1, h1⟩ | ⟨x, hx, e1, h1, i, hi, hv, ei⟩
      · have c2 : (-1 : Int32) < nI (L k) := by
          have := nI_pos' (n := L k) (by omega)
          simp only [zlt, zle] at *
          have e0 : (0 : Int32).toInt = 0 := by decide
          have e9 : (-1 : Int32).toInt = -1 := by decide
          omega
        rw [e1, if_pos ⟨c1, c2⟩]
        refine ⟨L k, hL, rfl, fun i hi hv => ?_, k, by omega, q, rfl⟩
        by_cases z : i = k
        · subst z; omega
        · exact absurd hv (h1 i (by omega))
      · rw [e1]
        by_cases z : x < L k
        · rw [if_pos ⟨c1, nI_lt z (by omega)⟩]
          refine ⟨L k, hL, rfl, fun i hi hv => ?_, k, by omega, q, rfl⟩
          by_cases y : i = k
          · subst y; omega
          · have := h1 i (by omega) hv; omega
        · rw [if_neg (fun y => nI_nlt (by omega) (by omega) y.2)]
          refine ⟨x, hx, rfl, fun i hi hv => ?_, i, by omega, hv, ei⟩
          by_cases y : i = k
          · subst y; omega
          · exact h1 i (by omega) hv
    · rw [lsR_no q 9, if_neg (fun y => absurd y.1 (by decide))]
      rcases ih with ⟨e1, h1⟩ | ⟨x, hx, e1, h1, i, hi, hv, ei⟩
      · refine Or.inl ⟨e1, fun i hi => ?_⟩
        by_cases y : i = k
        · subst y; exact q
        · exact h1 i (by omega)
      · refine Or.inr ⟨x, hx, e1, fun i hi hv => ?_, i, by omega, hv, ei⟩
        by_cases y : i = k
        · subst y; exact absurd hv q
        · exact h1 i (by omega) hv
/-! ===== a turn ===== -/
theorem tkA_s (C : Nat) (v : Int32) (a : Nat → Int32) (i q : Nat) : tkA mu C v a (i + 1) q = if q < C then zmin 999 (a q + shr (mu 24 i) (mu 25 i) (mu 23 5) v (nI q)) else a q := rfl
theorem opA_s (a : Nat → Int32) (c q : Nat) : opA a (c + 1) q = if q = c then 0 else a q := rfl
theorem tkA_bd {C V : Nat} (hV : V ≤ 99) {a : Nat → Int32} (ha : bdA C a) : ∀ k, bdA C (tkA mu C (nI V) a k)
  | 0 => ha
  | i + 1 => fun q hq => by
    obtain ⟨X, hX, eX⟩ := ha q hq
    obtain ⟨S, hS, eS⟩ := shr_ex (kind := mu 24 i) (seat := mu 25 i) (cells := mu 23 5) (c := nI q) hV
    refine ⟨min 999 (X + S), by omega, ?_⟩
    rw [tkA_s, if_pos hq, eX, eS, nI_add, zmin_n (by omega)]
theorem ev_T {C M n V : Nat} (F : zF mu C M n) {a b : Nat → Int32} (hab : ∀ q, q < C → a q = b q) {k i : Nat} (h : (k = 0 ∧ i = 6) ∨ (k = i + 1 ∧ i < M)) : ∀ q, q < C → tkA mu C (nI V) a k q = evT mu M (nI V) b i q := by
  intro q hq
  have hM6 := F.M6
  unfold evT
  rcases h with ⟨rfl, rfl⟩ | ⟨rfl, hi⟩
  · rw [if_neg (by omega)]; exact hab q hq
  · rw [tkA_s, if_pos hq, if_pos hi, hab q hq, F.kd hi, F.se hi, F.c5]
theorem ev_O {C : Nat} (hC8 : C ≤ 8) {a b : Nat → Int32} (ha : bdA C a) (hab : ∀ q, q < C → a q = b q) {k c : Nat} (h : (k = 0 ∧ c = 8) ∨ (k = c + 1 ∧ c < C)) : bdA C (opA a k) ∧ ∀ q, q < C → opA a k q = evO C b c q := by
  rcases h with ⟨rfl, rfl⟩ | ⟨rfl, hc⟩
  · refine ⟨ha, fun q hq => ?_⟩
    unfold evO
    rw [if_neg (by omega)]
    exact hab q hq
  · refine ⟨fun q hq => ?_, fun q hq => ?_⟩
    · rw [opA_s]
      by_cases e : q = c
      · rw [if_pos e]; exact ⟨0, by omega, rfl⟩
      · rw [if_neg e]; exact ha q hq
    · unfold evO
      rw [opA_s]
      by_cases e : q = c
      · rw [if_pos e, if_pos ⟨hc, e⟩]
      · rw [if_neg e, if_neg (fun z => e z.2)]; exact hab q hq
theorem ev_step {C M n V : Nat} (F : zF mu C M n) {kc km : (Nat → Int32) → Int32} (H : ∀ a b : Nat → Int32, bdA C a → (∀ q, q < C → a q = b q) → ∃ x, x ≤ 7992 ∧ kc a = nI x ∧ km b = nI x) (hV : V ≤ 99) {a b : Nat → Int32} (ha : bdA C a) (hab : ∀ q, q < C → a q = b q) {g : Nat → Nat → Int32} (hg : ∀ i c, i < 7 → c < 9 → g i c = km (evO C (evT mu M (nI V) b i) c)) : ∃ x, x ≤ 7992 ∧ mstR (fun a => lstR kc a (C + 1)) mu C (nI V) a (M + 1) = nI x ∧ msR C M g 7 = nI x := by
  have hC8 := F.C8
  have hM6 := F.M6
  have hval : ∀ k i j c, ((k = 0 ∧ i = 6) ∨ (k = i + 1 ∧ i < M)) → ((j = 0 ∧ c = 8) ∨ (j = c + 1 ∧ c < C)) → ∃ x, x ≤ 7992 ∧ kc (opA (tkA mu C (nI V) a k) j) = nI x ∧ g i c = nI x := by
    intro k i j c h1 h2
    obtain ⟨b2, e2⟩ := ev_O hC8 (tkA_bd (mu := mu) hV ha k) (ev_T F hab h1) h2
    rw [hg i c (by omega) (by omega)]
    exact H _ _ b2 e2
  have hin : ∀ k i, ((k = 0 ∧ i = 6) ∨ (k = i + 1 ∧ i < M)) → ∃ x, x ≤ 7992 ∧ lstR kc (tkA mu C (nI V) a k) (C + 1) = nI x ∧ lsR C M g i 9 = nI x := by
    intro k i hr
    have hiv : i < M ∨ i = 6 := by omega
    obtain ⟨fC, hfC⟩ : ∃ fC : Nat → Nat, ∀ j, j < C + 1 → kc (opA (tkA mu C (nI V) a k) j) = nI (fC j) ∧ fC j ≤ 7992 := ⟨fun j => (kc (opA (tkA mu C (nI V) a k) j)).toNatClampNeg, fun j hj => by
      show kc (opA (tkA mu C (nI V) a k) j) = nI (kc (opA (tkA mu C (nI V) a k) j)).toNatClampNeg ∧ (kc (opA (tkA mu C (nI V) a k) j)).toNatClampNeg ≤ 7992
      obtain ⟨x, h1, h2⟩ : ∃ x, x ≤ 7992 ∧ kc (opA (tkA mu C (nI V) a k) j) = nI x := by
        by_cases j0 : j = 0
        · obtain ⟨x, h1, h2, -⟩ := hval k i j 8 hr (Or.inl ⟨j0, rfl⟩)
          exact ⟨x, h1, h2⟩
        · obtain ⟨x, h1, h2, -⟩ := hval k i j (j - 1) hr (Or.inr ⟨by omega, by omega⟩)
          exact ⟨x, h1, h2⟩
      rw [h2, nI_clamp (by omega)]
      exact ⟨rfl, h1⟩⟩
    obtain ⟨fM, hfM⟩ : ∃ fM : Nat → Nat, ∀ c, c < 9 → (c < C ∨ c = 8) → g i c = nI (fM c) ∧ fM c ≤ 7992 := ⟨fun c => (g i c).toNatClampNeg, fun c hc hv => by
      show g i c = nI (g i c).toNatClampNeg ∧ (g i c).toNatClampNeg ≤ 7992
      obtain ⟨x, h1, h2⟩ : ∃ x, x ≤ 7992 ∧ g i c = nI x := by
        rcases hv with hv | hv
        · obtain ⟨x, h1, -, h2⟩ := hval k i (c + 1) c hr (Or.inr ⟨rfl, hv⟩)
          exact ⟨x, h1, h2⟩
        · obtain ⟨x, h1, -, h2⟩ := hval k i 0 c hr (Or.inl ⟨rfl, hv⟩)
          exact ⟨x, h1, h2⟩
      rw [h2, nI_clamp (by omega)]
      exact ⟨rfl, h1⟩⟩
    have hfe : ∀ j c, j < C + 1 → c < 9 → ((j = 0 ∧ c = 8) ∨ (j = c + 1 ∧ c < C)) → fC j = fM c := by
      intro j c hj hc h2
      obtain ⟨x, x1, x2, x3⟩ := hval k i j c hr h2
      obtain ⟨y1, y2⟩ := hfC j hj
      obtain ⟨z1, z2⟩ := hfM c hc (by omega)
      exact (nI_eq (by omega) (by omega)).mp (y1.symm.trans (x2.trans (x3.symm.trans z1)))
    obtain ⟨x, hx, ex, x1, x2⟩ := lstR_sp (h := kc) (a := tkA mu C (nI V) a k) (C + 1) hfC
    obtain ⟨y, hy, ey, y1, y2⟩ := lsR_sp (C := C) hiv 9 hfM
    have e8 := hfe 0 8 (by omega) (by omega) (Or.inl ⟨rfl, rfl⟩)
    have hxy : x = y := by
      apply Nat.le_antisymm
      · rcases y2 with y2 | ⟨c, hc9, hv, ec⟩
        · omega
        · rcases hv with hv | hv
          · have := x1 (c + 1) (by omega)
            rw [hfe (c + 1) c (by omega) hc9 (Or.inr ⟨rfl, hv⟩)] at this
            omega
          · subst hv
            have := x1 0 (by omega)
            omega
      · rcases x2 with x2 | ⟨j, hj, ej⟩
        · have := y1 8 (by omega) (Or.inr rfl)
          have := (hfC 0 (by omega)).2
          omega
        · by_cases j0 : j = 0
          · subst j0
            have := y1 8 (by omega) (Or.inr rfl)
            omega
          · have := y1 (j - 1) (by omega) (Or.inl (by omega))
            rw [← hfe j (j - 1) hj (by omega) (Or.inr ⟨by omega, by omega⟩)] at this
            omega
    exact ⟨x, hx, ex, by rw [ey, hxy]⟩
  obtain ⟨LC, hLC⟩ : ∃ LC : Nat → Nat, ∀ k, k < M + 1 → lstR kc (tkA mu C (nI V) a k) (C + 1) = nI (LC k) ∧ LC k ≤ 9000 := ⟨fun k => (lstR kc (tkA mu C (nI V) a k) (C + 1)).toNatClampNeg, fun k hk => by
    show lstR kc (tkA mu C (nI V) a k) (C + 1) = nI (lstR kc (tkA mu C (nI V) a k) (C + 1)).toNatClampNeg ∧ (lstR kc (tkA mu C (nI V) a k) (C + 1)).toNatClampNeg ≤ 9000
    obtain ⟨x, h1, h2⟩ : ∃ x, x ≤ 7992 ∧ lstR kc (tkA mu C (nI V) a k) (C + 1) = nI x := by
      by_cases k0 : k = 0
      · obtain ⟨x, h1, h2, -⟩ := hin k 6 (Or.inl ⟨k0, rfl⟩)
        exact ⟨x, h1, h2⟩
      · obtain ⟨x, h1, h2, -⟩ := hin k (k - 1) (Or.inr ⟨by omega, by omega⟩)
        exact ⟨x, h1, h2⟩
    rw [h2, nI_clamp (by omega)]
    exact ⟨rfl, by omega⟩⟩
  obtain ⟨LM, hLM⟩ : ∃ LM : Nat → Nat, ∀ i, i < 7 → (i < M ∨ i = 6) → lsR C M g i 9 = nI (LM i) ∧ LM i ≤ 7992 := ⟨fun i => (lsR C M g i 9).toNatClampNeg, fun i hi hv => by
    show lsR C M g i 9 = nI (lsR C M g i 9).toNatClampNeg ∧ (lsR C M g i 9).toNatClampNeg ≤ 7992
    obtain ⟨x, h1, h2⟩ : ∃ x, x ≤ 7992 ∧ lsR C M g i 9 = nI x := by
      rcases hv with hv | hv
      · obtain ⟨x, h1, -, h2⟩ := hin (i + 1) i (Or.inr ⟨rfl, hv⟩)
        exact ⟨x, h1, h2⟩
      · obtain ⟨x, h1, -, h2⟩ := hin 0 i (Or.inl ⟨rfl, hv⟩)
        exact ⟨x, h1, h2⟩
    rw [h2, nI_clamp (by omega)]
    exact ⟨rfl, h1⟩⟩
  have hLe : ∀ k i, k < M + 1 → i < 7 → ((k = 0 ∧ i = 6) ∨ (k = i + 1 ∧ i < M)) → LC k = LM i := by
    intro k i hk hi h2
    obtain ⟨x, x1, x2, x3⟩ := hin k i h2
    obtain ⟨y1, y2⟩ := hLC k hk
    obtain ⟨z1, z2⟩ := hLM i hi (by omega)
    exact (nI_eq (by omega) (by omega)).mp (y1.symm.trans (x2.trans (x3.symm.trans z1)))
  obtain ⟨x, hx, ex, x1, x2⟩ := mstR_sp (mu := mu) (g := fun a => lstR kc a (C + 1)) (C := C) (v := nI V) (a := a) (f := LC) (M + 1) hLC
  have e6 := hLe 0 6 (by omega) (by omega) (Or.inl ⟨rfl, rfl⟩)
  rcases msR_sp (C := C) (M := M) (g := g) (L := LM) 7 hLM with ⟨-, h0⟩ | ⟨y, hy, ey, y1, i, hi, hv, ei⟩
  · exact absurd (Or.inr rfl) (h0 6 (by omega))
  · have hxy : x = y := by
      apply Nat.le_antisymm
      · rcases x2 with x2 | ⟨k, hk, ek⟩
        · omega
        · by_cases k0 : k = 0
          · subst k0
            have := y1 6 (by omega) (Or.inr rfl)
            omega
          · have := y1 (k - 1) (by omega) (Or.inl (by omega))
            rw [← hLe k (k - 1) hk (by omega) (Or.inr ⟨by omega, by omega⟩)] at this
            omega
      · rcases hv with hv | hv
        · have := x1 (i + 1) (by omega)
          rw [hLe (i + 1) i (by omega) hi (Or.inr ⟨rfl, hv⟩)] at this
          omega
        · subst hv
          have := x1 0 (by omega)
          omega
    exact ⟨x, by omega, ex, by rw [ey, hxy]⟩
/-! ===== the last window: the fullest cell ===== -/
theorem ev_sum {C : Nat} (hC8 : C ≤ 8) : ∀ a b : Nat → Int32, bdA C a → (∀ q, q < C → a q = b q) → ∃ x, x ≤ 7992 ∧ zsum C a = nI x ∧ zsum C b = nI x := by
  intro a b ha hab
  have e : zsum C a = nI (nsum C (fun q => (a q).toNatClampNeg)) := zsum_nsum (fun q hq => by
    obtain ⟨X, hX, eX⟩ := ha q hq
    rw [eX, nI_clamp (by omega)])
  have hle := nsum_le2 (n := C) (f := fun q => (a q).toNatClampNeg) (b := 999) (fun q hq => by
    obtain ⟨X, hX, eX⟩ := ha q hq
    show (a q).toNatClampNeg ≤ 999
    rw [eX, nI_clamp (by omega)]
    exact hX)
  exact ⟨_, by omega, e, by rw [← zsum_cong hab]; exact e⟩
theorem nsum_z {α : Nat → Nat} {c : Nat} : ∀ {n : Nat}, c < n → nsum n (fun q => if q = c then 0 else α q) + α c = nsum n α
  | n + 1, h => by
    show nsum n (fun q => if q = c then 0 else α q) + (if n = c then 0 else α n) + α c = nsum n α + α n
    by_cases e : n = c
    · subst e
      rw [if_pos rfl, nsum_cong (f := fun q => if q = n then 0 else α q) (g := α) (fun q hq => by show (if q = n then 0 else α q) = α q; rw [if_neg (by omega)])]
      omega
    · have := nsum_z (α := α) (c := c) (n := n) (by omega)
      rw [if_neg e]
      omega
theorem nmx_ex {f : Nat → Nat} : ∀ {n : Nat}, nmx n f = 0 ∨ ∃ q, q < n ∧ f q = nmx n f
  | 0 => Or.inl rfl
  | n + 1 => by
    have e : nmx (n + 1) f = max (nmx n f) (f n) := rfl
    rcases Nat.le_total (nmx n f) (f n) with q | q
    · exact Or.inr ⟨n, by omega, by omega⟩
    · rcases nmx_ex (f := f) (n := n) with h | ⟨j, hj, ej⟩
      · left; omega
      · exact Or.inr ⟨j, by omega, by omega⟩
theorem opn_eq {C : Nat} (hC8 : C ≤ 8) {a : Nat → Int32} (ha : bdA C a) : opn1 C a = lstR (zsum C) a (C + 1) := by
  obtain ⟨α, hα⟩ : ∃ α : Nat → Nat, ∀ q, q < C → a q = nI (α q) ∧ α q ≤ 999 := ⟨fun q => (a q).toNatClampNeg, fun q hq => by
    show a q = nI (a q).toNatClampNeg ∧ (a q).toNatClampNeg ≤ 999
    obtain ⟨X, hX, eX⟩ := ha q hq
    rw [eX, nI_clamp (by omega)]
    exact ⟨rfl, hX⟩⟩
  have hS := nsum_le2 (n := C) (f := α) (b := 999) (fun q hq => (hα q hq).2)
  have e1 : zsum C a = nI (nsum C α) := zsum_nsum (fun q hq => (hα q hq).1)
  obtain ⟨e2, -⟩ := zmx_n (n := C) (f := a) (g := α) (fun q hq => ⟨(hα q hq).1, by have := (hα q hq).2; omega⟩)
  have eO : ∀ c, c < C → zsum C (opA a (c + 1)) = nI (nsum C α - α c) ∧ α c ≤ nsum C α := by
    intro c hc
    have hz := nsum_z (α := α) hc
    have : zsum C (opA a (c + 1)) = nI (nsum C (fun q => if q = c then 0 else α q)) := zsum_nsum (fun q hq => by
      rw [opA_s]
      by_cases e : q = c
      · rw [if_pos e, if_pos e]; rfl
      · rw [if_neg e, if_neg e]; exact (hα q hq).1)
    rw [this]
    exact ⟨by rw [show nsum C (fun q => if q = c then 0 else α q) = nsum C α - α c by omega], by omega⟩
  have hmx : ∀ q, q < C → α q ≤ nmx C α := nmx_le.mp (Nat.le_refl _)
  have hle : nmx C α ≤ nsum C α := nmx_le.mpr (fun q hq => (eO q hq).2)
  obtain ⟨f, hf0, hfs⟩ : ∃ f : Nat → Nat, f 0 = nsum C α ∧ ∀ c, f (c + 1) = nsum C α - α c := ⟨fun j => match j with | 0 => nsum C α | c + 1 => nsum C α - α c, rfl, fun _ => rfl⟩
  obtain ⟨x, hx, ex, x1, x2⟩ := lstR_sp (h := zsum C) (a := a) (f := f) (C + 1) (fun j hj => by
    match j, hj with
    | 0, _ => rw [hf0]; exact ⟨e1, by omega⟩
    | c + 1, hj => rw [hfs]; exact ⟨(eO c (by omega)).1, by omega⟩)
  unfold opn1
  rw [e1, e2, nI_sub hle, ex]
  congr 1
  apply Nat.le_antisymm
  · rcases x2 with x2 | ⟨j, hj, ej⟩
    · omega
    · match j, hj, ej with
      | 0, _, ej => omega
      | c + 1, hj, ej =>
        have := hfs c
        have := hmx c (by omega)
        omega
  · rcases nmx_ex (f := α) (n := C) with h | ⟨c, hc, ec⟩
    · have := x1 0 (by omega)
      omega
    · have := x1 (c + 1) (by omega)
      have := hfs c
      omega
/-! ===== the model's moves ===== -/
theorem mvA_eq {mu1 : Mem} {C M : Nat} {v : Int32} (h3 : mu1 53 = mu 53) (h4 : mu1 54 = mu 54) (h6 : mu1 46 = mu 46) (a : Nat → Int32) (L : Nat) : mvA mu1 C M v a L = mvA mu C M v a L := by
  unfold mvA evT
  rw [h3, h4, h6]
theorem mvs_eq {mu1 : Mem} {C M : Nat} {v : Int32} (h3 : mu1 53 = mu 53) (h4 : mu1 54 = mu 54) (h6 : mu1 46 = mu 46) : ∀ (r : Nat) (a : Nat → Int32) (L : Nat), mvs mu1 C M v r a L = mvs mu C M v r a L
  | 0, _, _ => rfl
  | r + 1, a, L => by
    show mvs mu1 C M v r (mvA mu1 C M v a L) (L / 63) = mvs mu C M v r (mvA mu C M v a L) (L / 63)
    rw [mvs_eq h3 h4 h6 r, mvA_eq h3 h4 h6]
theorem mvA_at {C M i c : Nat} {v : Int32} (a : Nat → Int32) (hi : i < 7) (hc : c < 9) : mvA mu C M v a (i + 7 * c) = evO C (evT mu M v a i) c := by
  unfold mvA
  rw [show (i + 7 * c) % 7 = i by omega, show (i + 7 * c) / 7 % 9 = c by omega]
theorem ev_1 {C M n V : Nat} (F : zF mu C M n) (hV : V ≤ 99) {a b : Nat → Int32} (ha : bdA C a) (hab : ∀ q, q < C → a q = b q) : ∃ x, x ≤ 7992 ∧ mstR (opn1 C) mu C (nI V) a (M + 1) = nI x ∧ msR C M (fun i c => zsum C (mvA mu C M (nI V) b (i + 7 * c))) 7 = nI x := by
  obtain ⟨x, h1, h2, h3⟩ := ev_step F (ev_sum F.C8) hV ha hab (g := fun i c => zsum C (mvA mu C M (nI V) b (i + 7 * c))) (fun i c hi hc => by
    show zsum C (mvA mu C M (nI V) b (i + 7 * c)) = _
    rw [mvA_at b hi hc])
  refine ⟨x, h1, ?_, h3⟩
  rw [← h2]
  exact mstR_cong (M + 1) (fun j hj => opn_eq F.C8 (tkA_bd hV ha j))
theorem g2_eq {C M K : Nat} {v : Int32} (hK : K < 63) : g2 mu C M v K = fun i c => zsum C (mvA mu C M v (mvA mu C M v (mu 55) K) (i + 7 * c)) := by
  funext i c
  show zsum C (mvA mu C M v (mvA mu C M v (mu 55) (K + 63 * (i + 7 * c))) ((K + 63 * (i + 7 * c)) / 63)) = _
  have e : mvA mu C M v (mu 55) (K + 63 * (i + 7 * c)) = mvA mu C M v (mu 55) K := by
    unfold mvA
    rw [show (K + 63 * (i + 7 * c)) % 7 = K % 7 by omega, show (K + 63 * (i + 7 * c)) / 7 % 9 = K / 7 % 9 by omega]
  rw [e, show (K + 63 * (i + 7 * c)) / 63 = i + 7 * c by omega]
theorem ev_2 {C M n V : Nat} (F : zF mu C M n) (hV : V ≤ 99) (ha : bdA C (mu 27)) : ∃ x, x ≤ 7992 ∧ mstR (fun a => lstR (fun a' => mstR (opn1 C) mu C (nI V) a' (M + 1)) a (C + 1)) mu C (nI V) (mu 27) (M + 1) = nI x ∧ msR C M (g3v mu C M (nI V)) 7 = nI x := by
  refine ev_step F (kc := fun a' => mstR (opn1 C) mu C (nI V) a' (M + 1)) (km := fun b => msR C M (fun i c => zsum C (mvA mu C M (nI V) b (i + 7 * c))) 7) (fun a b ha hab => ev_1 F hV ha hab) hV ha (b := mu 55) (fun q hq => (F.air hq).symm) (fun i c hi hc => ?_)
  show msR C M (g2 mu C M (nI V) (i + 7 * c)) 7 = msR C M (fun i' c' => zsum C (mvA mu C M (nI V) (evO C (evT mu M (nI V) (mu 55) i) c) (i' + 7 * c'))) 7
  rw [g2_eq (by omega), mvA_at (mu 55) hi hc]
theorem bo_evening (h : zInv mu lm) (v m : Int32) : zBo cX7_evening 3 cX8_evening 8 [.int v, .int m] mu lm := by
  obtain ⟨C, M, n, F⟩ := h.fa
  by_cases hb : (0 ≤ v ∧ v ≤ 99) ∧ (0 ≤ m ∧ m ≤ 2)
  · by_cases hM : mu 23 6 = 0
    · exact zboR (by decide) (by decide) (sp_X7_evening_0 (d := 0) hb.1 hb.2 hM) (sp_X8_evening_0 (d := 0) hb.1 hb.2 (by rw [F.c4]; exact hM)) rfl h
    · have hM0 : 0 < M := by
        apply Nat.pos_of_ne_zero
        intro q
        apply hM
        rw [F.M, q]; rfl
      have hC3 := F.C3 hM0
      have ha : bdA C (mu 27) := fun q hq => ⟨nA mu q, (F.nA hq).2, (F.nA hq).1⟩
      have hv := hb.1
      obtain ⟨V, hV, rfl⟩ := zgetl (M := 99) hv (by decide)
      have key : ∀ m1 : Mem, (∀ c, (c ≤ 38 ∨ 42 < c) → m1 c = mu c) → zF m1 C M n ∧ zInv m1 lm ∧ m1 55 = mu 55 ∧ g1 m1 C M (nI V) = g1 mu C M (nI V) ∧ g3v m1 C M (nI V) = g3v mu C M (nI V) := by
        intro m1 hq
        have e53 := hq 53 (by omega)
        have e54 := hq 54 (by omega)
        have e55 := hq 55 (by omega)
        have e46 := hq 46 (by omega)
        refine ⟨F.sm2 (fun c a b => hq c (by omega)) (fun c a b => hq c (by omega)) (fun k _ => by rw [e46]), h.told ⟨fun c a b => hq c (by omega), fun c a b d e => hq c (by omega), fun k _ => by rw [e46]⟩ (h.st.fr (hq 0 (by omega)) (hq 45 (by omega)) (hq 51 (by omega)) (fun k _ => by rw [e46])), e55, ?_, ?_⟩
        · funext i c
          unfold g1
          rw [mvs_eq e53 e54 e46, e55]
        · have eg : ∀ K, g2 m1 C M (nI V) K = g2 mu C M (nI V) K := fun K => by
            funext i c
            unfold g2
            rw [mvs_eq e53 e54 e46, e55]
          funext i c
          unfold g3v
          rw [eg]
      have fin : ∀ (m2 m1 : Mem), zInv m1 lm → (∀ c, c ≠ 56 → m2 c = m1 c) → zInv m2 lm := fun m2 m1 i1 q => i1.s56 q
      obtain ⟨N, hN, eN⟩ := zgetl (M := 2) hb.2 (by decide)
      rcases (show N = 0 ∨ N = 1 ∨ N = 2 by omega) with rfl | rfl | rfl
      · rw [show nI 0 = (0 : Int32) from rfl] at eN
        subst eN
        refine zboQ (d' := 0 + 5) (x := zsum C (mu 27)) (by decide) (by decide) (sp_X7_evening0 (d := 0) (mu := mu) (lm := lm) F.C F.C8 F.M F.M6 hM0 hv) (fun r m1 l1 q => ?_)
        obtain ⟨rfl, rfl, q⟩ := q
        obtain ⟨F1, i1, e55, -, -⟩ := key m1 q
        refine ⟨rfl, _, sp_X8_evening0 (d := 0) F1.C' F1.C8 F1.M' F1.M6 F1.A hC3 F1.S' hM0 hv, fun r2 m2 l2 z => ?_⟩
        obtain ⟨rfl, rfl, z⟩ := z
        exact ⟨by rw [e55, zsum_cong (fun k hk => F.air hk)], fin _ _ i1 z⟩
      · rw [show nI 1 = (1 : Int32) from rfl] at eN
        subst eN
        obtain ⟨x, -, x1, x2⟩ := ev_1 F hV ha (b := mu 55) (fun q hq => (F.air hq).symm)
        have hc := sp_X7_evening1 (d := 0) (mu := mu) (lm := lm) F.C F.C8 F.M F.M6 hM0 hv
        rw [show evn mu C M (nI V) 1 = nI x from x1] at hc
        refine zboQ (d' := 0 + 5) (x := nI x) (by decide) (by decide) hc (fun r m1 l1 q => ?_)
        obtain ⟨rfl, rfl, q⟩ := q
        obtain ⟨F1, i1, e55, eg, -⟩ := key m1 q
        have hm := sp_X8_evening1 (d := 0) (mu := m1) (lm := l1) F1.C' F1.C8 F1.M' F1.M6 F1.A hC3 F1.S' hM0 hv
        rw [eg, show msR C M (g1 mu C M (nI V)) 7 = nI x from x2] at hm
        refine ⟨rfl, _, hm, fun r2 m2 l2 z => ?_⟩
        obtain ⟨rfl, rfl, z⟩ := z
        exact ⟨rfl, fin _ _ i1 z⟩
      · rw [show nI 2 = (2 : Int32) from rfl] at eN
        subst eN
        obtain ⟨x, -, x1, x2⟩ := ev_2 F hV ha
        have hc := sp_X7_evening2 (d := 0) (mu := mu) (lm := lm) F.C F.C8 F.M F.M6 hM0 hv
        rw [show evn mu C M (nI V) 2 = nI x from x1] at hc
        refine zboQ (d' := 0 + 5) (x := nI x) (by decide) (by decide) hc (fun r m1 l1 q => ?_)
        obtain ⟨rfl, rfl, q⟩ := q
        obtain ⟨F1, i1, e55, -, eg⟩ := key m1 q
        have hm := sp_X8_evening2 (d := 0) (mu := m1) (lm := l1) F1.C' F1.C8 F1.M' F1.M6 F1.A hC3 F1.S' hM0 hv
        rw [eg, x2] at hm
        refine ⟨rfl, _, hm, fun r2 m2 l2 z => ?_⟩
        obtain ⟨rfl, rfl, z⟩ := z
        exact ⟨rfl, fin _ _ i1 z⟩
  · exact zboR (by decide) (by decide) (sp_X7_evening_n (d := 0) v m hb) (sp_X8_evening_n (d := 0) v m hb) rfl h
end M74
