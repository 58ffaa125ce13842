/-! ===== THE STATIC WORLD: behind the constructors no cell is made any more; what changes are ints (zk: mem) and longs; cells are numbered ===== -/
abbrev Mem : Type := Nat → Nat → Int32
abbrev MemL : Type := Nat → Nat → Int64
/-- the cells: (0, class, fields: 0 int, 1 long, c + 2 the cell c), (1, n, []) ints, (2, n, []) longs, (3 + t, n, cells) references -/
def zk_shp : List (Nat × Nat × List Nat) := [(0, 4, [3, 16, 25, 30, 32, 39, 45, 46, 47, 0, 0, 1, 1]), (3, 6, [2, 4, 6, 8, 10, 12]), (0, 2, [5, 0]), (1, 40, []), (0, 2, [7, 0]), (1, 40, []), (0, 2, [9, 0]), (1, 40, []), (0, 2, [11, 0]), (1, 40, []), (0, 2, [13, 0]), (1, 40, []), (0, 2, [15, 0]), (1, 40, []), (3, 4, [15, 17, 19, 21]), (0, 2, [18, 0]), (1, 60, []), (0, 2, [20, 0]), (1, 60, []), (0, 2, [22, 0]), (1, 60, []), (0, 2, [24, 0]), (1, 60, []), (0, 0, [26, 27, 28, 29, 0, 0, 0, 0, 0, 0]), (1, 6, []), (1, 6, []), (1, 6, []), (1, 8, []), (0, 1, [31, 0]), (1, 40, []), (4, 3, [31, 33, 35]), (0, 1, [34, 0]), (1, 40, []), (0, 1, [36, 0]), (1, 40, []), (0, 1, [38, 0]), (1, 40, []), (0, 3, [40]), (5, 4, [39, 40, 41, 42]), (1, 8, []), (1, 8, []), (1, 8, []), (1, 8, []), (1, 6, []), (2, 7, []), (1, 6, []), (0, 5, [49, 50, 51, 52, 0, 53, 0, 1, 1, 0, 0, 0, 0, 0, 0, 54, 0, 0, 0, 55, 56, 57, 58, 59, 0, 60, 61, 62]), (1, 6, []), (1, 240, []), (1, 4, []), (1, 240, []), (1, 6, []), (1, 12, []), (1, 6, []), (1, 6, []), (1, 17, []), (1, 17, []), (1, 680, []), (1, 51, []), (1, 2040, []), (1, 3, [])]
def zk_rv (ρ : Nat → Nat) (v : Value) : Value := match v with
  | .ref c => .ref (ρ c)
  | v => v
theorem zk_rv_cat (ρ : Nat → Nat) (v : Value) : (zk_rv ρ v).category = v.category := by cases v <;> rfl
def zk_fv (ρ : Nat → Nat) (mu : Nat → Int32) (lm : Nat → Int64) (k : Nat) (x : Nat) : Value := match x with
  | 0 => .int (mu k)
  | 1 => .long (lm k)
  | n + 2 => .ref (ρ n)
def zk_E (ρ : Nat → Nat) (γ : Nat → ClassId) (sh : Nat × Nat × List Nat) (mu : Nat → Int32) (lm : Nat → Int64) : va_E := match sh with
  | (0, ci, fs) => .inr (ci, fs.mapIdx (fun k x => zk_fv ρ mu lm k x))
  | (1, n, _) => .inl (γ 0, n, .inl mu)
  | (2, n, _) => .inl (γ 1, n, .inr (.inl lm))
  | (t + 3, n, rs) => .inl (γ (t + 2), n, .inr (.inr (.inr (.inr (fun j => (rs[j]?).map ρ)))))
def zk_ws (ρ : Nat → Nat) (γ : Nat → ClassId) (mu : Mem) (lm : MemL) : va_W := zk_shp.mapIdx (fun c sh => (ρ c, zk_E ρ γ sh (mu c) (lm c)))
def zk_ty (γ : Nat → ClassId) : List (ClassId × FieldType) := [(γ 0, .int), (γ 1, .long), (γ 2, .object RX4), (γ 3, .object RX1), (γ 4, .array .int)]
/-- the cell c holds f -/
def zk_uc {α : Type} (mu : Nat → Nat → α) (c : Nat) (f : Nat → α) : Nat → Nat → α := fun c' => if c' = c then f else mu c'
/-- place k of the cell c holds v -/
def zk_up {α : Type} (mu : Nat → Nat → α) (c k : Nat) (v : α) : Nat → Nat → α := fun c' k' => if c' = c ∧ k' = k then v else mu c' k'
theorem zk_up_uc {α : Type} (mu : Nat → Nat → α) (c k : Nat) (v : α) : zk_uc mu c (fun j => if j = k then v else mu c j) = zk_up mu c k v := by
  funext c' k'
  unfold zk_uc zk_up
  by_cases h : c' = c
  · subst h; by_cases h2 : k' = k <;> simp [h2]
  · simp [h]
theorem zk_ws_at {ρ : Nat → Nat} {γ : Nat → ClassId} {mu : Mem} {lm : MemL} {c : Nat} {sh : Nat × Nat × List Nat} (h : zk_shp[c]? = some sh) : (zk_ws ρ γ mu lm)[c]? = some (ρ c, zk_E ρ γ sh (mu c) (lm c)) := by
  unfold zk_ws
  rw [List.getElem?_mapIdx, h]; rfl
theorem zk_ws_set {ρ : Nat → Nat} {γ : Nat → ClassId} {mu : Mem} {lm : MemL} {c : Nat} {sh : Nat × Nat × List Nat} (h : zk_shp[c]? = some sh) (f : Nat → Int32) (g : Nat → Int64) : (zk_ws ρ γ mu lm).set c (ρ c, zk_E ρ γ sh f g) = zk_ws ρ γ (zk_uc mu c f) (zk_uc lm c g) := by
  apply List.ext_getElem?
  intro i
  rw [List.getElem?_set]
  unfold zk_ws zk_uc
  have hl : c < zk_shp.length := (List.getElem?_eq_some_iff.mp h).1
  by_cases e : c = i
  · subst e
    rw [if_pos rfl, List.getElem?_mapIdx, h]
    simp [hl]
  · rw [if_neg e, List.getElem?_mapIdx, List.getElem?_mapIdx]
    have e2 : ¬ i = c := fun q => e q.symm
    simp [e2]
theorem zk_uc_self {α : Type} (mu : Nat → Nat → α) (c : Nat) : zk_uc mu c (mu c) = mu := by
  funext c'
  unfold zk_uc
  by_cases h : c' = c
  · subst h; simp
  · simp [h]
theorem zk_D_any {ρ : Nat → Nat} {γ : Nat → ClassId} {mu mu' : Mem} {lm lm' : MemL} {A : Nat → Prop} (h : va_D A (zk_ws ρ γ mu lm)) : va_D A (zk_ws ρ γ mu' lm') := by
  have key : ∀ (k : Nat) (q : Nat × va_E), (zk_ws ρ γ mu' lm')[k]? = some q → ∃ q0, (zk_ws ρ γ mu lm)[k]? = some q0 ∧ q0.1 = q.1 := by
    intro k q hk
    unfold zk_ws at hk ⊢
    rw [List.getElem?_mapIdx] at hk ⊢
    cases hs : zk_shp[k]? with
    | none => rw [hs] at hk; cases hk
    | some sh => rw [hs] at hk; cases hk; exact ⟨_, rfl, rfl⟩
  refine ⟨fun i j x y hi hj hxy => ?_, fun k q hk => ?_⟩
  · obtain ⟨x0, h1, h2⟩ := key i x hi
    obtain ⟨y0, h3, h4⟩ := key j y hj
    exact h.1 i j x0 y0 h1 h3 (h2.trans (hxy.trans h4.symm))
  · obtain ⟨q0, h1, h2⟩ := key k q hk
    rw [← h2]
    exact h.2 k q0 h1
theorem zk_A_any {ρ : Nat → Nat} {γ : Nat → ClassId} {mu mu' : Mem} {lm lm' : MemL} {sz q : Nat} (h : va_A (zk_ws ρ γ mu lm) sz q) : va_A (zk_ws ρ γ mu' lm') sz q := by
  rcases h with ⟨k, e, h⟩ | h
  · left
    unfold zk_ws at h ⊢
    rw [List.getElem?_mapIdx] at h
    cases hs : zk_shp[k]? with
    | none => rw [hs] at h; cases h
    | some sh =>
      rw [hs] at h; cases h
      exact ⟨k, zk_E ρ γ sh (mu' k) (lm' k), by rw [List.getElem?_mapIdx, hs]; rfl⟩
  · exact Or.inr h
/-! ===== locals ===== -/
def zk_isV (v : Value) : Bool := match v with
  | .retAddr _ => false
  | _ => true
def zk_lv (ρ : Nat → Nat) (ls : List Value) : List (Nat × Value) := (List.range ls.length).filterMap (fun i => (ls[i]?).bind (fun v => if zk_isV v = true then some (i, zk_rv ρ v) else none))
theorem zk_mem_lv {ρ : Nat → Nat} {ls : List Value} {q : Nat × Value} : q ∈ zk_lv ρ ls ↔ ∃ v, ls[q.1]? = some v ∧ zk_isV v = true ∧ q.2 = zk_rv ρ v := by
  unfold zk_lv
  rw [List.mem_filterMap]
  constructor
  · rintro ⟨i, hi, h⟩
    cases hv : ls[i]? with
    | none => rw [hv] at h; cases h
    | some v =>
      rw [hv] at h
      simp only [Option.bind_some] at h
      by_cases hV : zk_isV v = true
      · rw [if_pos hV] at h; cases h; exact ⟨v, hv, hV, rfl⟩
      · rw [if_neg hV] at h; cases h
  · rintro ⟨v, hv, hV, e⟩
    refine ⟨q.1, List.mem_range.mpr (List.getElem?_eq_some_iff.mp hv).1, ?_⟩
    rw [hv]
    simp only [Option.bind_some]
    rw [if_pos hV, ← e]
def zk_kill (ls : List Value) (i : Nat) : List Value := match i with
  | 0 => ls
  | j + 1 => match ls[j]? with
    | some (.long _) => ls.set j (.retAddr 0)
    | some (.double _) => ls.set j (.retAddr 0)
    | _ => ls
def zk_set (ls : List Value) (i : Nat) (v : Value) : List Value := (zk_kill ls i).set i v
def zk_set2 (ls : List Value) (i : Nat) (v : Value) : List Value := (zk_set ls i v).set (i + 1) (.retAddr 0)
theorem zk_at {ρ : Nat → Nat} {ls : List Value} {lsr : Array Slot} {nL i : Nat} {v : Value} (h : lv_has lsr nL (zk_lv ρ ls)) (hv : ls[i]? = some v) (hV : zk_isV v = true) : lsr[i]? = some (.val (zk_rv ρ v)) := h.2.2 (i, zk_rv ρ v) (zk_mem_lv.mpr ⟨v, hv, hV, rfl⟩)
theorem zk_kill_at {ls : List Value} {i j : Nat} {w : Value} (h : (zk_kill ls i)[j]? = some w) (hV : zk_isV w = true) : ls[j]? = some w ∧ ¬ (j + 1 = i ∧ w.category = 2) := by
  unfold zk_kill at h
  match i with
  | 0 => exact ⟨h, fun q => by omega⟩
  | k + 1 =>
    simp only at h
    by_cases e : j = k
    · subst e
      cases hk : ls[j]? with
      | none => rw [hk] at h; simp only at h; rw [hk] at h; cases h
      | some v =>
        rw [hk] at h
        cases v with
        | long x =>
          simp only at h
          rw [List.getElem?_set_self (List.getElem?_eq_some_iff.mp hk).1] at h
          cases h; cases hV
        | double x =>
          simp only at h
          rw [List.getElem?_set_self (List.getElem?_eq_some_iff.mp hk).1] at h
          cases h; cases hV
        | _ => simp only at h; rw [hk] at h; cases h; exact ⟨rfl, fun q => by simp [Value.category] at q⟩
    · have h2 : ls[j]? = some w := by
        split at h
        · rwa [List.getElem?_set_ne (fun q => e q.symm)] at h
        · rwa [List.getElem?_set_ne (fun q => e q.symm)] at h
        · exact h
      exact ⟨h2, fun q => by omega⟩
theorem zk_has_set {ρ : Nat → Nat} {ls : List Value} {lsr : Array Slot} {nL i : Nat} {v : Value} (h : lv_has lsr nL ((i, zk_rv ρ v) :: (zk_lv ρ ls).filter (fun q => !(q.1 == i) && !(q.1 + 1 == i && q.2.category == 2)))) : lv_has lsr nL (zk_lv ρ (zk_set ls i v)) := by
  refine ⟨h.1, h.2.1, fun q hq => h.2.2 q ?_⟩
  obtain ⟨w, hw, hV, e⟩ := zk_mem_lv.mp hq
  obtain ⟨j, x⟩ := q
  simp only at hw e
  subst e
  unfold zk_set at hw
  by_cases ej : i = j
  · subst ej
    have hl := (List.getElem?_eq_some_iff.mp hw).1
    rw [List.length_set] at hl
    rw [List.getElem?_set_self hl] at hw
    cases hw
    exact List.mem_cons_self
  · rw [List.getElem?_set_ne ej] at hw
    obtain ⟨h1, h2⟩ := zk_kill_at hw hV
    refine List.mem_cons_of_mem _ (List.mem_filter.mpr ⟨zk_mem_lv.mpr ⟨w, h1, hV, rfl⟩, ?_⟩)
    have ej' : ¬ j = i := fun q => ej q.symm
    simp only [zk_rv_cat]
    by_cases q1 : j + 1 = i
    · have q2 : ¬ w.category = 2 := fun q => h2 ⟨q1, q⟩
      simp [ej', q2]
    · simp [ej', q1]
theorem zk_has_set2 {ρ : Nat → Nat} {ls : List Value} {lsr : Array Slot} {nL i : Nat} {v : Value} (h : lv_has lsr nL ((i, zk_rv ρ v) :: (zk_lv ρ ls).filter (fun q => !(q.1 == i) && (!(q.1 == i + 1) && !(q.1 + 1 == i && q.2.category == 2))))) : lv_has lsr nL (zk_lv ρ (zk_set2 ls i v)) := by
  refine ⟨h.1, h.2.1, fun q hq => h.2.2 q ?_⟩
  obtain ⟨w, hw, hV, e⟩ := zk_mem_lv.mp hq
  obtain ⟨j, x⟩ := q
  simp only at hw e
  subst e
  unfold zk_set2 at hw
  by_cases e1 : i + 1 = j
  · subst e1
    have hl := (List.getElem?_eq_some_iff.mp hw).1
    rw [List.length_set] at hl
    rw [List.getElem?_set_self hl] at hw
    cases hw
    cases hV
  rw [List.getElem?_set_ne e1] at hw
  unfold zk_set at hw
  by_cases ej : i = j
  · subst ej
    have hl := (List.getElem?_eq_some_iff.mp hw).1
    rw [List.length_set] at hl
    rw [List.getElem?_set_self hl] at hw
    cases hw
    exact List.mem_cons_self
  · rw [List.getElem?_set_ne ej] at hw
    obtain ⟨h1, h2⟩ := zk_kill_at hw hV
    refine List.mem_cons_of_mem _ (List.mem_filter.mpr ⟨zk_mem_lv.mpr ⟨w, h1, hV, rfl⟩, ?_⟩)
    have ej' : ¬ j = i := fun q => ej q.symm
    have e1' : ¬ j = i + 1 := fun q => e1 q.symm
    simp only [zk_rv_cat]
    by_cases q1 : j + 1 = i
    · have q2 : ¬ w.category = 2 := fun q => h2 ⟨q1, q⟩
      simp [ej', e1', q2]
    · simp [ej', e1', q1]
/-- a method's locals at its entry -/
def zk_ent (vs : List Value) : List Value := vs.flatMap (fun v => if v.category = 2 then [v, .retAddr 0] else [v])
def zk_loc (vs : List Value) (nL : Nat) : List Value := zk_ent vs ++ List.replicate (nL - (zk_ent vs).length) (.retAddr 0)
theorem zk_ent_args {ρ : Nat → Nat} : ∀ (vs : List Value) (b j : Nat) (v : Value), (zk_ent vs)[j]? = some v → zk_isV v = true → (b + j, zk_rv ρ v) ∈ lv_args b (vs.map (zk_rv ρ))
  | [], b, j, v, h, _ => by simp [zk_ent] at h
  | a :: vs, b, j, v, h, hV => by
    have ih := zk_ent_args (ρ := ρ) vs
    show _ ∈ (b, zk_rv ρ a) :: lv_args (if (zk_rv ρ a).category = 2 then b + 2 else b + 1) (vs.map (zk_rv ρ))
    rw [zk_rv_cat]
    have hs : zk_ent (a :: vs) = (if a.category = 2 then [a, .retAddr 0] else [a]) ++ zk_ent vs := by simp [zk_ent]
    rw [hs] at h
    by_cases hc : a.category = 2
    · rw [if_pos hc] at h ⊢
      match j, h with
      | 0, h => cases h; exact List.mem_cons_self
      | 1, h => cases h; cases hV
      | j + 2, h =>
        have := ih (b + 2) j v (by simpa using h) hV
        rw [show b + (j + 2) = b + 2 + j by omega]
        exact List.mem_cons_of_mem _ this
    · rw [if_neg hc] at h ⊢
      match j, h with
      | 0, h => cases h; exact List.mem_cons_self
      | j + 1, h =>
        have := ih (b + 1) j v (by simpa using h) hV
        rw [show b + (j + 1) = b + 1 + j by omega]
        exact List.mem_cons_of_mem _ this
theorem zk_has_loc {ρ : Nat → Nat} {vs : List Value} {lsr : Array Slot} {nL : Nat} (h : lv_has lsr nL (lv_args 0 (vs.map (zk_rv ρ)))) : lv_has lsr nL (zk_lv ρ (zk_loc vs nL)) := by
  refine ⟨h.1, h.2.1, fun q hq => h.2.2 q ?_⟩
  obtain ⟨w, hw, hV, e⟩ := zk_mem_lv.mp hq
  obtain ⟨j, x⟩ := q
  simp only at hw e
  subst e
  unfold zk_loc at hw
  by_cases hj : j < (zk_ent vs).length
  · rw [List.getElem?_append_left hj] at hw
    have := zk_ent_args (ρ := ρ) vs 0 j w hw hV
    rwa [Nat.zero_add] at this
  · rw [List.getElem?_append_right (by omega)] at hw
    have := List.mem_replicate.mp (List.mem_of_getElem? hw)
    rw [this.2] at hV
    cases hV
theorem zk_ent_len (ρ : Nat → Nat) (vs : List Value) : (lg_sl (vs.map (zk_rv ρ))).length = (zk_ent vs).length := by
  induction vs with
  | nil => rfl
  | cons a vs ih =>
    have h1 : lg_sl ((a :: vs).map (zk_rv ρ)) = (if (zk_rv ρ a).category = 2 then [Slot.val (zk_rv ρ a), .second] else [Slot.val (zk_rv ρ a)]) ++ lg_sl (vs.map (zk_rv ρ)) := by simp [lg_sl]
    have h2 : zk_ent (a :: vs) = (if a.category = 2 then [a, .retAddr 0] else [a]) ++ zk_ent vs := by simp [zk_ent]
    rw [h1, h2, zk_rv_cat, List.length_append, List.length_append, ih]
    by_cases hc : a.category = 2 <;> simp [hc]
