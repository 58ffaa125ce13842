/-! ===== INSTRUCTIONS: a rule each ===== -/
theorem zk_small : ∀ sh ∈ zk_shp, sh.2.1 < 2147483648 := by decide +kernel
theorem zk_sm {c : Nat} {sh : Nat × Nat × List Nat} (h : zk_shp[c]? = some sh) : sh.2.1 < 2 ^ 31 := zk_small sh (List.mem_of_getElem? h)
theorem zk_ix {i : Int32} {j n : Nat} (hi : i = nI j) (hj : j < n) (hn : n < 2 ^ 31) : vp_in i n ∧ i.toNatClampNeg = j := by
  subst hi
  exact ⟨vp_in_nI hj hn, nI_clamp (by omega)⟩
theorem zk_fs_set {ρ : Nat → Nat} {mu : Nat → Int32} {lm : Nat → Int64} {fs : List Nat} {k : Nat} (h : fs[k]? = some 0) (v : Int32) : (fs.mapIdx (fun k x => zk_fv ρ mu lm k x)).set k (.int v) = fs.mapIdx (fun j x => zk_fv ρ (fun j => if j = k then v else mu j) lm j x) := by
  apply List.ext_getElem?
  intro i
  have hl : k < fs.length := (List.getElem?_eq_some_iff.mp h).1
  rw [List.getElem?_set, List.getElem?_mapIdx, List.getElem?_mapIdx]
  by_cases e : k = i
  · subst e
    rw [if_pos rfl, if_pos (by rw [List.length_mapIdx]; exact hl), h]
    simp [zk_fv]
  · rw [if_neg e]
    have e2 : ¬ i = k := fun q => e q.symm
    cases hx : fs[i]? with
    | none => rfl
    | some x =>
      match x with
      | 0 => simp [zk_fv, e2]
      | 1 => simp [zk_fv]
      | n + 2 => simp [zk_fv]
theorem zk_fs_setL {ρ : Nat → Nat} {mu : Nat → Int32} {lm : Nat → Int64} {fs : List Nat} {k : Nat} (h : fs[k]? = some 1) (v : Int64) : (fs.mapIdx (fun k x => zk_fv ρ mu lm k x)).set k (.long v) = fs.mapIdx (fun j x => zk_fv ρ mu (fun j => if j = k then v else lm j) j x) := by
  apply List.ext_getElem?
  intro i
  have hl : k < fs.length := (List.getElem?_eq_some_iff.mp h).1
  rw [List.getElem?_set, List.getElem?_mapIdx, List.getElem?_mapIdx]
  by_cases e : k = i
  · subst e
    rw [if_pos rfl, if_pos (by rw [List.length_mapIdx]; exact hl), h]
    simp [zk_fv]
  · rw [if_neg e]
    have e2 : ¬ i = k := fun q => e q.symm
    cases hx : fs[i]? with
    | none => rfl
    | some x =>
      match x with
      | 0 => simp [zk_fv]
      | 1 => simp [zk_fv, e2]
      | n + 2 => simp [zk_fv]
/-- a field of the tables: own's constant idx is field k of class ci, of type ty, final or not -/
def zk_Fl (own : String) (idx ci k : Nat) (ty : FieldType) (fin : Bool) : Prop := ∃ (C : String) (T : u_T) (N : Nat) (ty0 : Nat → FieldType), vwCl[ci]? = some (C, T, N) ∧ k < N ∧ Cond.fieldLink own idx (T k).1 (T k).2.1 (T k).2.2.1 ∈ zk_tb ∧ (∀ w ∈ u_ws C T N, w ∈ zk_tb) ∧ (∀ k, k < N → parseFieldDescriptor (T k).2.2.1 = some (ty0 k)) ∧ (∀ a, a < N → ∀ b, b < N → a ≠ b → (T a).2.1 ≠ (T b).2.1) ∧ ty0 k = ty ∧ (T k).2.2.2 = fin
section ZI
variable {d : Nat} {own : String} {cc : ByteArray} {nL : Nat} {ret : Option FieldType} {sx : Option (Nat × (Nat → Int32))} {ls st : List Value} {mu : Mem} {lm : MemL} {Q : Option Value → Mem → MemL → Prop} {pc : Nat}
theorem zk_iconst {n : Int} {v : Int32} (hd : decode cc pc = .ok (.iconst n, 1)) (hv : Int32.ofInt n = v) (k : zk_M d own cc nL ret sx (pc + 1) ls (.int v :: st) mu lm Q) : zk_M d own cc nL ret sx pc ls st mu lm Q := by
  intro p l e R s m args below meth c D ρ γ A cells slots H locs Z lsr C Wd hls K
  obtain ⟨⟨hx, hb, hml, hown, hts⟩, c2, hK, hA, c5, c8⟩ := id C
  exact lv_iconst hx hb hd hv (k p l e R s m args below meth c D ρ γ A cells slots H locs Z lsr C Wd hls K)
theorem zk_bipush {n : Int} {v : Int32} (hd : decode cc pc = .ok (.bipush n, 2)) (hv : (Int8.ofInt n).toInt32 = v) (k : zk_M d own cc nL ret sx (pc + 2) ls (.int v :: st) mu lm Q) : zk_M d own cc nL ret sx pc ls st mu lm Q := by
  intro p l e R s m args below meth c D ρ γ A cells slots H locs Z lsr C Wd hls K
  obtain ⟨⟨hx, hb, hml, hown, hts⟩, c2, hK, hA, c5, c8⟩ := id C
  exact lv_bipush hx hb hd hv (k p l e R s m args below meth c D ρ γ A cells slots H locs Z lsr C Wd hls K)
theorem zk_sipush {n : Int} {v : Int32} (hd : decode cc pc = .ok (.sipush n, 3)) (hv : (Int16.ofInt n).toInt32 = v) (k : zk_M d own cc nL ret sx (pc + 3) ls (.int v :: st) mu lm Q) : zk_M d own cc nL ret sx pc ls st mu lm Q := by
  intro p l e R s m args below meth c D ρ γ A cells slots H locs Z lsr C Wd hls K
  obtain ⟨⟨hx, hb, hml, hown, hts⟩, c2, hK, hA, c5, c8⟩ := id C
  exact lv_sipush hx hb hd hv (k p l e R s m args below meth c D ρ γ A cells slots H locs Z lsr C Wd hls K)
theorem zk_lconst {n : Fin 2} {v : Int64} (hd : decode cc pc = .ok (.lconst n, 1)) (hv : Int64.ofNat (n : Nat) = v) (k : zk_M d own cc nL ret sx (pc + 1) ls (.long v :: st) mu lm Q) : zk_M d own cc nL ret sx pc ls st mu lm Q := by
  intro p l e R s m args below meth c D ρ γ A cells slots H locs Z lsr C Wd hls K
  obtain ⟨⟨hx, hb, hml, hown, hts⟩, c2, hK, hA, c5, c8⟩ := id C
  exact lv_lconst hx hb hd hv (k p l e R s m args below meth c D ρ γ A cells slots H locs Z lsr C Wd hls K)
theorem zk_null  (hd : decode cc pc = .ok (.aconst_null, 1)) (k : zk_M d own cc nL ret sx (pc + 1) ls (.null :: st) mu lm Q) : zk_M d own cc nL ret sx pc ls st mu lm Q := by
  intro p l e R s m args below meth c D ρ γ A cells slots H locs Z lsr C Wd hls K
  obtain ⟨⟨hx, hb, hml, hown, hts⟩, c2, hK, hA, c5, c8⟩ := id C
  exact lv_null hx hb hd (k p l e R s m args below meth c D ρ γ A cells slots H locs Z lsr C Wd hls K)
theorem zk_ldc {idx : Nat} {v : Int32} (hd : decode cc pc = .ok (.ldc idx, 2)) (hv : Cond.constant own idx v ∈ zk_tb) (k : zk_M d own cc nL ret sx (pc + 2) ls (.int v :: st) mu lm Q) : zk_M d own cc nL ret sx pc ls st mu lm Q := by
  intro p l e R s m args below meth c D ρ γ A cells slots H locs Z lsr C Wd hls K
  obtain ⟨⟨hx, hb, hml, hown, hts⟩, c2, hK, hA, c5, c8⟩ := id C
  exact lv_ldc hx hb hown (hts _ hv) hd (k p l e R s m args below meth c D ρ γ A cells slots H locs Z lsr C Wd hls K)
theorem zk_ldcw {idx : Nat} {v : Int32} (hd : decode cc pc = .ok (.ldc_w idx, 3)) (hv : Cond.constant own idx v ∈ zk_tb) (k : zk_M d own cc nL ret sx (pc + 3) ls (.int v :: st) mu lm Q) : zk_M d own cc nL ret sx pc ls st mu lm Q := by
  intro p l e R s m args below meth c D ρ γ A cells slots H locs Z lsr C Wd hls K
  obtain ⟨⟨hx, hb, hml, hown, hts⟩, c2, hK, hA, c5, c8⟩ := id C
  exact lv_ldcw hx hb hown (hts _ hv) hd (k p l e R s m args below meth c D ρ γ A cells slots H locs Z lsr C Wd hls K)
theorem zk_ldc2 {idx : Nat} {v : Int64} (hd : decode cc pc = .ok (.ldc2_w idx, 3)) (hv : Cond.constantLong own idx v ∈ zk_tb) (k : zk_M d own cc nL ret sx (pc + 3) ls (.long v :: st) mu lm Q) : zk_M d own cc nL ret sx pc ls st mu lm Q := by
  intro p l e R s m args below meth c D ρ γ A cells slots H locs Z lsr C Wd hls K
  obtain ⟨⟨hx, hb, hml, hown, hts⟩, c2, hK, hA, c5, c8⟩ := id C
  exact lv_ldc2 hx hb hown (hts _ hv) hd (k p l e R s m args below meth c D ρ γ A cells slots H locs Z lsr C Wd hls K)
theorem zk_iload_n {k : Fin 4} {x : Int32} (i : Nat) (hd : decode cc pc = .ok (.iload_n k, 1)) (hi : (k : Nat) = i) (hv : ls[i]? = some (.int x)) (k : zk_M d own cc nL ret sx (pc + 1) ls (.int x :: st) mu lm Q) : zk_M d own cc nL ret sx pc ls st mu lm Q := by
  intro p l e R s m args below meth c D ρ γ A cells slots H locs Z lsr C Wd hls K
  obtain ⟨⟨hx, hb, hml, hown, hts⟩, c2, hK, hA, c5, c8⟩ := id C
  exact lv_iload_n hx hb hd hi (zk_at hls hv rfl) (k p l e R s m args below meth c D ρ γ A cells slots H locs Z lsr C Wd hls K)
theorem zk_iload {i : Nat} {x : Int32} (hd : decode cc pc = .ok (.iload i, 2)) (hv : ls[i]? = some (.int x)) (k : zk_M d own cc nL ret sx (pc + 2) ls (.int x :: st) mu lm Q) : zk_M d own cc nL ret sx pc ls st mu lm Q := by
  intro p l e R s m args below meth c D ρ γ A cells slots H locs Z lsr C Wd hls K
  obtain ⟨⟨hx, hb, hml, hown, hts⟩, c2, hK, hA, c5, c8⟩ := id C
  exact lv_iload hx hb hd (zk_at hls hv rfl) (k p l e R s m args below meth c D ρ γ A cells slots H locs Z lsr C Wd hls K)
theorem zk_lload_n {k : Fin 4} {x : Int64} (i : Nat) (hd : decode cc pc = .ok (.lload_n k, 1)) (hi : (k : Nat) = i) (hv : ls[i]? = some (.long x)) (k : zk_M d own cc nL ret sx (pc + 1) ls (.long x :: st) mu lm Q) : zk_M d own cc nL ret sx pc ls st mu lm Q := by
  intro p l e R s m args below meth c D ρ γ A cells slots H locs Z lsr C Wd hls K
  obtain ⟨⟨hx, hb, hml, hown, hts⟩, c2, hK, hA, c5, c8⟩ := id C
  exact lv_lload_n hx hb hd hi (zk_at hls hv rfl) (k p l e R s m args below meth c D ρ γ A cells slots H locs Z lsr C Wd hls K)
theorem zk_lload {i : Nat} {x : Int64} (hd : decode cc pc = .ok (.lload i, 2)) (hv : ls[i]? = some (.long x)) (k : zk_M d own cc nL ret sx (pc + 2) ls (.long x :: st) mu lm Q) : zk_M d own cc nL ret sx pc ls st mu lm Q := by
  intro p l e R s m args below meth c D ρ γ A cells slots H locs Z lsr C Wd hls K
  obtain ⟨⟨hx, hb, hml, hown, hts⟩, c2, hK, hA, c5, c8⟩ := id C
  exact lv_lload hx hb hd (zk_at hls hv rfl) (k p l e R s m args below meth c D ρ γ A cells slots H locs Z lsr C Wd hls K)
theorem zk_aload_n {k : Fin 4} {x : Nat} (i : Nat) (hd : decode cc pc = .ok (.aload_n k, 1)) (hi : (k : Nat) = i) (hv : ls[i]? = some (.ref x)) (k : zk_M d own cc nL ret sx (pc + 1) ls (.ref x :: st) mu lm Q) : zk_M d own cc nL ret sx pc ls st mu lm Q := by
  intro p l e R s m args below meth c D ρ γ A cells slots H locs Z lsr C Wd hls K
  obtain ⟨⟨hx, hb, hml, hown, hts⟩, c2, hK, hA, c5, c8⟩ := id C
  exact lv_aload_n hx hb hd hi (zk_at hls hv rfl) (k p l e R s m args below meth c D ρ γ A cells slots H locs Z lsr C Wd hls K)
theorem zk_aload {i : Nat} {x : Nat} (hd : decode cc pc = .ok (.aload i, 2)) (hv : ls[i]? = some (.ref x)) (k : zk_M d own cc nL ret sx (pc + 2) ls (.ref x :: st) mu lm Q) : zk_M d own cc nL ret sx pc ls st mu lm Q := by
  intro p l e R s m args below meth c D ρ γ A cells slots H locs Z lsr C Wd hls K
  obtain ⟨⟨hx, hb, hml, hown, hts⟩, c2, hK, hA, c5, c8⟩ := id C
  exact lv_aload hx hb hd (zk_at hls hv rfl) (k p l e R s m args below meth c D ρ γ A cells slots H locs Z lsr C Wd hls K)
theorem zk_aload_nN {k : Fin 4} (i : Nat) (hd : decode cc pc = .ok (.aload_n k, 1)) (hi : (k : Nat) = i) (hv : ls[i]? = some .null) (k : zk_M d own cc nL ret sx (pc + 1) ls (.null :: st) mu lm Q) : zk_M d own cc nL ret sx pc ls st mu lm Q := by
  intro p l e R s m args below meth c D ρ γ A cells slots H locs Z lsr C Wd hls K
  obtain ⟨⟨hx, hb, hml, hown, hts⟩, c2, hK, hA, c5, c8⟩ := id C
  exact lv_aload_nN hx hb hd hi (zk_at hls hv rfl) (k p l e R s m args below meth c D ρ γ A cells slots H locs Z lsr C Wd hls K)
theorem zk_aloadN {i : Nat} (hd : decode cc pc = .ok (.aload i, 2)) (hv : ls[i]? = some .null) (k : zk_M d own cc nL ret sx (pc + 2) ls (.null :: st) mu lm Q) : zk_M d own cc nL ret sx pc ls st mu lm Q := by
  intro p l e R s m args below meth c D ρ γ A cells slots H locs Z lsr C Wd hls K
  obtain ⟨⟨hx, hb, hml, hown, hts⟩, c2, hK, hA, c5, c8⟩ := id C
  exact lv_aloadN hx hb hd (zk_at hls hv rfl) (k p l e R s m args below meth c D ρ γ A cells slots H locs Z lsr C Wd hls K)
theorem zk_istore_n {k : Fin 4} (i : Nat) {x : Int32} (hd : decode cc pc = .ok (.istore_n k, 1)) (hi : (k : Nat) = i) (hn : i < nL) (k : zk_M d own cc nL ret sx (pc + 1) (zk_set ls i (.int x)) st mu lm Q) : zk_M d own cc nL ret sx pc ls (.int x :: st) mu lm Q := by
  intro p l e R s m args below meth c D ρ γ A cells slots H locs Z lsr C Wd hls K
  obtain ⟨⟨hx, hb, hml, hown, hts⟩, c2, hK, hA, c5, c8⟩ := id C
  exact lv_istore_n hx hb hd hi hls hn rfl (fun lsr2 hl2 => (k p l e R s m args below meth c D ρ γ A cells slots H locs Z lsr2 C Wd (zk_has_set (v := .int x) hl2) K))
theorem zk_istore (i : Nat) {x : Int32} (hd : decode cc pc = .ok (.istore i, 2)) (hn : i < nL) (k : zk_M d own cc nL ret sx (pc + 2) (zk_set ls i (.int x)) st mu lm Q) : zk_M d own cc nL ret sx pc ls (.int x :: st) mu lm Q := by
  intro p l e R s m args below meth c D ρ γ A cells slots H locs Z lsr C Wd hls K
  obtain ⟨⟨hx, hb, hml, hown, hts⟩, c2, hK, hA, c5, c8⟩ := id C
  exact lv_istore hx hb hd hls hn rfl (fun lsr2 hl2 => (k p l e R s m args below meth c D ρ γ A cells slots H locs Z lsr2 C Wd (zk_has_set (v := .int x) hl2) K))
theorem zk_lstore_n {k : Fin 4} (i : Nat) {x : Int64} (hd : decode cc pc = .ok (.lstore_n k, 1)) (hi : (k : Nat) = i) (hn : i + 1 < nL) (k : zk_M d own cc nL ret sx (pc + 1) (zk_set2 ls i (.long x)) st mu lm Q) : zk_M d own cc nL ret sx pc ls (.long x :: st) mu lm Q := by
  intro p l e R s m args below meth c D ρ γ A cells slots H locs Z lsr C Wd hls K
  obtain ⟨⟨hx, hb, hml, hown, hts⟩, c2, hK, hA, c5, c8⟩ := id C
  exact lv_lstore_n hx hb hd hi hls hn rfl (fun lsr2 hl2 => (k p l e R s m args below meth c D ρ γ A cells slots H locs Z lsr2 C Wd (zk_has_set2 (v := .long x) hl2) K))
theorem zk_lstore (i : Nat) {x : Int64} (hd : decode cc pc = .ok (.lstore i, 2)) (hn : i + 1 < nL) (k : zk_M d own cc nL ret sx (pc + 2) (zk_set2 ls i (.long x)) st mu lm Q) : zk_M d own cc nL ret sx pc ls (.long x :: st) mu lm Q := by
  intro p l e R s m args below meth c D ρ γ A cells slots H locs Z lsr C Wd hls K
  obtain ⟨⟨hx, hb, hml, hown, hts⟩, c2, hK, hA, c5, c8⟩ := id C
  exact lv_lstore hx hb hd hls hn rfl (fun lsr2 hl2 => (k p l e R s m args below meth c D ρ γ A cells slots H locs Z lsr2 C Wd (zk_has_set2 (v := .long x) hl2) K))
theorem zk_astore_n {k : Fin 4} (i : Nat) {x : Nat} (hd : decode cc pc = .ok (.astore_n k, 1)) (hi : (k : Nat) = i) (hn : i < nL) (k : zk_M d own cc nL ret sx (pc + 1) (zk_set ls i (.ref x)) st mu lm Q) : zk_M d own cc nL ret sx pc ls (.ref x :: st) mu lm Q := by
  intro p l e R s m args below meth c D ρ γ A cells slots H locs Z lsr C Wd hls K
  obtain ⟨⟨hx, hb, hml, hown, hts⟩, c2, hK, hA, c5, c8⟩ := id C
  exact lv_astore_n hx hb hd hi hls hn rfl (fun lsr2 hl2 => (k p l e R s m args below meth c D ρ γ A cells slots H locs Z lsr2 C Wd (zk_has_set (v := .ref x) hl2) K))
theorem zk_astore (i : Nat) {x : Nat} (hd : decode cc pc = .ok (.astore i, 2)) (hn : i < nL) (k : zk_M d own cc nL ret sx (pc + 2) (zk_set ls i (.ref x)) st mu lm Q) : zk_M d own cc nL ret sx pc ls (.ref x :: st) mu lm Q := by
  intro p l e R s m args below meth c D ρ γ A cells slots H locs Z lsr C Wd hls K
  obtain ⟨⟨hx, hb, hml, hown, hts⟩, c2, hK, hA, c5, c8⟩ := id C
  exact lv_astore hx hb hd hls hn rfl (fun lsr2 hl2 => (k p l e R s m args below meth c D ρ γ A cells slots H locs Z lsr2 C Wd (zk_has_set (v := .ref x) hl2) K))
theorem zk_astore_nN {k : Fin 4} (i : Nat) (hd : decode cc pc = .ok (.astore_n k, 1)) (hi : (k : Nat) = i) (hn : i < nL) (k : zk_M d own cc nL ret sx (pc + 1) (zk_set ls i .null) st mu lm Q) : zk_M d own cc nL ret sx pc ls (.null :: st) mu lm Q := by
  intro p l e R s m args below meth c D ρ γ A cells slots H locs Z lsr C Wd hls K
  obtain ⟨⟨hx, hb, hml, hown, hts⟩, c2, hK, hA, c5, c8⟩ := id C
  exact lv_astore_nN hx hb hd hi hls hn rfl (fun lsr2 hl2 => (k p l e R s m args below meth c D ρ γ A cells slots H locs Z lsr2 C Wd (zk_has_set (v := .null) hl2) K))
theorem zk_astoreN (i : Nat) (hd : decode cc pc = .ok (.astore i, 2)) (hn : i < nL) (k : zk_M d own cc nL ret sx (pc + 2) (zk_set ls i .null) st mu lm Q) : zk_M d own cc nL ret sx pc ls (.null :: st) mu lm Q := by
  intro p l e R s m args below meth c D ρ γ A cells slots H locs Z lsr C Wd hls K
  obtain ⟨⟨hx, hb, hml, hown, hts⟩, c2, hK, hA, c5, c8⟩ := id C
  exact lv_astoreN hx hb hd hls hn rfl (fun lsr2 hl2 => (k p l e R s m args below meth c D ρ γ A cells slots H locs Z lsr2 C Wd (zk_has_set (v := .null) hl2) K))
theorem zk_iinc {i : Nat} {n : Int} {x v : Int32} (hd : decode cc pc = .ok (.iinc i n, 3)) (hv : ls[i]? = some (.int x)) (he : x + Int32.ofInt n = v) (hn : i < nL) (k : zk_M d own cc nL ret sx (pc + 3) (zk_set ls i (.int v)) st mu lm Q) : zk_M d own cc nL ret sx pc ls st mu lm Q := by
  intro p l e R s m args below meth c D ρ γ A cells slots H locs Z lsr C Wd hls K
  obtain ⟨⟨hx, hb, hml, hown, hts⟩, c2, hK, hA, c5, c8⟩ := id C
  obtain ⟨j, hj⟩ := List.getElem?_of_mem (zk_mem_lv (ρ := ρ) (q := (i, .int x)) |>.mpr ⟨.int x, hv, rfl, rfl⟩)
  exact lv_iinc hx hb hd hls hj he hn rfl (fun lsr2 hl2 => (k p l e R s m args below meth c D ρ γ A cells slots H locs Z lsr2 C Wd (zk_has_set (v := .int v) hl2) K))
theorem zk_iadd {x y : Int32} (hd : decode cc pc = .ok (.iadd, 1)) (k : zk_M d own cc nL ret sx (pc + 1) ls (.int (x + y) :: st) mu lm Q) : zk_M d own cc nL ret sx pc ls (.int y :: .int x :: st) mu lm Q := by
  intro p l e R s m args below meth c D ρ γ A cells slots H locs Z lsr C Wd hls K
  obtain ⟨⟨hx, hb, hml, hown, hts⟩, c2, hK, hA, c5, c8⟩ := id C
  exact lv_iadd hx hb hd (k p l e R s m args below meth c D ρ γ A cells slots H locs Z lsr C Wd hls K)
theorem zk_isub {x y : Int32} (hd : decode cc pc = .ok (.isub, 1)) (k : zk_M d own cc nL ret sx (pc + 1) ls (.int (x - y) :: st) mu lm Q) : zk_M d own cc nL ret sx pc ls (.int y :: .int x :: st) mu lm Q := by
  intro p l e R s m args below meth c D ρ γ A cells slots H locs Z lsr C Wd hls K
  obtain ⟨⟨hx, hb, hml, hown, hts⟩, c2, hK, hA, c5, c8⟩ := id C
  exact lv_isub hx hb hd (k p l e R s m args below meth c D ρ γ A cells slots H locs Z lsr C Wd hls K)
theorem zk_imul {x y : Int32} (hd : decode cc pc = .ok (.imul, 1)) (k : zk_M d own cc nL ret sx (pc + 1) ls (.int (x * y) :: st) mu lm Q) : zk_M d own cc nL ret sx pc ls (.int y :: .int x :: st) mu lm Q := by
  intro p l e R s m args below meth c D ρ γ A cells slots H locs Z lsr C Wd hls K
  obtain ⟨⟨hx, hb, hml, hown, hts⟩, c2, hK, hA, c5, c8⟩ := id C
  exact lv_imul hx hb hd (k p l e R s m args below meth c D ρ γ A cells slots H locs Z lsr C Wd hls K)
theorem zk_iand {x y : Int32} (hd : decode cc pc = .ok (.iand, 1)) (k : zk_M d own cc nL ret sx (pc + 1) ls (.int (x &&& y) :: st) mu lm Q) : zk_M d own cc nL ret sx pc ls (.int y :: .int x :: st) mu lm Q := by
  intro p l e R s m args below meth c D ρ γ A cells slots H locs Z lsr C Wd hls K
  obtain ⟨⟨hx, hb, hml, hown, hts⟩, c2, hK, hA, c5, c8⟩ := id C
  exact lv_iand hx hb hd (k p l e R s m args below meth c D ρ γ A cells slots H locs Z lsr C Wd hls K)
theorem zk_ior {x y : Int32} (hd : decode cc pc = .ok (.ior, 1)) (k : zk_M d own cc nL ret sx (pc + 1) ls (.int (x ||| y) :: st) mu lm Q) : zk_M d own cc nL ret sx pc ls (.int y :: .int x :: st) mu lm Q := by
  intro p l e R s m args below meth c D ρ γ A cells slots H locs Z lsr C Wd hls K
  obtain ⟨⟨hx, hb, hml, hown, hts⟩, c2, hK, hA, c5, c8⟩ := id C
  exact lv_ior hx hb hd (k p l e R s m args below meth c D ρ γ A cells slots H locs Z lsr C Wd hls K)
theorem zk_ishl {x y : Int32} (hd : decode cc pc = .ok (.ishl, 1)) (k : zk_M d own cc nL ret sx (pc + 1) ls (.int (x <<< (y &&& 31)) :: st) mu lm Q) : zk_M d own cc nL ret sx pc ls (.int y :: .int x :: st) mu lm Q := by
  intro p l e R s m args below meth c D ρ γ A cells slots H locs Z lsr C Wd hls K
  obtain ⟨⟨hx, hb, hml, hown, hts⟩, c2, hK, hA, c5, c8⟩ := id C
  exact lv_ishl hx hb hd (k p l e R s m args below meth c D ρ γ A cells slots H locs Z lsr C Wd hls K)
theorem zk_ishr {x y : Int32} (hd : decode cc pc = .ok (.ishr, 1)) (k : zk_M d own cc nL ret sx (pc + 1) ls (.int (x >>> (y &&& 31)) :: st) mu lm Q) : zk_M d own cc nL ret sx pc ls (.int y :: .int x :: st) mu lm Q := by
  intro p l e R s m args below meth c D ρ γ A cells slots H locs Z lsr C Wd hls K
  obtain ⟨⟨hx, hb, hml, hown, hts⟩, c2, hK, hA, c5, c8⟩ := id C
  exact lv_ishr hx hb hd (k p l e R s m args below meth c D ρ γ A cells slots H locs Z lsr C Wd hls K)
theorem zk_iushr {x y : Int32} (hd : decode cc pc = .ok (.iushr, 1)) (k : zk_M d own cc nL ret sx (pc + 1) ls (.int (x.toUInt32 >>> (y.toUInt32 &&& Int32.toUInt32 31)).toInt32 :: st) mu lm Q) : zk_M d own cc nL ret sx pc ls (.int y :: .int x :: st) mu lm Q := by
  intro p l e R s m args below meth c D ρ γ A cells slots H locs Z lsr C Wd hls K
  obtain ⟨⟨hx, hb, hml, hown, hts⟩, c2, hK, hA, c5, c8⟩ := id C
  exact lv_iushr hx hb hd rfl (k p l e R s m args below meth c D ρ γ A cells slots H locs Z lsr C Wd hls K)
theorem zk_idiv {x y : Int32} (hd : decode cc pc = .ok (.idiv, 1)) (hne : ¬ y = 0) (k : zk_M d own cc nL ret sx (pc + 1) ls (.int (x / y) :: st) mu lm Q) : zk_M d own cc nL ret sx pc ls (.int y :: .int x :: st) mu lm Q := by
  intro p l e R s m args below meth c D ρ γ A cells slots H locs Z lsr C Wd hls K
  obtain ⟨⟨hx, hb, hml, hown, hts⟩, c2, hK, hA, c5, c8⟩ := id C
  exact lv_idiv hx hb hd hne (k p l e R s m args below meth c D ρ γ A cells slots H locs Z lsr C Wd hls K)
theorem zk_irem {x y : Int32} (hd : decode cc pc = .ok (.irem, 1)) (hne : ¬ y = 0) (k : zk_M d own cc nL ret sx (pc + 1) ls (.int (x - x / y * y) :: st) mu lm Q) : zk_M d own cc nL ret sx pc ls (.int y :: .int x :: st) mu lm Q := by
  intro p l e R s m args below meth c D ρ γ A cells slots H locs Z lsr C Wd hls K
  obtain ⟨⟨hx, hb, hml, hown, hts⟩, c2, hK, hA, c5, c8⟩ := id C
  exact lv_irem hx hb hd hne (k p l e R s m args below meth c D ρ γ A cells slots H locs Z lsr C Wd hls K)
theorem zk_ladd {x y : Int64} (hd : decode cc pc = .ok (.ladd, 1)) (k : zk_M d own cc nL ret sx (pc + 1) ls (.long (x + y) :: st) mu lm Q) : zk_M d own cc nL ret sx pc ls (.long y :: .long x :: st) mu lm Q := by
  intro p l e R s m args below meth c D ρ γ A cells slots H locs Z lsr C Wd hls K
  obtain ⟨⟨hx, hb, hml, hown, hts⟩, c2, hK, hA, c5, c8⟩ := id C
  exact lv_ladd hx hb hd (k p l e R s m args below meth c D ρ γ A cells slots H locs Z lsr C Wd hls K)
theorem zk_lsub {x y : Int64} (hd : decode cc pc = .ok (.lsub, 1)) (k : zk_M d own cc nL ret sx (pc + 1) ls (.long (x - y) :: st) mu lm Q) : zk_M d own cc nL ret sx pc ls (.long y :: .long x :: st) mu lm Q := by
  intro p l e R s m args below meth c D ρ γ A cells slots H locs Z lsr C Wd hls K
  obtain ⟨⟨hx, hb, hml, hown, hts⟩, c2, hK, hA, c5, c8⟩ := id C
  exact lv_lsub hx hb hd (k p l e R s m args below meth c D ρ γ A cells slots H locs Z lsr C Wd hls K)
theorem zk_lmul {x y : Int64} (hd : decode cc pc = .ok (.lmul, 1)) (k : zk_M d own cc nL ret sx (pc + 1) ls (.long (x * y) :: st) mu lm Q) : zk_M d own cc nL ret sx pc ls (.long y :: .long x :: st) mu lm Q := by
  intro p l e R s m args below meth c D ρ γ A cells slots H locs Z lsr C Wd hls K
  obtain ⟨⟨hx, hb, hml, hown, hts⟩, c2, hK, hA, c5, c8⟩ := id C
  exact lv_lmul hx hb hd (k p l e R s m args below meth c D ρ γ A cells slots H locs Z lsr C Wd hls K)
theorem zk_ldiv {x y : Int64} (hd : decode cc pc = .ok (.ldiv, 1)) (hne : ¬ y = 0) (k : zk_M d own cc nL ret sx (pc + 1) ls (.long (x / y) :: st) mu lm Q) : zk_M d own cc nL ret sx pc ls (.long y :: .long x :: st) mu lm Q := by
  intro p l e R s m args below meth c D ρ γ A cells slots H locs Z lsr C Wd hls K
  obtain ⟨⟨hx, hb, hml, hown, hts⟩, c2, hK, hA, c5, c8⟩ := id C
  exact lv_ldiv hx hb hd hne (k p l e R s m args below meth c D ρ γ A cells slots H locs Z lsr C Wd hls K)
theorem zk_lrem {x y : Int64} (hd : decode cc pc = .ok (.lrem, 1)) (hne : ¬ y = 0) (k : zk_M d own cc nL ret sx (pc + 1) ls (.long (x - x / y * y) :: st) mu lm Q) : zk_M d own cc nL ret sx pc ls (.long y :: .long x :: st) mu lm Q := by
  intro p l e R s m args below meth c D ρ γ A cells slots H locs Z lsr C Wd hls K
  obtain ⟨⟨hx, hb, hml, hown, hts⟩, c2, hK, hA, c5, c8⟩ := id C
  exact lv_lrem hx hb hd hne (k p l e R s m args below meth c D ρ γ A cells slots H locs Z lsr C Wd hls K)
theorem zk_lcmp {x y : Int64} (hd : decode cc pc = .ok (.lcmp, 1)) (k : zk_M d own cc nL ret sx (pc + 1) ls (.int (lg_cmp x y) :: st) mu lm Q) : zk_M d own cc nL ret sx pc ls (.long y :: .long x :: st) mu lm Q := by
  intro p l e R s m args below meth c D ρ γ A cells slots H locs Z lsr C Wd hls K
  obtain ⟨⟨hx, hb, hml, hown, hts⟩, c2, hK, hA, c5, c8⟩ := id C
  exact W.lcmp hx hb hd (k p l e R s m args below meth c D ρ γ A cells slots H locs Z lsr C Wd hls K)
theorem zk_i2l {x : Int32} (hd : decode cc pc = .ok (.i2l, 1)) (k : zk_M d own cc nL ret sx (pc + 1) ls (.long x.toInt64 :: st) mu lm Q) : zk_M d own cc nL ret sx pc ls (.int x :: st) mu lm Q := by
  intro p l e R s m args below meth c D ρ γ A cells slots H locs Z lsr C Wd hls K
  obtain ⟨⟨hx, hb, hml, hown, hts⟩, c2, hK, hA, c5, c8⟩ := id C
  exact lv_i2l hx hb hd rfl (k p l e R s m args below meth c D ρ γ A cells slots H locs Z lsr C Wd hls K)
theorem zk_l2i {x : Int64} (hd : decode cc pc = .ok (.l2i, 1)) (k : zk_M d own cc nL ret sx (pc + 1) ls (.int x.toInt32 :: st) mu lm Q) : zk_M d own cc nL ret sx pc ls (.long x :: st) mu lm Q := by
  intro p l e R s m args below meth c D ρ γ A cells slots H locs Z lsr C Wd hls K
  obtain ⟨⟨hx, hb, hml, hown, hts⟩, c2, hK, hA, c5, c8⟩ := id C
  exact lv_l2i hx hb hd rfl (k p l e R s m args below meth c D ρ γ A cells slots H locs Z lsr C Wd hls K)
theorem zk_i2b {x : Int32} (hd : decode cc pc = .ok (.i2b, 1)) (k : zk_M d own cc nL ret sx (pc + 1) ls (.int x.toInt8.toInt32 :: st) mu lm Q) : zk_M d own cc nL ret sx pc ls (.int x :: st) mu lm Q := by
  intro p l e R s m args below meth c D ρ γ A cells slots H locs Z lsr C Wd hls K
  obtain ⟨⟨hx, hb, hml, hown, hts⟩, c2, hK, hA, c5, c8⟩ := id C
  exact lv_i2b hx hb hd rfl (k p l e R s m args below meth c D ρ γ A cells slots H locs Z lsr C Wd hls K)
theorem zk_dup {v : Value} (hd : decode cc pc = .ok (.dup, 1)) (hv : v.category = 1) (k : zk_M d own cc nL ret sx (pc + 1) ls (v :: v :: st) mu lm Q) : zk_M d own cc nL ret sx pc ls (v :: st) mu lm Q := by
  intro p l e R s m args below meth c D ρ γ A cells slots H locs Z lsr C Wd hls K
  obtain ⟨⟨hx, hb, hml, hown, hts⟩, c2, hK, hA, c5, c8⟩ := id C
  exact lv_dup hx hb hd (by rw [zk_rv_cat]; exact hv) (k p l e R s m args below meth c D ρ γ A cells slots H locs Z lsr C Wd hls K)
theorem zk_dup2 {v w : Value} (hd : decode cc pc = .ok (.dup2, 1)) (hv : v.category = 1) (hw : w.category = 1) (k : zk_M d own cc nL ret sx (pc + 1) ls (v :: w :: v :: w :: st) mu lm Q) : zk_M d own cc nL ret sx pc ls (v :: w :: st) mu lm Q := by
  intro p l e R s m args below meth c D ρ γ A cells slots H locs Z lsr C Wd hls K
  obtain ⟨⟨hx, hb, hml, hown, hts⟩, c2, hK, hA, c5, c8⟩ := id C
  exact lv_dup2_11 hx hb hd (by rw [zk_rv_cat]; exact hv) (by rw [zk_rv_cat]; exact hw) (k p l e R s m args below meth c D ρ γ A cells slots H locs Z lsr C Wd hls K)
theorem zk_pop {v : Value} (hd : decode cc pc = .ok (.pop, 1)) (hv : v.category = 1) (k : zk_M d own cc nL ret sx (pc + 1) ls st mu lm Q) : zk_M d own cc nL ret sx pc ls (v :: st) mu lm Q := by
  intro p l e R s m args below meth c D ρ γ A cells slots H locs Z lsr C Wd hls K
  obtain ⟨⟨hx, hb, hml, hown, hts⟩, c2, hK, hA, c5, c8⟩ := id C
  exact lv_pop hx hb hd (by rw [zk_rv_cat]; exact hv) (k p l e R s m args below meth c D ρ γ A cells slots H locs Z lsr C Wd hls K)
theorem zk_if_eq {x : Int32} {off : Int} (tgt : Nat) (hd : decode cc pc = .ok (.ifCond .eq off, 3)) (ht : (pc : Int) + off = (tgt : Int)) (kt : x = 0 → zk_M d own cc nL ret sx tgt ls st mu lm Q) (kf : ¬ x = 0 → zk_M d own cc nL ret sx (pc + 3) ls st mu lm Q) : zk_M d own cc nL ret sx pc ls (.int x :: st) mu lm Q := by
  intro p l e R s m args below meth cd D ρ γ A cells slots H locs Z lsr C Wd hls K
  obtain ⟨⟨hx, hb, hml, hown, hts⟩, c2, hK, hA, c5, c8⟩ := id C
  exact lv_if_eq hx hb hd ht (fun q => (kt q p l e R s m args below meth cd D ρ γ A cells slots H locs Z lsr C Wd hls K)) (fun q => (kf q p l e R s m args below meth cd D ρ γ A cells slots H locs Z lsr C Wd hls K))
theorem zk_icmp_eq {x y : Int32} {off : Int} (tgt : Nat) (hd : decode cc pc = .ok (.if_icmp .eq off, 3)) (ht : (pc : Int) + off = (tgt : Int)) (kt : x = y → zk_M d own cc nL ret sx tgt ls st mu lm Q) (kf : ¬ x = y → zk_M d own cc nL ret sx (pc + 3) ls st mu lm Q) : zk_M d own cc nL ret sx pc ls (.int y :: .int x :: st) mu lm Q := by
  intro p l e R s m args below meth cd D ρ γ A cells slots H locs Z lsr C Wd hls K
  obtain ⟨⟨hx, hb, hml, hown, hts⟩, c2, hK, hA, c5, c8⟩ := id C
  exact lv_icmp_eq hx hb hd ht (fun q => (kt q p l e R s m args below meth cd D ρ γ A cells slots H locs Z lsr C Wd hls K)) (fun q => (kf q p l e R s m args below meth cd D ρ γ A cells slots H locs Z lsr C Wd hls K))
theorem zk_if_ne {x : Int32} {off : Int} (tgt : Nat) (hd : decode cc pc = .ok (.ifCond .ne off, 3)) (ht : (pc : Int) + off = (tgt : Int)) (kt : ¬ x = 0 → zk_M d own cc nL ret sx tgt ls st mu lm Q) (kf : x = 0 → zk_M d own cc nL ret sx (pc + 3) ls st mu lm Q) : zk_M d own cc nL ret sx pc ls (.int x :: st) mu lm Q := by
  intro p l e R s m args below meth cd D ρ γ A cells slots H locs Z lsr C Wd hls K
  obtain ⟨⟨hx, hb, hml, hown, hts⟩, c2, hK, hA, c5, c8⟩ := id C
  exact lv_if_ne hx hb hd ht (fun q => (kt q p l e R s m args below meth cd D ρ γ A cells slots H locs Z lsr C Wd hls K)) (fun q => (kf q p l e R s m args below meth cd D ρ γ A cells slots H locs Z lsr C Wd hls K))
theorem zk_icmp_ne {x y : Int32} {off : Int} (tgt : Nat) (hd : decode cc pc = .ok (.if_icmp .ne off, 3)) (ht : (pc : Int) + off = (tgt : Int)) (kt : ¬ x = y → zk_M d own cc nL ret sx tgt ls st mu lm Q) (kf : x = y → zk_M d own cc nL ret sx (pc + 3) ls st mu lm Q) : zk_M d own cc nL ret sx pc ls (.int y :: .int x :: st) mu lm Q := by
  intro p l e R s m args below meth cd D ρ γ A cells slots H locs Z lsr C Wd hls K
  obtain ⟨⟨hx, hb, hml, hown, hts⟩, c2, hK, hA, c5, c8⟩ := id C
  exact lv_icmp_ne hx hb hd ht (fun q => (kt q p l e R s m args below meth cd D ρ γ A cells slots H locs Z lsr C Wd hls K)) (fun q => (kf q p l e R s m args below meth cd D ρ γ A cells slots H locs Z lsr C Wd hls K))
theorem zk_if_lt {x : Int32} {off : Int} (tgt : Nat) (hd : decode cc pc = .ok (.ifCond .lt off, 3)) (ht : (pc : Int) + off = (tgt : Int)) (kt : x < 0 → zk_M d own cc nL ret sx tgt ls st mu lm Q) (kf : ¬ x < 0 → zk_M d own cc nL ret sx (pc + 3) ls st mu lm Q) : zk_M d own cc nL ret sx pc ls (.int x :: st) mu lm Q := by
  intro p l e R s m args below meth cd D ρ γ A cells slots H locs Z lsr C Wd hls K
  obtain ⟨⟨hx, hb, hml, hown, hts⟩, c2, hK, hA, c5, c8⟩ := id C
  exact lv_if_lt hx hb hd ht (fun q => (kt q p l e R s m args below meth cd D ρ γ A cells slots H locs Z lsr C Wd hls K)) (fun q => (kf q p l e R s m args below meth cd D ρ γ A cells slots H locs Z lsr C Wd hls K))
theorem zk_icmp_lt {x y : Int32} {off : Int} (tgt : Nat) (hd : decode cc pc = .ok (.if_icmp .lt off, 3)) (ht : (pc : Int) + off = (tgt : Int)) (kt : x < y → zk_M d own cc nL ret sx tgt ls st mu lm Q) (kf : ¬ x < y → zk_M d own cc nL ret sx (pc + 3) ls st mu lm Q) : zk_M d own cc nL ret sx pc ls (.int y :: .int x :: st) mu lm Q := by
  intro p l e R s m args below meth cd D ρ γ A cells slots H locs Z lsr C Wd hls K
  obtain ⟨⟨hx, hb, hml, hown, hts⟩, c2, hK, hA, c5, c8⟩ := id C
  exact lv_icmp_lt hx hb hd ht (fun q => (kt q p l e R s m args below meth cd D ρ γ A cells slots H locs Z lsr C Wd hls K)) (fun q => (kf q p l e R s m args below meth cd D ρ γ A cells slots H locs Z lsr C Wd hls K))
theorem zk_if_ge {x : Int32} {off : Int} (tgt : Nat) (hd : decode cc pc = .ok (.ifCond .ge off, 3)) (ht : (pc : Int) + off = (tgt : Int)) (kt : 0 ≤ x → zk_M d own cc nL ret sx tgt ls st mu lm Q) (kf : ¬ 0 ≤ x → zk_M d own cc nL ret sx (pc + 3) ls st mu lm Q) : zk_M d own cc nL ret sx pc ls (.int x :: st) mu lm Q := by
  intro p l e R s m args below meth cd D ρ γ A cells slots H locs Z lsr C Wd hls K
  obtain ⟨⟨hx, hb, hml, hown, hts⟩, c2, hK, hA, c5, c8⟩ := id C
  exact lv_if_ge hx hb hd ht (fun q => (kt q p l e R s m args below meth cd D ρ γ A cells slots H locs Z lsr C Wd hls K)) (fun q => (kf q p l e R s m args below meth cd D ρ γ A cells slots H locs Z lsr C Wd hls K))
theorem zk_icmp_ge {x y : Int32} {off : Int} (tgt : Nat) (hd : decode cc pc = .ok (.if_icmp .ge off, 3)) (ht : (pc : Int) + off = (tgt : Int)) (kt : y ≤ x → zk_M d own cc nL ret sx tgt ls st mu lm Q) (kf : ¬ y ≤ x → zk_M d own cc nL ret sx (pc + 3) ls st mu lm Q) : zk_M d own cc nL ret sx pc ls (.int y :: .int x :: st) mu lm Q := by
  intro p l e R s m args below meth cd D ρ γ A cells slots H locs Z lsr C Wd hls K
  obtain ⟨⟨hx, hb, hml, hown, hts⟩, c2, hK, hA, c5, c8⟩ := id C
  exact lv_icmp_ge hx hb hd ht (fun q => (kt q p l e R s m args below meth cd D ρ γ A cells slots H locs Z lsr C Wd hls K)) (fun q => (kf q p l e R s m args below meth cd D ρ γ A cells slots H locs Z lsr C Wd hls K))
theorem zk_if_gt {x : Int32} {off : Int} (tgt : Nat) (hd : decode cc pc = .ok (.ifCond .gt off, 3)) (ht : (pc : Int) + off = (tgt : Int)) (kt : 0 < x → zk_M d own cc nL ret sx tgt ls st mu lm Q) (kf : ¬ 0 < x → zk_M d own cc nL ret sx (pc + 3) ls st mu lm Q) : zk_M d own cc nL ret sx pc ls (.int x :: st) mu lm Q := by
  intro p l e R s m args below meth cd D ρ γ A cells slots H locs Z lsr C Wd hls K
  obtain ⟨⟨hx, hb, hml, hown, hts⟩, c2, hK, hA, c5, c8⟩ := id C
  exact lv_if_gt hx hb hd ht (fun q => (kt q p l e R s m args below meth cd D ρ γ A cells slots H locs Z lsr C Wd hls K)) (fun q => (kf q p l e R s m args below meth cd D ρ γ A cells slots H locs Z lsr C Wd hls K))
theorem zk_icmp_gt {x y : Int32} {off : Int} (tgt : Nat) (hd : decode cc pc = .ok (.if_icmp .gt off, 3)) (ht : (pc : Int) + off = (tgt : Int)) (kt : y < x → zk_M d own cc nL ret sx tgt ls st mu lm Q) (kf : ¬ y < x → zk_M d own cc nL ret sx (pc + 3) ls st mu lm Q) : zk_M d own cc nL ret sx pc ls (.int y :: .int x :: st) mu lm Q := by
  intro p l e R s m args below meth cd D ρ γ A cells slots H locs Z lsr C Wd hls K
  obtain ⟨⟨hx, hb, hml, hown, hts⟩, c2, hK, hA, c5, c8⟩ := id C
  exact lv_icmp_gt hx hb hd ht (fun q => (kt q p l e R s m args below meth cd D ρ γ A cells slots H locs Z lsr C Wd hls K)) (fun q => (kf q p l e R s m args below meth cd D ρ γ A cells slots H locs Z lsr C Wd hls K))
theorem zk_if_le {x : Int32} {off : Int} (tgt : Nat) (hd : decode cc pc = .ok (.ifCond .le off, 3)) (ht : (pc : Int) + off = (tgt : Int)) (kt : x ≤ 0 → zk_M d own cc nL ret sx tgt ls st mu lm Q) (kf : ¬ x ≤ 0 → zk_M d own cc nL ret sx (pc + 3) ls st mu lm Q) : zk_M d own cc nL ret sx pc ls (.int x :: st) mu lm Q := by
  intro p l e R s m args below meth cd D ρ γ A cells slots H locs Z lsr C Wd hls K
  obtain ⟨⟨hx, hb, hml, hown, hts⟩, c2, hK, hA, c5, c8⟩ := id C
  exact lv_if_le hx hb hd ht (fun q => (kt q p l e R s m args below meth cd D ρ γ A cells slots H locs Z lsr C Wd hls K)) (fun q => (kf q p l e R s m args below meth cd D ρ γ A cells slots H locs Z lsr C Wd hls K))
theorem zk_icmp_le {x y : Int32} {off : Int} (tgt : Nat) (hd : decode cc pc = .ok (.if_icmp .le off, 3)) (ht : (pc : Int) + off = (tgt : Int)) (kt : x ≤ y → zk_M d own cc nL ret sx tgt ls st mu lm Q) (kf : ¬ x ≤ y → zk_M d own cc nL ret sx (pc + 3) ls st mu lm Q) : zk_M d own cc nL ret sx pc ls (.int y :: .int x :: st) mu lm Q := by
  intro p l e R s m args below meth cd D ρ γ A cells slots H locs Z lsr C Wd hls K
  obtain ⟨⟨hx, hb, hml, hown, hts⟩, c2, hK, hA, c5, c8⟩ := id C
  exact lv_icmp_le hx hb hd ht (fun q => (kt q p l e R s m args below meth cd D ρ γ A cells slots H locs Z lsr C Wd hls K)) (fun q => (kf q p l e R s m args below meth cd D ρ γ A cells slots H locs Z lsr C Wd hls K))
theorem zk_goto {off : Int} (tgt : Nat) (hd : decode cc pc = .ok (.goto off, 3)) (ht : (pc : Int) + off = (tgt : Int)) (k : zk_M d own cc nL ret sx tgt ls st mu lm Q) : zk_M d own cc nL ret sx pc ls st mu lm Q := by
  intro p l e R s m args below meth cd D ρ γ A cells slots H locs Z lsr C Wd hls K
  obtain ⟨⟨hx, hb, hml, hown, hts⟩, c2, hK, hA, c5, c8⟩ := id C
  exact lv_goto hx hb hd ht (k p l e R s m args below meth cd D ρ γ A cells slots H locs Z lsr C Wd hls K)
theorem zk_ifnull {x : Nat} {off : Int} (hd : decode cc pc = .ok (.ifnull off, 3)) (k : zk_M d own cc nL ret sx (pc + 3) ls st mu lm Q) : zk_M d own cc nL ret sx pc ls (.ref x :: st) mu lm Q := by
  intro p l e R s m args below meth cd D ρ γ A cells slots H locs Z lsr C Wd hls K
  obtain ⟨⟨hx, hb, hml, hown, hts⟩, c2, hK, hA, c5, c8⟩ := id C
  exact lv_ifnull hx hb hd (k p l e R s m args below meth cd D ρ γ A cells slots H locs Z lsr C Wd hls K)
theorem zk_ifnullN {off : Int} (tgt : Nat) (hd : decode cc pc = .ok (.ifnull off, 3)) (ht : (pc : Int) + off = (tgt : Int)) (k : zk_M d own cc nL ret sx tgt ls st mu lm Q) : zk_M d own cc nL ret sx pc ls (.null :: st) mu lm Q := by
  intro p l e R s m args below meth cd D ρ γ A cells slots H locs Z lsr C Wd hls K
  obtain ⟨⟨hx, hb, hml, hown, hts⟩, c2, hK, hA, c5, c8⟩ := id C
  exact lv_ifnullN hx hb hd ht (k p l e R s m args below meth cd D ρ γ A cells slots H locs Z lsr C Wd hls K)
theorem zk_ifnonnull {x : Nat} {off : Int} (tgt : Nat) (hd : decode cc pc = .ok (.ifnonnull off, 3)) (ht : (pc : Int) + off = (tgt : Int)) (k : zk_M d own cc nL ret sx tgt ls st mu lm Q) : zk_M d own cc nL ret sx pc ls (.ref x :: st) mu lm Q := by
  intro p l e R s m args below meth cd D ρ γ A cells slots H locs Z lsr C Wd hls K
  obtain ⟨⟨hx, hb, hml, hown, hts⟩, c2, hK, hA, c5, c8⟩ := id C
  exact lv_ifnonnull hx hb hd ht (k p l e R s m args below meth cd D ρ γ A cells slots H locs Z lsr C Wd hls K)
theorem zk_ifnonnullN {off : Int} (hd : decode cc pc = .ok (.ifnonnull off, 3)) (k : zk_M d own cc nL ret sx (pc + 3) ls st mu lm Q) : zk_M d own cc nL ret sx pc ls (.null :: st) mu lm Q := by
  intro p l e R s m args below meth cd D ρ γ A cells slots H locs Z lsr C Wd hls K
  obtain ⟨⟨hx, hb, hml, hown, hts⟩, c2, hK, hA, c5, c8⟩ := id C
  exact lv_ifnonnullN hx hb hd (k p l e R s m args below meth cd D ρ γ A cells slots H locs Z lsr C Wd hls K)
theorem zk_tabIn {dflt lo hi : Int} {offs : Array Int} {len : Nat} {x : Int32} {off : Int} (tgt : Nat) (hd : decode cc pc = .ok (.tableswitch dflt lo hi offs, len)) (h1 : ¬ x.toInt < lo) (h2 : ¬ hi < x.toInt) (ho : offs[(x.toInt - lo).toNat]? = some off) (ht : (pc : Int) + off = (tgt : Int)) (k : zk_M d own cc nL ret sx tgt ls st mu lm Q) : zk_M d own cc nL ret sx pc ls (.int x :: st) mu lm Q := by
  intro p l e R s m args below meth cd D ρ γ A cells slots H locs Z lsr C Wd hls K
  obtain ⟨⟨hx, hb, hml, hown, hts⟩, c2, hK, hA, c5, c8⟩ := id C
  exact lv_tableIn hx hb hd h1 h2 ho ht (k p l e R s m args below meth cd D ρ γ A cells slots H locs Z lsr C Wd hls K)
theorem zk_tabOut {dflt lo hi : Int} {offs : Array Int} {len : Nat} {x : Int32} (tgt : Nat) (hd : decode cc pc = .ok (.tableswitch dflt lo hi offs, len)) (h : x.toInt < lo ∨ hi < x.toInt) (ht : (pc : Int) + dflt = (tgt : Int)) (k : zk_M d own cc nL ret sx tgt ls st mu lm Q) : zk_M d own cc nL ret sx pc ls (.int x :: st) mu lm Q := by
  intro p l e R s m args below meth cd D ρ γ A cells slots H locs Z lsr C Wd hls K
  obtain ⟨⟨hx, hb, hml, hown, hts⟩, c2, hK, hA, c5, c8⟩ := id C
  exact lv_tableOut hx hb hd h ht (k p l e R s m args below meth cd D ρ γ A cells slots H locs Z lsr C Wd hls K)
theorem zk_lookup {dflt : Int} {ps : Array (Int × Int)} {len : Nat} {x : Int32} {off : Int} (tgt : Nat) (hd : decode cc pc = .ok (.lookupswitch dflt ps, len)) (hp : (ps.toList.zip (ps.toList.drop 1)).all (fun (a, next) => a.1 < next.1) = true) (ho : Op.lookupswitch.offset ps.toList dflt x.toInt = off) (ht : (pc : Int) + off = (tgt : Int)) (k : zk_M d own cc nL ret sx tgt ls st mu lm Q) : zk_M d own cc nL ret sx pc ls (.int x :: st) mu lm Q := by
  intro p l e R s m args below meth cd D ρ γ A cells slots H locs Z lsr C Wd hls K
  obtain ⟨⟨hx, hb, hml, hown, hts⟩, c2, hK, hA, c5, c8⟩ := id C
  exact lv_lookup hx hb hd hp ho ht (k p l e R s m args below meth cd D ρ γ A cells slots H locs Z lsr C Wd hls K)
end ZI
