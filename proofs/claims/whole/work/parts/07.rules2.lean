section ZI2
variable {d : Nat} {own : String} {cc : ByteArray} {nL : Nat} {ret : Option FieldType} {sx : Option (Nat × (Nat → Int32))} {ls st : List Value} {mu : Mem} {lm : MemL} {Q : Option Value → Mem → MemL → Prop} {pc : Nat}
theorem zk_getV {idx ci kf c x : Nat} {fs : List Nat} {ty : FieldType} {fin : Bool} (v : Value) (hd : decode cc pc = .ok (.getfield idx, 3)) (hf : zk_Fl own idx ci kf ty fin) (hs : zk_shp[c]? = some (0, ci, fs)) (hk : fs[kf]? = some x) (hv : ∀ ρ : Nat → Nat, zk_fv ρ (mu c) (lm c) kf x = zk_rv ρ v) (k : zk_M d own cc nL ret sx (pc + 3) ls (v :: st) mu lm Q) : zk_M d own cc nL ret sx pc ls (.ref c :: st) mu lm Q := by
  intro p l e R s m args below meth cd D ρ γ A cells slots H locs Z lsr C Wd hls K
  obtain ⟨⟨hx, hb, hml, hown, hts⟩, c2, hK, hA, c5, c8⟩ := id C
  obtain ⟨C0, T0, N0, ty0, f1, f2, f3, f4, f5, f6, f7, f8⟩ := hf
  refine va_get hx hb hts f4 hown hK Wd.1 c (fs := fs.mapIdx (fun k x => zk_fv ρ (mu c) (lm c) k x)) (ci := ci) (zk_ws_at hs) f1 kf f2 (hts _ f3) (fun x h => h) (v := zk_rv ρ v) ?_ hd (k p l e R s m args below meth cd D ρ γ A cells slots H locs Z lsr C Wd hls K)
  rw [List.getElem?_mapIdx, hk, ← hv]; rfl
set_option maxHeartbeats 200000 in
theorem zk_getI {idx ci kf c : Nat} {fs : List Nat} {ty : FieldType} {fin : Bool} (hd : decode cc pc = .ok (.getfield idx, 3)) (hf : zk_Fl own idx ci kf ty fin) (hs : zk_shp[c]? = some (0, ci, fs)) (hk : fs[kf]? = some 0) (k : zk_M d own cc nL ret sx (pc + 3) ls (.int (mu c kf) :: st) mu lm Q) : zk_M d own cc nL ret sx pc ls (.ref c :: st) mu lm Q := zk_getV (.int (mu c kf)) hd hf hs hk (fun _ => rfl) k
set_option maxHeartbeats 200000 in
theorem zk_getL {idx ci kf c : Nat} {fs : List Nat} {ty : FieldType} {fin : Bool} (hd : decode cc pc = .ok (.getfield idx, 3)) (hf : zk_Fl own idx ci kf ty fin) (hs : zk_shp[c]? = some (0, ci, fs)) (hk : fs[kf]? = some 1) (k : zk_M d own cc nL ret sx (pc + 3) ls (.long (lm c kf) :: st) mu lm Q) : zk_M d own cc nL ret sx pc ls (.ref c :: st) mu lm Q := zk_getV (.long (lm c kf)) hd hf hs hk (fun _ => rfl) k
set_option maxHeartbeats 200000 in
theorem zk_getR {idx ci kf c r : Nat} {fs : List Nat} {ty : FieldType} {fin : Bool} (hd : decode cc pc = .ok (.getfield idx, 3)) (hf : zk_Fl own idx ci kf ty fin) (hs : zk_shp[c]? = some (0, ci, fs)) (hk : fs[kf]? = some (r + 2)) (k : zk_M d own cc nL ret sx (pc + 3) ls (.ref r :: st) mu lm Q) : zk_M d own cc nL ret sx pc ls (.ref c :: st) mu lm Q := zk_getV (.ref r) hd hf hs hk (fun _ => rfl) k
set_option maxHeartbeats 200000 in
theorem zk_putI {idx ci kf c : Nat} {fs : List Nat} {v : Int32} (hd : decode cc pc = .ok (.putfield idx, 3)) (hf : zk_Fl own idx ci kf .int false) (hs : zk_shp[c]? = some (0, ci, fs)) (hk : fs[kf]? = some 0) (k : zk_M d own cc nL ret sx (pc + 3) ls st (zk_up mu c kf v) lm Q) : zk_M d own cc nL ret sx pc ls (.int v :: .ref c :: st) mu lm Q := by
  intro p l e R s m args below meth cd D ρ γ A cells slots H locs Z lsr C Wd hls K
  obtain ⟨⟨hx, hb, hml, hown, hts⟩, c2, hK, hA, c5, c8⟩ := id C
  obtain ⟨C0, T0, N0, ty0, f1, f2, f3, f4, f5, f6, f7, f8⟩ := hf
  refine va_put hx hb hts f4 ty0 f5 f6 hown hK Wd.1 Wd.2.1 Wd.2.2 c (fs := fs.mapIdx (fun k x => zk_fv ρ (mu c) (lm c) k x)) (ci := ci) (zk_ws_at hs) f1 kf f2 (hts _ f3) (fun x h => h) f8 (ty := .int) (v := .int v) (by rw [f5 kf f2, f7]) rfl rfl (by rw [List.length_mapIdx]; exact (List.getElem?_eq_some_iff.mp hk).1) hd (fun H1 locs1 hP1 hD1 hS1 => ?_)
  have ews : (zk_ws ρ γ mu lm).set c (ρ c, .inr (ci, (fs.mapIdx (fun k x => zk_fv ρ (mu c) (lm c) k x)).set kf (.int v))) = zk_ws ρ γ (zk_up mu c kf v) lm := by
    rw [zk_fs_set hk, ← zk_up_uc, ← congrArg (fun z => zk_ws ρ γ (zk_uc mu c fun j => if j = kf then v else mu c j) z) (zk_uc_self lm c)]
    exact zk_ws_set hs _ _
  rw [ews] at hP1 hD1
  exact (k p l e R s m args below meth cd D ρ γ A cells slots H1 locs1 Z lsr C ⟨hP1, hD1, hS1⟩ hls K)
set_option maxHeartbeats 200000 in
theorem zk_putL {idx ci kf c : Nat} {fs : List Nat} {v : Int64} (hd : decode cc pc = .ok (.putfield idx, 3)) (hf : zk_Fl own idx ci kf .long false) (hs : zk_shp[c]? = some (0, ci, fs)) (hk : fs[kf]? = some 1) (k : zk_M d own cc nL ret sx (pc + 3) ls st mu (zk_up lm c kf v) Q) : zk_M d own cc nL ret sx pc ls (.long v :: .ref c :: st) mu lm Q := by
  intro p l e R s m args below meth cd D ρ γ A cells slots H locs Z lsr C Wd hls K
  obtain ⟨⟨hx, hb, hml, hown, hts⟩, c2, hK, hA, c5, c8⟩ := id C
  obtain ⟨C0, T0, N0, ty0, f1, f2, f3, f4, f5, f6, f7, f8⟩ := hf
  refine va_put hx hb hts f4 ty0 f5 f6 hown hK Wd.1 Wd.2.1 Wd.2.2 c (fs := fs.mapIdx (fun k x => zk_fv ρ (mu c) (lm c) k x)) (ci := ci) (zk_ws_at hs) f1 kf f2 (hts _ f3) (fun x h => h) f8 (ty := .long) (v := .long v) (by rw [f5 kf f2, f7]) rfl rfl (by rw [List.length_mapIdx]; exact (List.getElem?_eq_some_iff.mp hk).1) hd (fun H1 locs1 hP1 hD1 hS1 => ?_)
  have ews : (zk_ws ρ γ mu lm).set c (ρ c, .inr (ci, (fs.mapIdx (fun k x => zk_fv ρ (mu c) (lm c) k x)).set kf (.long v))) = zk_ws ρ γ mu (zk_up lm c kf v) := by
    rw [zk_fs_setL hk, ← zk_up_uc, ← congrArg (fun z => zk_ws ρ γ z (zk_uc lm c fun j => if j = kf then v else lm c j)) (zk_uc_self mu c)]
    exact zk_ws_set hs _ _
  rw [ews] at hP1 hD1
  exact (k p l e R s m args below meth cd D ρ γ A cells slots H1 locs1 Z lsr C ⟨hP1, hD1, hS1⟩ hls K)
set_option maxHeartbeats 200000 in
theorem zk_iaload {c n : Nat} {rs : List Nat} {i : Int32} (j : Nat) (hd : decode cc pc = .ok (.iaload, 1)) (hs : zk_shp[c]? = some (1, n, rs)) (hi : i = nI j) (hj : j < n) (k : zk_M d own cc nL ret sx (pc + 1) ls (.int (mu c j) :: st) mu lm Q) : zk_M d own cc nL ret sx pc ls (.int i :: .ref c :: st) mu lm Q := by
  intro p l e R s m args below meth cd D ρ γ A cells slots H locs Z lsr C Wd hls K
  obtain ⟨⟨hx, hb, hml, hown, hts⟩, c2, hK, hA, c5, c8⟩ := id C
  obtain ⟨g1, g2⟩ := zk_ix hi hj (zk_sm hs)
  refine va_iald hx hb hK Wd.1 c 0 (cA := γ 0) (n := n) (f := mu c) (zk_ws_at hs) rfl g1 hd ?_
  rw [g2]
  exact (k p l e R s m args below meth cd D ρ γ A cells slots H locs Z lsr C Wd hls K)
set_option maxHeartbeats 200000 in
theorem zk_laload {c n : Nat} {rs : List Nat} {i : Int32} (j : Nat) (hd : decode cc pc = .ok (.laload, 1)) (hs : zk_shp[c]? = some (2, n, rs)) (hi : i = nI j) (hj : j < n) (k : zk_M d own cc nL ret sx (pc + 1) ls (.long (lm c j) :: st) mu lm Q) : zk_M d own cc nL ret sx pc ls (.int i :: .ref c :: st) mu lm Q := by
  intro p l e R s m args below meth cd D ρ γ A cells slots H locs Z lsr C Wd hls K
  obtain ⟨⟨hx, hb, hml, hown, hts⟩, c2, hK, hA, c5, c8⟩ := id C
  obtain ⟨g1, g2⟩ := zk_ix hi hj (zk_sm hs)
  refine va_lald hx hb hK Wd.1 c 1 (cA := γ 1) (n := n) (f := lm c) (zk_ws_at hs) rfl g1 hd ?_
  rw [g2]
  exact (k p l e R s m args below meth cd D ρ γ A cells slots H locs Z lsr C Wd hls K)
set_option maxHeartbeats 200000 in
theorem zk_iastore {c n : Nat} {rs : List Nat} {i v : Int32} (j : Nat) (hd : decode cc pc = .ok (.iastore, 1)) (hs : zk_shp[c]? = some (1, n, rs)) (hi : i = nI j) (hj : j < n) (k : zk_M d own cc nL ret sx (pc + 1) ls st (zk_up mu c j v) lm Q) : zk_M d own cc nL ret sx pc ls (.int v :: .int i :: .ref c :: st) mu lm Q := by
  intro p l e R s m args below meth cd D ρ γ A cells slots H locs Z lsr C Wd hls K
  obtain ⟨⟨hx, hb, hml, hown, hts⟩, c2, hK, hA, c5, c8⟩ := id C
  obtain ⟨g1, g2⟩ := zk_ix hi hj (zk_sm hs)
  refine va_iast hx hb hK Wd.1 Wd.2.1 Wd.2.2 c 0 (cA := γ 0) (n := n) (f := mu c) (zk_ws_at hs) rfl g1 hd (fun H1 locs1 hP1 hD1 hS1 => ?_)
  have ews : (zk_ws ρ γ mu lm).set c (ρ c, .inl (γ 0, n, .inl (upd (mu c) i.toNatClampNeg v))) = zk_ws ρ γ (zk_up mu c j v) lm := by
    rw [g2, ← zk_up_uc, ← congrArg (fun z => zk_ws ρ γ (zk_uc mu c fun q => if q = j then v else mu c q) z) (zk_uc_self lm c)]
    exact zk_ws_set hs _ _
  rw [ews] at hP1 hD1
  exact (k p l e R s m args below meth cd D ρ γ A cells slots H1 locs1 Z lsr C ⟨hP1, hD1, hS1⟩ hls K)
set_option maxHeartbeats 200000 in
theorem zk_lastore {c n : Nat} {rs : List Nat} {i : Int32} {v : Int64} (j : Nat) (hd : decode cc pc = .ok (.lastore, 1)) (hs : zk_shp[c]? = some (2, n, rs)) (hi : i = nI j) (hj : j < n) (k : zk_M d own cc nL ret sx (pc + 1) ls st mu (zk_up lm c j v) Q) : zk_M d own cc nL ret sx pc ls (.long v :: .int i :: .ref c :: st) mu lm Q := by
  intro p l e R s m args below meth cd D ρ γ A cells slots H locs Z lsr C Wd hls K
  obtain ⟨⟨hx, hb, hml, hown, hts⟩, c2, hK, hA, c5, c8⟩ := id C
  obtain ⟨g1, g2⟩ := zk_ix hi hj (zk_sm hs)
  refine va_last hx hb hK Wd.1 Wd.2.1 Wd.2.2 c 1 (cA := γ 1) (n := n) (f := lm c) (zk_ws_at hs) rfl g1 hd (fun H1 locs1 hP1 hD1 hS1 => ?_)
  have ews : (zk_ws ρ γ mu lm).set c (ρ c, .inl (γ 1, n, .inr (.inl (vp_updL (lm c) i.toNatClampNeg v)))) = zk_ws ρ γ mu (zk_up lm c j v) := by
    rw [g2, ← zk_up_uc, ← congrArg (fun z => zk_ws ρ γ z (zk_uc lm c fun q => if q = j then v else lm c q)) (zk_uc_self mu c)]
    exact zk_ws_set hs _ _
  rw [ews] at hP1 hD1
  exact (k p l e R s m args below meth cd D ρ γ A cells slots H1 locs1 Z lsr C ⟨hP1, hD1, hS1⟩ hls K)
set_option maxHeartbeats 200000 in
theorem zk_aaload {c n t r : Nat} {rs : List Nat} {i : Int32} (j : Nat) (hd : decode cc pc = .ok (.aaload, 1)) (hs : zk_shp[c]? = some (t + 3, n, rs)) (ht : t < 2) (hi : i = nI j) (hj : j < n) (hr : rs[j]? = some r) (k : zk_M d own cc nL ret sx (pc + 1) ls (.ref r :: st) mu lm Q) : zk_M d own cc nL ret sx pc ls (.int i :: .ref c :: st) mu lm Q := by
  intro p l e R s m args below meth cd D ρ γ A cells slots H locs Z lsr C Wd hls K
  obtain ⟨⟨hx, hb, hml, hown, hts⟩, c2, hK, hA, c5, c8⟩ := id C
  obtain ⟨g1, g2⟩ := zk_ix hi hj (zk_sm hs)
  have key := (k p l e R s m args below meth cd D ρ γ A cells slots H locs Z lsr C Wd hls K)
  have e : va_rf ((fun j => (rs[j]?).map ρ) i.toNatClampNeg) :: st.map (zk_rv ρ) = (Value.ref r :: st).map (zk_rv ρ) := by
    simp only [g2, hr]; rfl
  rw [← e] at key
  match t, ht, hs with
  | 0, _, hs => exact va_aldq hx hb hK Wd.1 c 2 (cA := γ 2) (C := RX4) (n := n) (f := fun j => (rs[j]?).map ρ) (zk_ws_at hs) rfl g1 hd key
  | 1, _, hs => exact va_aldq hx hb hK Wd.1 c 3 (cA := γ 3) (C := RX1) (n := n) (f := fun j => (rs[j]?).map ρ) (zk_ws_at hs) rfl g1 hd key
set_option maxHeartbeats 200000 in
theorem zk_aaload2 {c n r : Nat} {rs : List Nat} {i : Int32} (j : Nat) (hd : decode cc pc = .ok (.aaload, 1)) (hs : zk_shp[c]? = some (5, n, rs)) (hi : i = nI j) (hj : j < n) (hr : rs[j]? = some r) (k : zk_M d own cc nL ret sx (pc + 1) ls (.ref r :: st) mu lm Q) : zk_M d own cc nL ret sx pc ls (.int i :: .ref c :: st) mu lm Q := by
  intro p l e R s m args below meth cd D ρ γ A cells slots H locs Z lsr C Wd hls K
  obtain ⟨⟨hx, hb, hml, hown, hts⟩, c2, hK, hA, c5, c8⟩ := id C
  obtain ⟨g1, g2⟩ := zk_ix hi hj (zk_sm hs)
  have key := (k p l e R s m args below meth cd D ρ γ A cells slots H locs Z lsr C Wd hls K)
  have e : va_rf ((fun j => (rs[j]?).map ρ) i.toNatClampNeg) :: st.map (zk_rv ρ) = (Value.ref r :: st).map (zk_rv ρ) := by
    simp only [g2, hr]; rfl
  rw [← e] at key
  have hlt : i.toNatClampNeg < n := Nat.not_le.mp fun q => g1 (Or.inr q)
  exact W.aald (v := va_rf ((fun j => (rs[j]?).map ρ) i.toNatClampNeg)) (ty := .array .int) hx hb (Wd.1 c _ (zk_ws_at hs)) ((hK.2 4 _ rfl).1 n (fun j => va_rf ((fun j => (rs[j]?).map ρ) j))) rfl (fun q => by cases q) (by show ¬ (i < 0 ∨ (arrV _ _ _).slots.size ≤ _); rw [arrV_size]; exact g1) (by show (arrV _ _ _).slots[_]? = _; rw [arrV_read _ _ hlt]) rfl rfl hd key
set_option maxHeartbeats 200000 in
theorem zk_alen {c t n : Nat} {rs : List Nat} (hd : decode cc pc = .ok (.arraylength, 1)) (hs : zk_shp[c]? = some (t + 1, n, rs)) (ht : t < 5) (k : zk_M d own cc nL ret sx (pc + 1) ls (.int (nI n) :: st) mu lm Q) : zk_M d own cc nL ret sx pc ls (.ref c :: st) mu lm Q := by
  intro p l e R s m args below meth cd D ρ γ A cells slots H locs Z lsr C Wd hls K
  obtain ⟨⟨hx, hb, hml, hown, hts⟩, c2, hK, hA, c5, c8⟩ := id C
  have key := (k p l e R s m args below meth cd D ρ γ A cells slots H locs Z lsr C Wd hls K)
  match t, ht, hs with
  | 0, _, hs => exact va_alen hx hb hK Wd.1 c 0 (zk_ws_at hs) (ty := .int) rfl rfl hd key
  | 1, _, hs => exact va_alen hx hb hK Wd.1 c 1 (zk_ws_at hs) (ty := .long) rfl rfl hd key
  | 2, _, hs => exact va_alen hx hb hK Wd.1 c 2 (zk_ws_at hs) (ty := .object RX4) rfl rfl hd key
  | 3, _, hs => exact va_alen hx hb hK Wd.1 c 3 (zk_ws_at hs) (ty := .object RX1) rfl rfl hd key
  | 4, _, hs => exact va_alen hx hb hK Wd.1 c 4 (zk_ws_at hs) (ty := .array .int) rfl rfl hd key
set_option maxHeartbeats 200000 in
theorem zk_acopy {idx a a0 n0 n1 : Nat} {r0 r1 : List Nat} {sp dp n : Int32} (jsp jdp jn : Nat) (hd : decode cc pc = .ok (.invokestatic idx, 3)) (hl : Cond.methodLink own idx arraycopyName ∈ zk_tb) (hnat : Cond.native arraycopyName ∈ zk_tb) (hstat : Cond.static arraycopyName ∈ zk_tb) (hini : Cond.initialized "java/lang/System" ∈ zk_tb) (h0 : zk_shp[a0]? = some (1, n0, r0)) (h1 : zk_shp[a]? = some (1, n1, r1)) (hsp : sp = nI jsp) (hdp : dp = nI jdp) (hn : n = nI jn) (b0 : jsp + jn ≤ n0) (b1 : jdp + jn ≤ n1) (hc : (st.map fun v => v.category).sum ≤ 8) (hw : nativeFrameWords "java/lang/System" "arraycopy" 5 ≤ 40) (k : zk_M (d + 1) own cc nL ret sx (pc + 3) ls st (zk_uc mu a (va_cpy (mu a0) (mu a) jsp jdp jn)) lm Q) : zk_M (d + 1) own cc nL ret sx pc ls (.int n :: .int dp :: .ref a :: .int sp :: .ref a0 :: st) mu lm Q := by
  intro p l e R s m args below meth cd D ρ γ A cells slots H locs Z lsr C Wd hls K
  obtain ⟨⟨hx, hb, hml, hown, hts⟩, c2, hK, hA, ⟨c5, c6, c7⟩, c8⟩ := id C
  have s0 := zk_sm h0
  have s1 := zk_sm h1
  simp only at s0 s1
  have g1 : sp.toNatClampNeg = jsp := by rw [hsp]; exact nI_clamp (by omega)
  have g2 : dp.toNatClampNeg = jdp := by rw [hdp]; exact nI_clamp (by omega)
  have g3 : n.toNatClampNeg = jn := by rw [hn]; exact nI_clamp (by omega)
  refine va_copyi hx hb (hml.trans hls.1.symm) hown (hts _ hl) (hts _ hnat) (hts _ hstat) (hts _ hini) hK Wd.1 Wd.2.1 Wd.2.2 a0 a 0 0 (c0 := γ 0) (c1 := γ 0) (n0 := n0) (n1 := n1) (f := mu a0) (g := mu a) (zk_ws_at h0) (zk_ws_at h1) rfl rfl rfl (by rw [hsp]; exact nI_pos (by omega)) (by rw [hdp]; exact nI_pos (by omega)) (by rw [hn]; exact nI_pos (by omega)) (by rw [g1, g3]; exact b0) (by rw [g2, g3]; exact b1) (fun i hi => rfl) (by omega) (by rw [zk_cat]; omega) hd (fun H1 locs1 hP1 hD1 hS1 => ?_)
  have ews : (zk_ws ρ γ mu lm).set a (ρ a, .inl (γ 0, n1, .inl (va_cpy (mu a0) (mu a) sp.toNatClampNeg dp.toNatClampNeg n.toNatClampNeg))) = zk_ws ρ γ (zk_uc mu a (va_cpy (mu a0) (mu a) jsp jdp jn)) lm := by
    rw [g1, g2, g3, ← congrArg (fun z => zk_ws ρ γ (zk_uc mu a (va_cpy (mu a0) (mu a) jsp jdp jn)) z) (zk_uc_self lm a)]
    exact zk_ws_set h1 _ _
  rw [ews] at hP1 hD1
  exact (k p l e R s m args below meth cd D ρ γ A cells slots H1 locs1 Z lsr C ⟨hP1, hD1, hS1⟩ hls K)
set_option maxHeartbeats 200000 in
theorem zk_sload {L : Nat} {xs : Nat → Int32} {i : Int32} (j : Nat) (hd : decode cc pc = .ok (.iaload, 1)) (hsx : sx = some (L, xs)) (hi : i = nI j) (hj : j < L) (hL : L < 2 ^ 31) (k : zk_M d own cc nL ret sx (pc + 1) ls (.int (xs j) :: st) mu lm Q) : zk_M d own cc nL ret sx pc ls (.int i :: .ref 99 :: st) mu lm Q := by
  intro p l e R s m args below meth cd D ρ γ A cells slots H locs Z lsr C Wd hls K
  obtain ⟨⟨hx, hb, hml, hown, hts⟩, c2, hK, hA, c5, c8⟩ := id C
  obtain ⟨g1, g2⟩ := zk_ix hi hj hL
  obtain ⟨x1, x2, x3⟩ := c8 L xs hsx
  refine va_sld hx hb x1 x2 x3 Wd.2.2 g1 hd ?_
  rw [g2]
  exact (k p l e R s m args below meth cd D ρ γ A cells slots H locs Z lsr C Wd hls K)
set_option maxHeartbeats 200000 in
theorem zk_slen {L : Nat} {xs : Nat → Int32} (hd : decode cc pc = .ok (.arraylength, 1)) (hsx : sx = some (L, xs)) (k : zk_M d own cc nL ret sx (pc + 1) ls (.int (nI L) :: st) mu lm Q) : zk_M d own cc nL ret sx pc ls (.ref 99 :: st) mu lm Q := by
  intro p l e R s m args below meth cd D ρ γ A cells slots H locs Z lsr C Wd hls K
  obtain ⟨⟨hx, hb, hml, hown, hts⟩, c2, hK, hA, c5, c8⟩ := id C
  obtain ⟨x1, x2, x3⟩ := c8 L xs hsx
  exact va_slen hx hb x1 x2 x3 Wd.2.2 hd (k p l e R s m args below meth cd D ρ γ A cells slots H locs Z lsr C Wd hls K)
end ZI2
