/-! ===== THE BUILDING: constructors, over a world that grows; addresses are the heap's own ===== -/
def zc_AO (s : State) : Prop := va_AO RX4 s ∧ va_AO RX1 s ∧ va_AOA .int s
theorem zc_aoam {u U : State} (hvm : u.vm.Alike U.vm) (h : va_AOA .int u) : va_AOA .int U := by
  have e : (Cond.arrayOver (.array .int)).before #[] U = (Cond.arrayOver (.array .int)).before #[] (u.setVm U.vm) := rfl
  show (Cond.arrayOver (.array .int)).before #[] U = true
  rw [e, Cond.arrayOver_setVmC hvm]
  exact h
theorem zc_AO.moved {u U : State} (hvm : u.vm.Alike U.vm) (h : zc_AO u) : zc_AO U := ⟨h.1.moved hvm, h.2.1.moved hvm, zc_aoam hvm h.2.2⟩
theorem zc_un {D : va_G} {cl : List vw_C} {tys : List (ClassId × FieldType)} {s : State} {cA cB : ClassId} {ty : FieldType} (h : va_K D cl tys s) {i j : Nat} (hi : tys[i]? = some (cA, ty)) (hj : tys[j]? = some (cB, ty)) : cA = cB := by
  have h1 := (h.2 i _ hi).2
  have h2 := (h.2 j _ hj).2
  cases ty with
  | object C =>
    obtain ⟨_, _, _, _, _, e1⟩ := h1
    obtain ⟨_, _, _, _, _, e2⟩ := h2
    exact Option.some.inj (e1.symm.trans e2)
  | _ => exact Option.some.inj (Eq.trans (Eq.symm h1) h2)
def zc_Cx (d : Nat) (own : String) (cc : ByteArray) (nL : Nat) (ret : Option FieldType) (γ : Nat → ClassId) (mc ms : Nat) (p : Program) (R : Room) (s : State) (m : MethodId) (args : Array Value) (meth : Method) (c : Code) (D : va_G) (A : Nat → Prop) (cells slots : Nat) : Prop :=
  CallFix p m c cc nL s args zk_tb own ∧ (meth.sig.returnType = ret ∧ meth.locks = false ∧ zk_Nst s ∧ zc_AO s) ∧ va_K D vwCl (zk_ty γ) s ∧ (∀ q, s.heap.size ≤ q → A q) ∧ (d ≤ R.frames ∧ d * 80 ≤ R.locals ∧ cells + mc ≤ R.cells ∧ slots + ms ≤ R.slots)
def zc_Wd (s : State) (D : va_G) (A : Nat → Prop) (H : Heap) (locs : List Loc) (ws : va_W) : Prop := va_P D vwCl ws H ∧ va_D A ws ∧ va_S A s.heap H locs
def zc_Rt (cc : ByteArray) (ret : Option FieldType) (pc : Nat) (r : Option Value) : Prop := match r with
  | none => decode cc pc = .ok (.return_, 1) ∧ ret = none
  | some (.ref _) => decode cc pc = .ok (.areturn, 1) ∧ ∃ t, ret = some (.array t)
  | _ => False
def zid : Nat → Nat := fun x => x
def zcR (cc : ByteArray) (ret : Option FieldType) : Nat → Array Slot → Option Value → va_W → Prop := fun pc' _ r _ => zc_Rt cc ret pc' r
def zc_M (d : Nat) (own : String) (cc : ByteArray) (nL : Nat) (ret : Option FieldType) (nm : String) (X : Nat → Array Slot → Option Value → va_W → Prop) (γ : Nat → ClassId) (mc ms : Nat) (pc : Nat) (ls st : List Value) (ws : va_W) (Q : Option Value → va_W → Prop) : Prop :=
  ∀ (p : Program) (l : Launch) (e : Env) (R : Room) (s : State) (m : MethodId) (args : Array Value) (below : List Frame) (meth : Method) (c : Code) (D : va_G) (A : Nat → Prop) (cells slots : Nat) (H : Heap) (locs : List Loc) (Z : State → Prop) (lsr : Array Slot),
    meth.name = nm → zc_Cx d own cc nL ret γ mc ms p R s m args meth c D A cells slots → zc_Wd s D A H locs ws → lv_has lsr nL (zk_lv zid ls) →
    (∀ (r : Option Value) (ws' : va_W) (H' : Heap) (locs' : List Loc) (pc' : Nat) (lsr' : Array Slot), Q r ws' → zc_Wd s D A H' locs' ws' → X pc' lsr' r ws' → W p l e R s m args below meth c H' locs' (cells + mc) (slots + ms) Z (F0 m pc' lsr' r.toList)) →
    W p l e R s m args below meth c H locs cells slots Z (F0 m pc lsr st)
section ZCM
variable {d : Nat} {own : String} {cc : ByteArray} {nL : Nat} {ret : Option FieldType} {nm : String} {X : Nat → Array Slot → Option Value → va_W → Prop} {γ : Nat → ClassId} {mc ms : Nat} {ls st : List Value} {ws : va_W} {Q : Option Value → va_W → Prop} {pc : Nat}
theorem zc_return {x : Unit} (hd : decode cc pc = .ok (.return_, 1)) (hr : ret = none) (hq : Q none ws) : zc_M d own cc nL ret nm (zcR cc ret) γ 0 0 pc ls [] ws Q := by
  intro p l e R s m args below meth c D A cells slots H locs Z lsr hnm C Wd hls K
  obtain ⟨⟨hx, hb, hml, hown, hts⟩, c2, hK, hA, c5⟩ := id C
  exact K none ws H locs pc lsr hq Wd ⟨hd, hr⟩
theorem zc_exit (hX : ∀ lsr, lv_has lsr nL (zk_lv zid ls) → X pc lsr none ws) (hq : Q none ws) : zc_M d own cc nL ret nm X γ 0 0 pc ls [] ws Q := by
  intro p l e R s m args below meth c D A cells slots H locs Z lsr hnm C Wd hls K
  obtain ⟨⟨hx, hb, hml, hown, hts⟩, c2, hK, hA, c5⟩ := id C
  exact K none ws H locs pc lsr hq Wd (hX lsr hls)
theorem zc_areturn {x : Nat} (hd : decode cc pc = .ok (.areturn, 1)) (hr : ∃ t, ret = some (.array t)) (hq : Q (some (.ref x)) ws) : zc_M d own cc nL ret nm (zcR cc ret) γ 0 0 pc ls [.ref x] ws Q := by
  intro p l e R s m args below meth c D A cells slots H locs Z lsr hnm C Wd hls K
  obtain ⟨⟨hx, hb, hml, hown, hts⟩, c2, hK, hA, c5⟩ := id C
  exact K (some (.ref x)) ws H locs pc lsr hq Wd ⟨hd, hr⟩
theorem zc_iconst {n : Int} {v : Int32} (hd : decode cc pc = .ok (.iconst n, 1)) (hv : Int32.ofInt n = v) (k : zc_M d own cc nL ret nm X γ mc ms (pc + 1) ls (.int v :: st) ws Q) : zc_M d own cc nL ret nm X γ mc ms pc ls st ws Q := by
  intro p l e R s m args below meth c D A cells slots H locs Z lsr hnm C Wd hls K
  obtain ⟨⟨hx, hb, hml, hown, hts⟩, c2, hK, hA, c5⟩ := id C
  exact lv_iconst hx hb hd hv (k p l e R s m args below meth c D A cells slots H locs Z lsr hnm C Wd hls K)
theorem zc_bipush {n : Int} {v : Int32} (hd : decode cc pc = .ok (.bipush n, 2)) (hv : (Int8.ofInt n).toInt32 = v) (k : zc_M d own cc nL ret nm X γ mc ms (pc + 2) ls (.int v :: st) ws Q) : zc_M d own cc nL ret nm X γ mc ms pc ls st ws Q := by
  intro p l e R s m args below meth c D A cells slots H locs Z lsr hnm C Wd hls K
  obtain ⟨⟨hx, hb, hml, hown, hts⟩, c2, hK, hA, c5⟩ := id C
  exact lv_bipush hx hb hd hv (k p l e R s m args below meth c D A cells slots H locs Z lsr hnm C Wd hls K)
theorem zc_sipush {n : Int} {v : Int32} (hd : decode cc pc = .ok (.sipush n, 3)) (hv : (Int16.ofInt n).toInt32 = v) (k : zc_M d own cc nL ret nm X γ mc ms (pc + 3) ls (.int v :: st) ws Q) : zc_M d own cc nL ret nm X γ mc ms pc ls st ws Q := by
  intro p l e R s m args below meth c D A cells slots H locs Z lsr hnm C Wd hls K
  obtain ⟨⟨hx, hb, hml, hown, hts⟩, c2, hK, hA, c5⟩ := id C
  exact lv_sipush hx hb hd hv (k p l e R s m args below meth c D A cells slots H locs Z lsr hnm C Wd hls K)
theorem zc_lconst {n : Fin 2} {v : Int64} (hd : decode cc pc = .ok (.lconst n, 1)) (hv : Int64.ofNat (n : Nat) = v) (k : zc_M d own cc nL ret nm X γ mc ms (pc + 1) ls (.long v :: st) ws Q) : zc_M d own cc nL ret nm X γ mc ms pc ls st ws Q := by
  intro p l e R s m args below meth c D A cells slots H locs Z lsr hnm C Wd hls K
  obtain ⟨⟨hx, hb, hml, hown, hts⟩, c2, hK, hA, c5⟩ := id C
  exact lv_lconst hx hb hd hv (k p l e R s m args below meth c D A cells slots H locs Z lsr hnm C Wd hls K)
theorem zc_aload_n {k : Fin 4} {x : Nat} (i : Nat) (hd : decode cc pc = .ok (.aload_n k, 1)) (hi : (k : Nat) = i) (hv : ls[i]? = some (.ref x)) (k : zc_M d own cc nL ret nm X γ mc ms (pc + 1) ls (.ref x :: st) ws Q) : zc_M d own cc nL ret nm X γ mc ms pc ls st ws Q := by
  intro p l e R s m args below meth c D A cells slots H locs Z lsr hnm C Wd hls K
  obtain ⟨⟨hx, hb, hml, hown, hts⟩, c2, hK, hA, c5⟩ := id C
  exact lv_aload_n hx hb hd hi (zk_at hls hv rfl) (k p l e R s m args below meth c D A cells slots H locs Z lsr hnm C Wd hls K)
theorem zc_iload_n {k : Fin 4} {x : Int32} (i : Nat) (hd : decode cc pc = .ok (.iload_n k, 1)) (hi : (k : Nat) = i) (hv : ls[i]? = some (.int x)) (k : zc_M d own cc nL ret nm X γ mc ms (pc + 1) ls (.int x :: st) ws Q) : zc_M d own cc nL ret nm X γ mc ms pc ls st ws Q := by
  intro p l e R s m args below meth c D A cells slots H locs Z lsr hnm C Wd hls K
  obtain ⟨⟨hx, hb, hml, hown, hts⟩, c2, hK, hA, c5⟩ := id C
  exact lv_iload_n hx hb hd hi (zk_at hls hv rfl) (k p l e R s m args below meth c D A cells slots H locs Z lsr hnm C Wd hls K)
theorem zc_astore_n {ls' : List Value} {k : Fin 4} {x : Nat} (i : Nat) (hd : decode cc pc = .ok (.astore_n k, 1)) (hi : (k : Nat) = i) (hn : i < nL) (hl : zk_set ls i (.ref x) = ls') (k : zc_M d own cc nL ret nm X γ mc ms (pc + 1) ls' st ws Q) : zc_M d own cc nL ret nm X γ mc ms pc ls (.ref x :: st) ws Q := by
  intro p l e R s m args below meth c D A cells slots H locs Z lsr hnm C Wd hls K
  obtain ⟨⟨hx, hb, hml, hown, hts⟩, c2, hK, hA, c5⟩ := id C
  subst hl
  exact lv_astore_n hx hb hd hi hls hn rfl (fun lsr2 hl2 => (k p l e R s m args below meth c D A cells slots H locs Z lsr2 hnm C Wd (zk_has_set (v := .ref x) hl2) K))
theorem zc_istore_n {ls' : List Value} {k : Fin 4} {x : Int32} (i : Nat) (hd : decode cc pc = .ok (.istore_n k, 1)) (hi : (k : Nat) = i) (hn : i < nL) (hl : zk_set ls i (.int x) = ls') (k : zc_M d own cc nL ret nm X γ mc ms (pc + 1) ls' st ws Q) : zc_M d own cc nL ret nm X γ mc ms pc ls (.int x :: st) ws Q := by
  intro p l e R s m args below meth c D A cells slots H locs Z lsr hnm C Wd hls K
  obtain ⟨⟨hx, hb, hml, hown, hts⟩, c2, hK, hA, c5⟩ := id C
  subst hl
  exact lv_istore_n hx hb hd hi hls hn rfl (fun lsr2 hl2 => (k p l e R s m args below meth c D A cells slots H locs Z lsr2 hnm C Wd (zk_has_set (v := .int x) hl2) K))
theorem zc_iinc {ls' : List Value} {i : Nat} {n : Int} {x v : Int32} (hd : decode cc pc = .ok (.iinc i n, 3)) (hv : ls[i]? = some (.int x)) (he : x + Int32.ofInt n = v) (hn : i < nL) (hl : zk_set ls i (.int v) = ls') (k : zc_M d own cc nL ret nm X γ mc ms (pc + 3) ls' st ws Q) : zc_M d own cc nL ret nm X γ mc ms pc ls st ws Q := by
  intro p l e R s m args below meth c D A cells slots H locs Z lsr hnm C Wd hls K
  obtain ⟨⟨hx, hb, hml, hown, hts⟩, c2, hK, hA, c5⟩ := id C
  subst hl
  obtain ⟨j, hj⟩ := List.getElem?_of_mem (zk_mem_lv (ρ := zid) (q := (i, .int x)) |>.mpr ⟨.int x, hv, rfl, rfl⟩)
  exact lv_iinc hx hb hd hls hj he hn rfl (fun lsr2 hl2 => (k p l e R s m args below meth c D A cells slots H locs Z lsr2 hnm C Wd (zk_has_set (v := .int v) hl2) K))
theorem zc_dup {v : Value} (hd : decode cc pc = .ok (.dup, 1)) (hv : v.category = 1) (k : zc_M d own cc nL ret nm X γ mc ms (pc + 1) ls (v :: v :: st) ws Q) : zc_M d own cc nL ret nm X γ mc ms pc ls (v :: st) ws Q := by
  intro p l e R s m args below meth c D A cells slots H locs Z lsr hnm C Wd hls K
  obtain ⟨⟨hx, hb, hml, hown, hts⟩, c2, hK, hA, c5⟩ := id C
  exact lv_dup hx hb hd hv (k p l e R s m args below meth c D A cells slots H locs Z lsr hnm C Wd hls K)
theorem zc_goto {off : Int} (tgt : Nat) (hd : decode cc pc = .ok (.goto off, 3)) (ht : (pc : Int) + off = (tgt : Int)) (k : zc_M d own cc nL ret nm X γ mc ms tgt ls st ws Q) : zc_M d own cc nL ret nm X γ mc ms pc ls st ws Q := by
  intro p l e R s m args below meth c D A cells slots H locs Z lsr hnm C Wd hls K
  obtain ⟨⟨hx, hb, hml, hown, hts⟩, c2, hK, hA, c5⟩ := id C
  exact lv_goto hx hb hd ht (k p l e R s m args below meth c D A cells slots H locs Z lsr hnm C Wd hls K)
theorem zc_geT {x y : Int32} {off : Int} (tgt : Nat) (hd : decode cc pc = .ok (.if_icmp .ge off, 3)) (ht : (pc : Int) + off = (tgt : Int)) (h : y ≤ x) (k : zc_M d own cc nL ret nm X γ mc ms tgt ls st ws Q) : zc_M d own cc nL ret nm X γ mc ms pc ls (.int y :: .int x :: st) ws Q := by
  intro p l e R s m args below meth c D A cells slots H locs Z lsr hnm C Wd hls K
  obtain ⟨⟨hx, hb, hml, hown, hts⟩, c2, hK, hA, c5⟩ := id C
  exact lv_icmp_ge hx hb hd ht (fun _ => (k p l e R s m args below meth c D A cells slots H locs Z lsr hnm C Wd hls K)) (fun q => absurd h q)
theorem zc_geF {x y : Int32} {off : Int} (tgt : Nat) (hd : decode cc pc = .ok (.if_icmp .ge off, 3)) (ht : (pc : Int) + off = (tgt : Int)) (h : ¬ y ≤ x) (k : zc_M d own cc nL ret nm X γ mc ms (pc + 3) ls st ws Q) : zc_M d own cc nL ret nm X γ mc ms pc ls (.int y :: .int x :: st) ws Q := by
  intro p l e R s m args below meth c D A cells slots H locs Z lsr hnm C Wd hls K
  obtain ⟨⟨hx, hb, hml, hown, hts⟩, c2, hK, hA, c5⟩ := id C
  exact lv_icmp_ge hx hb hd ht (fun q => absurd q h) (fun _ => (k p l e R s m args below meth c D A cells slots H locs Z lsr hnm C Wd hls K))
theorem zc_objInit {idx a : Nat} (hd : decode cc pc = .ok (.invokespecial idx, 3)) (hl : Cond.methodLink own idx objectInit ∈ zk_tb) (hi : Cond.instanceMethod objectInit ∈ zk_tb) (hc : Cond.code objectInit ⟨#[0xb1]⟩ 1 none ∈ zk_tb) (hcat : (st.map fun v => v.category).sum ≤ 8) (k : zc_M (d + 1) own cc nL ret nm X γ mc ms (pc + 3) ls st ws Q) : zc_M (d + 1) own cc nL ret nm X γ mc ms pc ls (.ref a :: st) ws Q := by
  intro p l e R s m args below meth c D A cells slots H locs Z lsr hnm C Wd hls K
  obtain ⟨⟨hx, hb, hml, hown, hts⟩, c2, hK, hA, c5⟩ := id C
  refine W.objInit hx hb hown (hts _ hl) (hts _ hi) (hts _ hc) rfl (by rw [hml]; exact hls.1) rfl hd (by omega) ?_ ?_
  · have : 2 * (F0 m pc lsr (Value.ref a :: st)).monitorRoom = 0 := rfl
    omega
  · exact (k p l e R s m args below meth c D A cells slots H locs Z lsr hnm C Wd hls K)
theorem zc_newa {mc' ms' N' : Nat} {n : Int32} (hd : decode cc pc = .ok (.newarray .int, 2)) (hn : ¬ n < 0) (hN : n.toNatClampNeg = N') (hb4 : N' ≤ 100000) (e1 : mc = 1 + mc') (e2 : ms = N' + ms') (ha : Cond.arrayClass .int ∈ zk_tb) (k : ∀ q, zc_M d own cc nL ret nm X γ mc' ms' (pc + 2) ls (.ref q :: st) (ws ++ [(q, .inl (γ 0, N', .inl (fun _ => 0)))]) Q) : zc_M d own cc nL ret nm X γ mc ms pc ls (.int n :: st) ws Q := by
  intro p l e R s m args below meth c D A cells slots H locs Z lsr hnm C Wd hls K
  obtain ⟨⟨hx, hb, hml, hown, hts⟩, c2, hK, hA, c5⟩ := id C
  refine va_newa hx hb (atype := .int) (hts _ ha) (ty := .int) rfl hK Wd.1 Wd.2.1 Wd.2.2 hA (a0 := (N', .inl (fun _ => 0))) (fun cA => rfl) hn hN (by show N' * 4 ≤ 536870912; omega) (by omega) (by omega) hd (fun q cA H1 hK1 hP1 hD1 hS1 => ?_)
  obtain rfl : cA = γ 0 := zc_un hK1 (i := 5) (j := 0) rfl rfl
  exact (k q p l e R s m args below meth c D A (cells + 1) (slots + N') H1 locs Z lsr hnm ⟨⟨hx, hb, hml, hown, hts⟩, c2, hK, hA, ⟨c5.1, c5.2.1, by omega, by omega⟩⟩ ⟨hP1, hD1, hS1⟩ hls (fun r ws' H' locs' pc' lsr' q1 q2 q3 => by have := K r ws' H' locs' pc' lsr' q1 q2 q3; rw [show cells + mc = cells + 1 + mc' by omega, show slots + ms = slots + N' + ms' by omega] at this; exact this))
theorem zc_newl {mc' ms' N' : Nat} {n : Int32} (hd : decode cc pc = .ok (.newarray .long, 2)) (hn : ¬ n < 0) (hN : n.toNatClampNeg = N') (hb4 : N' ≤ 100000) (e1 : mc = 1 + mc') (e2 : ms = N' + ms') (ha : Cond.arrayClass .long ∈ zk_tb) (k : ∀ q, zc_M d own cc nL ret nm X γ mc' ms' (pc + 2) ls (.ref q :: st) (ws ++ [(q, .inl (γ 1, N', .inr (.inl (fun _ => 0))))]) Q) : zc_M d own cc nL ret nm X γ mc ms pc ls (.int n :: st) ws Q := by
  intro p l e R s m args below meth c D A cells slots H locs Z lsr hnm C Wd hls K
  obtain ⟨⟨hx, hb, hml, hown, hts⟩, c2, hK, hA, c5⟩ := id C
  refine va_newa hx hb (atype := .long) (hts _ ha) (ty := .long) rfl hK Wd.1 Wd.2.1 Wd.2.2 hA (a0 := (N', .inr (.inl (fun _ => 0)))) (fun cA => rfl) hn hN (by show N' * 8 ≤ 536870912; omega) (by omega) (by omega) hd (fun q cA H1 hK1 hP1 hD1 hS1 => ?_)
  obtain rfl : cA = γ 1 := zc_un hK1 (i := 5) (j := 1) rfl rfl
  exact (k q p l e R s m args below meth c D A (cells + 1) (slots + N') H1 locs Z lsr hnm ⟨⟨hx, hb, hml, hown, hts⟩, c2, hK, hA, ⟨c5.1, c5.2.1, by omega, by omega⟩⟩ ⟨hP1, hD1, hS1⟩ hls (fun r ws' H' locs' pc' lsr' q1 q2 q3 => by have := K r ws' H' locs' pc' lsr' q1 q2 q3; rw [show cells + mc = cells + 1 + mc' by omega, show slots + ms = slots + N' + ms' by omega] at this; exact this))
theorem zc_newq {mc' ms' N' idx : Nat} {C : String} {n : Int32} (t : Nat) (hd : decode cc pc = .ok (.anewarray idx, 3)) (hcl : Cond.classLink own idx C ∈ zk_tb) (hao : ∀ s, zc_AO s → va_AO C s) (hty : ∀ γ, (zk_ty γ)[t]? = some (γ t, .object C)) (hn : ¬ n < 0) (hN : n.toNatClampNeg = N') (hb4 : N' ≤ 100000) (e1 : mc = 1 + mc') (e2 : ms = N' + ms') (k : ∀ q, zc_M d own cc nL ret nm X γ mc' ms' (pc + 3) ls (.ref q :: st) (ws ++ [(q, .inl (γ t, N', .inr (.inr (.inr (.inr (fun _ => none))))))]) Q) : zc_M d own cc nL ret nm X γ mc ms pc ls (.int n :: st) ws Q := by
  intro p l e R s m args below meth c D A cells slots H locs Z lsr hnm C Wd hls K
  obtain ⟨⟨hx, hb, hml, hown, hts⟩, c2, hK, hA, c5⟩ := id C
  refine va_newq hx hb hown (hts _ hcl) (hao s c2.2.2.2) hK Wd.1 Wd.2.1 Wd.2.2 hA hn hN (by omega) (by omega) (by omega) hd (fun q cA H1 hK1 hP1 hD1 hS1 => ?_)
  have hl : t < (zk_ty γ).length := (List.getElem?_eq_some_iff.mp (hty γ)).1
  obtain rfl : cA = γ t := zc_un hK1 (i := 5) (j := t) rfl (by rw [List.getElem?_append_left hl]; exact hty γ)
  exact (k q p l e R s m args below meth c D A (cells + 1) (slots + N') H1 locs Z lsr hnm ⟨⟨hx, hb, hml, hown, hts⟩, c2, hK, hA, ⟨c5.1, c5.2.1, by omega, by omega⟩⟩ ⟨hP1, hD1, hS1⟩ hls (fun r ws' H' locs' pc' lsr' q1 q2 q3 => by have := K r ws' H' locs' pc' lsr' q1 q2 q3; rw [show cells + mc = cells + 1 + mc' by omega, show slots + ms = slots + N' + ms' by omega] at this; exact this))
theorem zc_new {mc' ms' N ci idx : Nat} {C : String} {T : u_T} {fs : List Value} (ty : Nat → FieldType) (hd : decode cc pc = .ok (.new idx, 3)) (hin : ∀ w ∈ u_ws C T N, w ∈ zk_tb) (hty : ∀ k, k < N → parseFieldDescriptor (T k).2.2.1 = some (ty k)) (hcl : Cond.classLink own idx C ∈ zk_tb) (hinst : Cond.instantiable C N ∈ zk_tb) (hini : Cond.initialized C ∈ zk_tb) (hc : vwCl[ci]? = some (C, T, N)) (hfs : ∀ j, j < N → defaultValue (ty j) = vp_V fs j) (e1 : mc = 1 + mc') (e2 : ms = N + ms') (k : ∀ q, zc_M d own cc nL ret nm X γ mc' ms' (pc + 3) ls (.ref q :: st) (ws ++ [(q, .inr (ci, fs))]) Q) : zc_M d own cc nL ret nm X γ mc ms pc ls st ws Q := by
  intro p l e R s m args below meth c D A cells slots H locs Z lsr hnm C Wd hls K
  obtain ⟨⟨hx, hb, hml, hown, hts⟩, c2, hK, hA, c5⟩ := id C
  refine va_new hx hb hts hin ty hty hown (hts _ hcl) (hts _ hinst) (hts _ hini) hK Wd.1 Wd.2.1 Wd.2.2 hA hc hfs (by omega) (by omega) hd (fun q H1 hP1 hD1 hS1 => ?_)
  exact (k q p l e R s m args below meth c D A (cells + 1) (slots + N) H1 locs Z lsr hnm ⟨⟨hx, hb, hml, hown, hts⟩, c2, hK, hA, ⟨c5.1, c5.2.1, by omega, by omega⟩⟩ ⟨hP1, hD1, hS1⟩ hls (fun r ws' H' locs' pc' lsr' q1 q2 q3 => by have := K r ws' H' locs' pc' lsr' q1 q2 q3; rw [show cells + mc = cells + 1 + mc' by omega, show slots + ms = slots + N + ms' by omega] at this; exact this))
theorem zc_put {ws' : va_W} {idx ci kf a : Nat} {fs : List Value} {ty : FieldType} {v : Value} (q0 : Nat) (hd : decode cc pc = .ok (.putfield idx, 3)) (hf : zk_Fl own idx ci kf ty false) (he : ws[q0]? = some (a, .inr (ci, fs))) (hn : narrow ty v = v) (hfit : fits ty v = true) (hl : kf < fs.length) (hw : ws.set q0 (a, .inr (ci, fs.set kf v)) = ws') (k : zc_M d own cc nL ret nm X γ mc ms (pc + 3) ls st ws' Q) : zc_M d own cc nL ret nm X γ mc ms pc ls (v :: .ref a :: st) ws Q := by
  subst hw
  intro p l e R s m args below meth c D A cells slots H locs Z lsr hnm C Wd hls K
  obtain ⟨⟨hx, hb, hml, hown, hts⟩, c2, hK, hA, c5⟩ := id C
  obtain ⟨C0, T0, N0, ty0, f1, f2, f3, f4, f5, f6, f7, f8⟩ := hf
  exact va_put hx hb hts f4 ty0 f5 f6 hown hK Wd.1 Wd.2.1 Wd.2.2 q0 he f1 kf f2 (hts _ f3) (fun x h => h) f8 (ty := ty) (v := v) (by rw [f5 kf f2, f7]) hn hfit hl hd (fun H1 locs1 hP1 hD1 hS1 => (k p l e R s m args below meth c D A cells slots H1 locs1 Z lsr hnm C ⟨hP1, hD1, hS1⟩ hls K))
theorem zc_putF {ws' : va_W} {idx ci kf a : Nat} {fs : List Value} {ty : FieldType} {v : Value} {T : u_T} {N : Nat} {C : String} (q0 : Nat) (hd : decode cc pc = .ok (.putfield idx, 3)) (hf : zk_Fl own idx ci kf ty true) (hci : vwCl[ci]? = some (C, T, N)) (hdc : (T kf).1 = own) (he : ws[q0]? = some (a, .inr (ci, fs))) (hi : nm = "<init>") (hn : narrow ty v = v) (hfit : fits ty v = true) (hl : kf < fs.length) (hw : ws.set q0 (a, .inr (ci, fs.set kf v)) = ws') (k : zc_M d own cc nL ret nm X γ mc ms (pc + 3) ls st ws' Q) : zc_M d own cc nL ret nm X γ mc ms pc ls (v :: .ref a :: st) ws Q := by
  subst hw
  intro p l e R s m args below meth c D A cells slots H locs Z lsr hnm C Wd hls K
  obtain ⟨⟨hx, hb, hml, hown, hts⟩, c2, hK, hA, c5⟩ := id C
  obtain ⟨C0, T0, N0, ty0, f1, f2, f3, f4, f5, f6, f7, f8⟩ := hf
  rw [hci] at f1
  cases f1
  exact va_putF hx hb hts f4 ty0 f5 f6 hown hK Wd.1 Wd.2.1 Wd.2.2 q0 he hci kf f2 (hts _ f3) (fun x h => h) f8 (hnm.trans hi) hdc (ty := ty) (v := v) (by rw [f5 kf f2, f7]) hn hfit hl hd (fun H1 locs1 hP1 hD1 hS1 => (k p l e R s m args below meth c D A cells slots H1 locs1 Z lsr hnm C ⟨hP1, hD1, hS1⟩ hls K))
theorem zc_get {idx ci kf a : Nat} {fs : List Value} {ty : FieldType} {fin : Bool} {v : Value} (q0 : Nat) (hd : decode cc pc = .ok (.getfield idx, 3)) (hf : zk_Fl own idx ci kf ty fin) (he : ws[q0]? = some (a, .inr (ci, fs))) (hv : fs[kf]? = some v) (k : zc_M d own cc nL ret nm X γ mc ms (pc + 3) ls (v :: st) ws Q) : zc_M d own cc nL ret nm X γ mc ms pc ls (.ref a :: st) ws Q := by
  intro p l e R s m args below meth c D A cells slots H locs Z lsr hnm C Wd hls K
  obtain ⟨⟨hx, hb, hml, hown, hts⟩, c2, hK, hA, c5⟩ := id C
  obtain ⟨C0, T0, N0, ty0, f1, f2, f3, f4, f5, f6, f7, f8⟩ := hf
  exact va_get hx hb hts f4 hown hK Wd.1 q0 he f1 kf f2 (hts _ f3) (fun x h => h) hv hd (k p l e R s m args below meth c D A cells slots H locs Z lsr hnm C Wd hls K)
theorem zc_alen {a : Nat} {x : vp_A} {v : Int32} (q0 t : Nat) {cA : ClassId} {ty : FieldType} (hd : decode cc pc = .ok (.arraylength, 1)) (ha : ws[q0]? = some (a, .inl (cA, x))) (ht : (zk_ty γ)[t]? = some (cA, ty)) (hv : Int32.ofNat x.1 = v) (k : zc_M d own cc nL ret nm X γ mc ms (pc + 1) ls (.int v :: st) ws Q) : zc_M d own cc nL ret nm X γ mc ms pc ls (.ref a :: st) ws Q := by
  intro p l e R s m args below meth c D A cells slots H locs Z lsr hnm C Wd hls K
  obtain ⟨⟨hx, hb, hml, hown, hts⟩, c2, hK, hA, c5⟩ := id C
  exact va_alen hx hb hK Wd.1 q0 t ha ht hv hd (k p l e R s m args below meth c D A cells slots H locs Z lsr hnm C Wd hls K)
theorem zc_iast {ws' : va_W} {a n : Nat} {f : Nat → Int32} {i x : Int32} (q0 : Nat) (hd : decode cc pc = .ok (.iastore, 1)) (ha : ws[q0]? = some (a, .inl (γ 0, n, .inl f))) (hin : vp_in i n) (hw : ws.set q0 (a, .inl (γ 0, n, .inl (upd f i.toNatClampNeg x))) = ws') (k : zc_M d own cc nL ret nm X γ mc ms (pc + 1) ls st ws' Q) : zc_M d own cc nL ret nm X γ mc ms pc ls (.int x :: .int i :: .ref a :: st) ws Q := by
  subst hw
  intro p l e R s m args below meth c D A cells slots H locs Z lsr hnm C Wd hls K
  obtain ⟨⟨hx, hb, hml, hown, hts⟩, c2, hK, hA, c5⟩ := id C
  exact va_iast hx hb hK Wd.1 Wd.2.1 Wd.2.2 q0 0 ha rfl hin hd (fun H1 locs1 hP1 hD1 hS1 => (k p l e R s m args below meth c D A cells slots H1 locs1 Z lsr hnm C ⟨hP1, hD1, hS1⟩ hls K))
theorem zc_aast {ws' : va_W} {a n v ci : Nat} {vs : List Value} {f : Nat → Option Nat} {i : Int32} {r : vw_C} (t q0 qk : Nat) (hd : decode cc pc = .ok (.aastore, 1)) (ha : ws[q0]? = some (a, .inl (γ t, n, .inr (.inr (.inr (.inr f)))))) (ht : (zk_ty γ)[t]? = some (γ t, .object r.1)) (hv : ws[qk]? = some (v, .inr (ci, vs))) (hc : vwCl[ci]? = some r) (hin : vp_in i n) (hw : ws.set q0 (a, .inl (γ t, n, .inr (.inr (.inr (.inr (va_up f i.toNatClampNeg (some v))))))) = ws') (k : zc_M d own cc nL ret nm X γ mc ms (pc + 1) ls st ws' Q) : zc_M d own cc nL ret nm X γ mc ms pc ls (.ref v :: .int i :: .ref a :: st) ws Q := by
  subst hw
  intro p l e R s m args below meth c D A cells slots H locs Z lsr hnm C Wd hls K
  obtain ⟨⟨hx, hb, hml, hown, hts⟩, c2, hK, hA, c5⟩ := id C
  exact va_astq hx hb hK Wd.1 Wd.2.1 Wd.2.2 q0 t qk ci ha ht hv hc hin hd (fun H1 locs1 hP1 hD1 hS1 => (k p l e R s m args below meth c D A cells slots H1 locs1 Z lsr hnm C ⟨hP1, hD1, hS1⟩ hls K))
theorem zc_mna {mc' ms' idx : Nat} (hd : decode cc pc = .ok (.multianewarray idx 2, 4)) (hcl : Cond.classLink own idx "[[I" ∈ zk_tb) (ha : Cond.arrayClass .int ∈ zk_tb) (e1 : mc = 5 + mc') (e2 : ms = 36 + ms') (k : ∀ q r0 r1 r2 r3, zc_M d own cc nL ret nm X γ mc' ms' (pc + 4) ls (.ref q :: st) (ws ++ [(q, .inl (γ 4, 4, .inr (.inr (.inr (.inr (fun j => ([r0, r1, r2, r3] : List Nat)[j]?)))))), (r0, .inl (γ 0, 8, .inl (fun _ => 0))), (r1, .inl (γ 0, 8, .inl (fun _ => 0))), (r2, .inl (γ 0, 8, .inl (fun _ => 0))), (r3, .inl (γ 0, 8, .inl (fun _ => 0)))]) Q) : zc_M d own cc nL ret nm X γ mc ms pc ls (.int 8 :: .int 4 :: st) ws Q := by
  intro p l e R s m args below meth c D A cells slots H locs Z lsr hnm C Wd hls K
  obtain ⟨⟨hx, hb, hml, hown, hts⟩, c2, hK, hA, c5⟩ := id C
  have hcy : s.vm.findClass (FieldType.array .int).toString = some (γ 0) := (hK.2 0 (γ 0, .int) rfl).2
  refine va_mna (X := ws) (L := []) (f := fun _ => .inr (0, [])) hx hb hown (ty := .int) (hts _ hcl) c2.2.2.2.2.2 (hts _ ha) hcy hK (by show va_P D vwCl (ws ++ []) H; rw [List.append_nil]; exact Wd.1) (by show va_D A (ws ++ []); rw [List.append_nil]; exact Wd.2.1) Wd.2.2 hA (N' := 4) (K' := 8) (z := (8, .inl (fun _ => 0))) (by decide) (by decide) (by decide) (by decide) (by decide) (by decide) (by decide) rfl rfl (by omega) (by omega) (fun c => rfl) hd (fun q r cA H1 hinj hnl hK1 hP1 hD1 hS1 => ?_)
  obtain rfl : cA = γ 4 := zc_un hK1 (i := 5) (j := 4) rfl rfl
  have hr : (List.range 4).map r = [r 0, r 1, r 2, r 3] := rfl
  have ew : ∀ z, z ∈ [r 0, r 1, r 2, r 3] → vr_up (fun _ => (.inr (0, []) : va_E)) [r 0, r 1, r 2, r 3] (.inl (γ 0, 8, .inl (fun _ => 0))) z = .inl (γ 0, 8, .inl (fun _ => 0)) := fun z hz => vr_up_in hz
  have ef : (fun i => if i < 4 then some (r i) else none) = (fun j => ([r 0, r 1, r 2, r 3] : List Nat)[j]?) := by
    funext j
    match j with
    | 0 => rfl
    | 1 => rfl
    | 2 => rfl
    | 3 => rfl
    | j + 4 => rw [if_neg (by omega)]; rfl
  have eL : ∀ (g : Nat → va_E), (∀ z, z ∈ [r 0, r 1, r 2, r 3] → g z = .inl (γ 0, 8, .inl (fun _ => 0))) → va_pl ([] ++ [r 0, r 1, r 2, r 3]) g = [(r 0, .inl (γ 0, 8, .inl (fun _ => 0))), (r 1, .inl (γ 0, 8, .inl (fun _ => 0))), (r 2, .inl (γ 0, 8, .inl (fun _ => 0))), (r 3, .inl (γ 0, 8, .inl (fun _ => 0)))] := by
    intro g hg
    show [(r 0, g (r 0)), (r 1, g (r 1)), (r 2, g (r 2)), (r 3, g (r 3))] = _
    rw [hg (r 0) (by simp), hg (r 1) (by simp), hg (r 2) (by simp), hg (r 3) (by simp)]
  rw [hr, eL _ ew, ef, List.append_assoc] at hP1 hD1
  have := (k q (r 0) (r 1) (r 2) (r 3) p l e R s m args below meth c D A (cells + 1 + 4) (slots + 4 + 32) H1 locs Z lsr hnm ⟨⟨hx, hb, hml, hown, hts⟩, c2, hK, hA, ⟨c5.1, c5.2.1, by omega, by omega⟩⟩ ⟨hP1, hD1, hS1⟩ hls (fun r ws' H' locs' pc' lsr' q1 q2 q3 => by have := K r ws' H' locs' pc' lsr' q1 q2 q3; rw [show cells + mc = cells + 1 + 4 + mc' by omega, show slots + ms = slots + 4 + 32 + ms' by omega] at this; exact this))
  exact this
end ZCM
def zc_Pc (D : va_G) (γ : Nat → ClassId) (wc : va_W) (sz : Nat) (as : List Value) : Array Value → State → Prop := va_Pc as (fun U => U.heap.size = sz ∧ va_P D vwCl wc U.heap ∧ va_K D vwCl (zk_ty γ) U ∧ va_D (fun _ => True) wc ∧ zk_Nst U ∧ zc_AO U)
def zc_Qc (D : va_G) (wc : va_W) (sz : Nat) (Q : Option Value → va_W → Prop) : Array Value → State → Outcome → State → Prop := fun _ st oc t => (∃ (r : Option Value) (w1 : va_W), oc = .returned r ∧ Q r w1 ∧ va_P D vwCl w1 t.heap ∧ va_D (va_A wc sz) w1) ∧ va_F (va_A wc sz) st t
def zc_Rm (d mc ms : Nat) : Room := { frames := d, cells := mc, slots := ms, locals := d * 80 }
theorem zid_map (as : List Value) : as.map (zk_rv zid) = as := by
  induction as with
  | nil => rfl
  | cons a as ih =>
    rw [List.map_cons, ih]
    cases a <;> rfl
theorem zc_met (l : Launch) {d : Nat} {own : String} {y : MethodName} {cc : ByteArray} {nL n mc ms : Nat} {ret : Option FieldType} {γ : Nat → ClassId} (hy : zk_Mt own y cc nL ret n) {as : List Value} (hlen : (zk_ent as).length ≤ nL) {wc : va_W} {Q : Option Value → va_W → Prop} (h : zc_M d own cc nL ret y.name (zcR cc ret) γ mc ms 0 (zk_loc as nL) [] wc Q) (D : va_G) (sz : Nat) :
    Met l y (.code y cc nL ret :: zk_tb) (zc_Rm d mc ms) (zc_Pc D γ wc sz as) (zc_Qc D wc sz Q) mc ms (va_A wc sz) := by
  obtain ⟨hown0, hpl, -, -, -, -, -, -⟩ := hy
  refine Met.ofW (cc := cc) (maxL := nL) (ret := ret) hpl rfl ?_
  intro p e s m args below meth c s₁ B hml hv
  obtain ⟨rfl, hsz, hP, hK, hD0, hN, hAO⟩ := hv
  have hts := atoms_spec (ws := .code y cc nL ret :: zk_tb) B.pre
  have hown : s.vm.findClass own = some m.cls := by rw [← hown0]; exact findClass_of_methodNamed B.named
  subst hsz
  have hD := hD0.self (sz := s.heap.size)
  rw [lg_entry_eq]
  have hl := lv_entry as (n := nL) (by have := zk_ent_len zid as; rw [zid_map] at this; rw [this]; exact hlen)
  refine h p l e (zc_Rm d mc ms) s m _ below meth c D (va_A wc s.heap.size) 0 0 s.heap [] _ _ (name_of_methodNamed B.named B.method).1 ⟨⟨B.exec, B.bytes, hml, hown, fun w hw => hts w (List.mem_cons_of_mem _ hw)⟩, ⟨B.returns, B.notSynchronized, hN, hAO⟩, hK, fun q hq => Or.inr hq, ⟨Nat.le_refl _, Nat.le_refl _, by show 0 + mc ≤ mc; omega, by show 0 + ms ≤ ms; omega⟩⟩ ⟨hP, hD, va_S.rf⟩ (zk_has_loc (by rw [zid_map]; exact hl)) ?_
  intro r ws' H' locs' pc' lsr' hQ hW hR
  obtain ⟨hP', hD', hS'⟩ := hW
  have hlocks := B.notSynchronized
  have hret := B.returns
  rw [Nat.zero_add, Nat.zero_add]
  have key : ∀ t : State, t.heap = H' → s.WarmedH t.vm → zc_Qc D wc s.heap.size Q as.toArray s (.returned r) t := fun t ht hw => ⟨⟨r, ws', rfl, hQ, by rw [ht]; exact hP', hD'⟩, hS'.F ht⟩
  match r, hR, key with
  | none, hR, key => exact W.vret B.exec B.bytes (hret.trans hR.2) key (fun q hq => hS'.2.2 q hq) hR.1
  | some (.ref v), hR, key =>
    obtain ⟨h1, nm, h2⟩ := hR
    exact W.aret B.exec B.bytes (hret.trans h2) (Or.inr ⟨nm, rfl⟩) (Or.inr ⟨_, rfl⟩) key (fun q hq => hS'.2.2 q hq) h1
theorem zc_blind {D : va_G} {γ : Nat → ClassId} {wc : va_W} {sz : Nat} {as : List Value} : FrameBlind (zc_Pc D γ wc sz as) := by
  intro a U g mk q
  obtain ⟨h1, h2, h3, h4, h5, ⟨h6, h7⟩, h8⟩ := q
  exact ⟨h1, h2, h3, va_K.moved (u := U) (U := U.calling g mk a) (Vm.Alike.refl U.vm) h4, h5, ⟨va_Nw.same (u := U) rfl rfl h6, va_Nw.same (u := U) rfl rfl h7⟩, zc_AO.moved (u := U) (U := U.calling g mk a) (Vm.Alike.refl U.vm) h8⟩
theorem zc_sub {α : Type} {f : Nat → Option α} : ∀ {is : List Nat} {w : List α}, is.map f = w.map some → is.filterMap f = w
  | [], [], _ => rfl
  | [], _ :: _, h => by cases h
  | _ :: _, [], h => by cases h
  | i :: is, x :: w, h => by
    rw [List.map_cons, List.map_cons] at h
    have h1 := (List.cons.inj h).1
    have h2 := (List.cons.inj h).2
    rw [List.filterMap_cons, h1, zc_sub h2]
section ZCC
variable {d : Nat} {own : String} {cc : ByteArray} {nL : Nat} {ret : Option FieldType} {nm : String} {X : Nat → Array Slot → Option Value → va_W → Prop} {γ : Nat → ClassId} {mc ms : Nat} {ls st : List Value} {ws : va_W} {Q : Option Value → va_W → Prop} {pc : Nat} {own' : String} {y : MethodName} {cc' : ByteArray} {nL' : Nat} {ret' : Option FieldType} {n idx : Nat} {Q1 : Option Value → va_W → Prop} {mc1 ms1 mc2 ms2 : Nat}
theorem zc_back {p : Program} {l : Launch} {e : Env} {R : Room} {s : State} {m : MethodId} {args : Array Value} {below : List Frame} {meth : Method} {c : Code} {H : Heap} {locs : List Loc} {cells slots : Nat} {Z : State → Prop} {lsr : Array Slot} {st0 rest : List Value} {a : Array Value} {A : Nat → Prop} {D : va_G} {wc wr : va_W}
    (hr : va_Run p l e R s m args below meth c H locs cells slots mc1 ms1 (F0 m pc lsr st0) rest (zc_Qc D wc H.size Q1 a) (va_A wc H.size)) (hW : zc_Wd s D A H locs ws) (hA : ∀ q, s.heap.size ≤ q → A q)
    (isC isR : List Nat) (hC : isC.map (fun i => ws[i]?) = wc.map some) (hR : isR.map (fun i => ws[i]?) = wr.map some) (hn : va_nd isR = true) (hdis : ∀ i ∈ isR, i ∉ isC)
    (kk : ∀ (r : Option Value) (w1 : va_W) (H1 : Heap) (locs1 : List Loc), Q1 r w1 → zc_Wd s D A H1 locs1 (wr ++ w1) → W p l e R s m args below meth c H1 locs1 (cells + mc1) (slots + ms1) Z (F0 m (pc + 3) lsr (r.toList ++ rest))) : W p l e R s m args below meth c H locs cells slots Z (F0 m pc lsr st0) := by
  obtain ⟨hP, hD, hS⟩ := hW
  have hF := va_free (wc := wc) hD hS hA isC hC
  intro T hT X0
  obtain ⟨v, st₀, t, T', L, h0, X1, hL, e1, e2, ⟨⟨r, w1, hv, hq, hb1, hd1⟩, hz, hk⟩, stp⟩ := hr T hT X0
  cases hv
  rw [h0] at hz hk
  obtain ⟨hPj, hDj⟩ := va_join (wr := wr) (w1 := w1) hP hD isC isR hC hR hn hdis (H1 := T'.heap) (fun q h1 h2 => by rw [e1]; exact hk q h1 h2) hF (by rw [e1]; exact hb1) hd1
  have hS' : va_S A s.heap T'.heap (locs ++ L) := ⟨Nat.le_trans hS.1 (by rw [e1]; exact hz), fun q h1 h2 => by rw [e1, hk q (Nat.lt_of_lt_of_le h1 hS.1) (fun z => h2 (hF q z))]; exact hS.2.1 q h1 h2, fun q hq => by
      rcases List.mem_append.mp hq with h | h
      · exact hS.2.2 q h
      · exact hF _ (hL q h)⟩
  obtain ⟨t2, a1, b1⟩ := kk v w1 T'.heap (locs ++ L) hq ⟨hPj, hDj, hS'⟩ T' rfl X1
  exact ⟨t2, stp t2 a1, b1⟩
theorem zc_callI {b : Nat} {wc wr : va_W} (as st' : List Value) (hd : decode cc pc = .ok (.invokespecial idx, 3)) (hy : zk_Mt own' y cc' nL' none n) (hl : Cond.methodLink own idx y ∈ zk_tb) (hs : Cond.instanceMethod y ∈ zk_tb) (hin : y.name = "<init>") (hst : st = as.reverse ++ .ref b :: st') (hn : as.length = n) (hlen : (zk_ent (.ref b :: as)).length ≤ nL') (hc : (st'.map fun v => v.category).sum ≤ 8)
    (isC isR : List Nat) (hC : isC.map (fun i => ws[i]?) = wc.map some) (hR : isR.map (fun i => ws[i]?) = wr.map some) (hnd : va_nd isR = true) (hdis : ∀ i ∈ isR, i ∉ isC) (hndC : va_nd isC = true) (e1 : mc = mc1 + mc2) (e2 : ms = ms1 + ms2)
    (h : zc_M d own' cc' nL' none y.name (zcR cc' none) γ mc1 ms1 0 (zk_loc (.ref b :: as) nL') [] wc Q1) (kk : ∀ r w1, Q1 r w1 → zc_M (d + 1) own cc nL ret nm X γ mc2 ms2 (pc + 3) ls (r.toList ++ st') (wr ++ w1) Q) : zc_M (d + 1) own cc nL ret nm X γ mc ms pc ls st ws Q := by
  subst hst
  intro p l e R s m args below meth c D A cells slots H locs Z lsr hnm C Wd hls K
  obtain ⟨F, c2, hK, hA, ⟨c5, c6, c7, c7'⟩⟩ := id C
  obtain ⟨y1, y2, y3, y4, y5, y6, y7, y8⟩ := id hy
  have hts := F.2.2.2.2
  have hws : ∀ w ∈ (.code y cc' nL' none :: zk_tb), w ∈ zk_tb := by
    intro w hw
    rcases List.mem_cons.mp hw with rfl | hw
    · exact y7
    · exact hw
  have hPc := Wd.1.sub (ws' := wc) isC (zc_sub hC)
  have hDc := Wd.2.1.sub (ws' := wc) isC hndC hC
  refine zc_back (D := D) (rest := st') (va_runI (As := as) (rest := st') (b := b) F (zc_met l hy hlen h D H.size) (cwI n hts (zk_gi hws) rfl rfl rfl (hts _ y8) (hts _ hl) (hts _ hs) hin ⟨y3, y4, y5⟩ ⟨c5, by show 8 + (nL' + 11) + d * 80 ≤ R.locals; omega⟩) ⟨zc_blind, fun U hU hW => ⟨rfl, by rw [hU], by rw [hU]; exact hPc, va_K.moved hW.alike hK, hDc.weaken (fun _ _ _ _ => trivial), ⟨va_Nw.warmM hW c2.2.2.1.1, va_Nw.warmM hW c2.2.2.1.2⟩, zc_AO.moved hW.alike c2.2.2.2⟩⟩ rfl hn hls.1 rfl (by have : 2 * (F0 m pc lsr (as.reverse ++ .ref b :: st')).monitorRoom = 0 := rfl; omega) hd ⟨by omega, by omega⟩) Wd hA isC isR hC hR hnd hdis ?_
  intro r w1 H1 locs1 q W1
  exact kk r w1 q p l e R s m args below meth c D A (cells + mc1) (slots + ms1) H1 locs1 Z lsr hnm ⟨F, c2, hK, hA, ⟨c5, c6, by omega, by omega⟩⟩ W1 hls (fun r ws' H' locs' pc' lsr' q1 q2 q3 => by have := K r ws' H' locs' pc' lsr' q1 q2 q3; rw [show cells + mc = cells + mc1 + mc2 by omega, show slots + ms = slots + ms1 + ms2 by omega] at this; exact this)
theorem zc_callS {wr : va_W} (as st' : List Value) (hd : decode cc pc = .ok (.invokestatic idx, 3)) (hy : zk_Mt own' y cc' nL' ret' n) (hl : Cond.methodLink own idx y ∈ zk_tb) (hs : Cond.static y ∈ zk_tb) (hst : st = as.reverse ++ st') (hn : as.length = n) (hlen : (zk_ent as).length ≤ nL') (hc : (st'.map fun v => v.category).sum ≤ 8)
    (isR : List Nat) (hR : isR.map (fun i => ws[i]?) = wr.map some) (hnd : va_nd isR = true) (e1 : mc = mc1 + mc2) (e2 : ms = ms1 + ms2)
    (h : zc_M d own' cc' nL' ret' y.name (zcR cc' ret') γ mc1 ms1 0 (zk_loc as nL') [] [] Q1) (kk : ∀ r w1, Q1 r w1 → zc_M (d + 1) own cc nL ret nm X γ mc2 ms2 (pc + 3) ls (r.toList ++ st') (wr ++ w1) Q) : zc_M (d + 1) own cc nL ret nm X γ mc ms pc ls st ws Q := by
  subst hst
  intro p l e R s m args below meth c D A cells slots H locs Z lsr hnm C Wd hls K
  obtain ⟨F, c2, hK, hA, ⟨c5, c6, c7, c7'⟩⟩ := id C
  obtain ⟨y1, y2, y3, y4, y5, y6, y7, y8⟩ := id hy
  have hts := F.2.2.2.2
  have hws : ∀ w ∈ (va_wsS own idx y (.code y cc' nL' ret' :: zk_tb)), w ∈ zk_tb := by
    intro w hw
    simp only [va_wsS, List.cons_append, List.nil_append, List.mem_cons] at hw
    rcases hw with rfl | rfl | rfl | rfl | hw
    · exact hl
    · exact hs
    · exact y8
    · exact y7
    · exact hw
  have hPc : va_P D vwCl [] H := fun k q hk => by simp at hk
  have hDc : va_D (fun _ => True) [] := ⟨fun i j p q hi => by simp at hi, fun k q hk => by simp at hk⟩
  refine zc_back (D := D) (wc := []) (rest := st') (va_runS (As := as) (rest := st') F (zc_met l hy hlen h D H.size) (va_cwS n hts (zk_gi hws) rfl rfl rfl ⟨y3, y4, y5⟩ ⟨c5, by show 8 + (nL' + 11) + d * 80 ≤ R.locals; omega⟩) ⟨zc_blind, fun U hU hW => ⟨rfl, by rw [hU], by rw [hU]; exact hPc, va_K.moved hW.alike hK, hDc, ⟨va_Nw.warmM hW c2.2.2.1.1, va_Nw.warmM hW c2.2.2.1.2⟩, zc_AO.moved hW.alike c2.2.2.2⟩⟩ rfl hn hls.1 rfl (by have : 2 * (F0 m pc lsr (as.reverse ++ st')).monitorRoom = 0 := rfl; omega) hd ⟨by omega, by omega⟩) Wd hA [] isR rfl hR hnd (fun _ _ h => by simp at h) ?_
  intro r w1 H1 locs1 q W1
  exact kk r w1 q p l e R s m args below meth c D A (cells + mc1) (slots + ms1) H1 locs1 Z lsr hnm ⟨F, c2, hK, hA, ⟨c5, c6, by omega, by omega⟩⟩ W1 hls (fun r ws' H' locs' pc' lsr' q1 q2 q3 => by have := K r ws' H' locs' pc' lsr' q1 q2 q3; rw [show cells + mc = cells + mc1 + mc2 by omega, show slots + ms = slots + ms1 + ms2 by omega] at this; exact this)
end ZCC
