/-! ===== CALLS: a callee's judgement is a contract; the frame is the world's ===== -/
/-- a method of the tables -/
def zk_Mt (own : String) (y : MethodName) (cc : ByteArray) (nL : Nat) (ret : Option FieldType) (n : Nat) : Prop :=
  y.cls = own ∧ plainName y.cls = true ∧ y.cls ≠ "java/lang/invoke/MethodHandle" ∧ y.cls ≠ "java/lang/invoke/VarHandle" ∧ (parseMethodDescriptor y.desc).map (fun d => d.parameters.length) = some n ∧ nL ≤ 50 ∧ Cond.code y cc nL ret ∈ zk_tb ∧ Cond.initialized y.cls ∈ zk_tb
def zk_Pc (D : va_G) (ρ : Nat → Nat) (γ : Nat → ClassId) (mu : Mem) (lm : MemL) (sz : Nat) (as : List Value) : Array Value → State → Prop := va_Pc (as.map (zk_rv ρ)) (fun U => U.heap.size = sz ∧ va_P D vwCl (zk_ws ρ γ mu lm) U.heap ∧ va_K D vwCl (zk_ty γ) U ∧ va_D (fun _ => True) (zk_ws ρ γ mu lm) ∧ zk_Nst U)
def zk_Qc (D : va_G) (ρ : Nat → Nat) (γ : Nat → ClassId) (A : Nat → Prop) (Q : Option Value → Mem → MemL → Prop) : Array Value → State → Outcome → State → Prop := fun _ st oc t => (∃ (r : Option Value) (mu' : Mem) (lm' : MemL), oc = .returned (r.map (zk_rv ρ)) ∧ Q r mu' lm' ∧ va_P D vwCl (zk_ws ρ γ mu' lm') t.heap) ∧ va_F A st t
def zk_Rm (d : Nat) : Room := { frames := d, cells := 0, slots := 0, locals := d * 80 }
theorem zk_met (l : Launch) {d : Nat} {own : String} {y : MethodName} {cc : ByteArray} {nL n : Nat} {ret : Option FieldType} (hy : zk_Mt own y cc nL ret n) {as : List Value} (hlen : (zk_ent as).length ≤ nL) {mu : Mem} {lm : MemL} {Q : Option Value → Mem → MemL → Prop} (h : zk_M d own cc nL ret none 0 (zk_loc as nL) [] mu lm Q) (D : va_G) (ρ : Nat → Nat) (γ : Nat → ClassId) (sz : Nat) :
    Met l y (.code y cc nL ret :: zk_tb) (zk_Rm d) (zk_Pc D ρ γ mu lm sz as) (zk_Qc D ρ γ (va_A (zk_ws ρ γ mu lm) sz) Q) 0 0 (va_A (zk_ws ρ γ mu lm) sz) := by
  obtain ⟨hown0, hpl, -, -, -, -, -, -⟩ := hy
  refine Met.ofW (cc := cc) (maxL := nL) (ret := ret) hpl rfl ?_
  intro p e s m args below meth c s₁ B hml hv
  obtain ⟨rfl, hsz, hP, hK, hD0, hN⟩ := hv
  have hts := atoms_spec (ws := .code y cc nL ret :: zk_tb) B.pre
  have hown : s.vm.findClass own = some m.cls := by rw [← hown0]; exact findClass_of_methodNamed B.named
  subst hsz
  have hD := hD0.self (sz := s.heap.size)
  rw [lg_entry_eq]
  have hl := lv_entry (as.map (zk_rv ρ)) (n := nL) (by rw [zk_ent_len]; exact hlen)
  refine h p l e (zk_Rm d) s m _ below meth c D ρ γ (va_A (zk_ws ρ γ mu lm) s.heap.size) 0 0 s.heap [] _ _ ⟨⟨B.exec, B.bytes, hml, hown, fun w hw => hts w (List.mem_cons_of_mem _ hw)⟩, ⟨B.returns, B.notSynchronized, hN⟩, hK, fun q hq => Or.inr hq, ⟨Nat.le_refl _, Nat.le_refl _, Nat.le_refl _, Nat.le_refl _⟩, fun L xs q => by cases q⟩ ⟨hP, hD, va_S.rf⟩ (zk_has_loc hl) ?_
  intro r mu' lm' H' locs' pc' lsr' hQ hW hR
  obtain ⟨hP', hD', hS'⟩ := hW
  have hlocks := B.notSynchronized
  have hret := B.returns
  have key : ∀ t : State, t.heap = H' → s.WarmedH t.vm → zk_Qc D ρ γ (va_A (zk_ws ρ γ mu lm) s.heap.size) Q (as.map (zk_rv ρ)).toArray s (.returned (r.map (zk_rv ρ))) t := fun t ht hw => ⟨⟨r, mu', lm', rfl, hQ, by rw [ht]; exact hP'⟩, hS'.F ht⟩
  match r, hR, key with
  | none, hR, key => exact W.vret B.exec B.bytes (hret.trans hR.2) key (fun q hq => hS'.2.2 q hq) hR.1
  | some (.int v), hR, key =>
    rcases hR.2 with h1 | ⟨h1, h2⟩
    · exact W.iret B.exec B.bytes (hret.trans h1) key (fun q hq => hS'.2.2 q hq) hR.1
    · exact W.zret B.exec B.bytes (hret.trans h1) (by rcases h2 with rfl | rfl <;> rfl) key (fun q hq => hS'.2.2 q hq) hR.1
  | some (.long v), hR, key => exact W.lret B.exec B.bytes (hret.trans hR.2) key (fun q hq => hS'.2.2 q hq) hR.1
  | some .null, hR, key =>
    obtain ⟨h1, nm, h2⟩ := hR
    exact W.aret B.exec B.bytes (hret.trans h2) (Or.inl ⟨nm, rfl⟩) (Or.inl rfl) key (fun q hq => hS'.2.2 q hq) h1
  | some (.ref v), hR, key =>
    obtain ⟨h1, nm, h2⟩ := hR
    exact W.aret B.exec B.bytes (hret.trans h2) (Or.inl ⟨nm, rfl⟩) (Or.inr ⟨_, rfl⟩) key (fun q hq => hS'.2.2 q hq) h1
theorem zk_blind {D : va_G} {ρ : Nat → Nat} {γ : Nat → ClassId} {mu : Mem} {lm : MemL} {sz : Nat} {as : List Value} : FrameBlind (zk_Pc D ρ γ mu lm sz as) := by
  intro a U g mk q
  obtain ⟨h1, h2, h3, h4, h5, h6, h7⟩ := q
  exact ⟨h1, h2, h3, va_K.moved (u := U) (U := U.calling g mk a) (Vm.Alike.refl U.vm) h4, h5, va_Nw.same (u := U) rfl rfl h6, va_Nw.same (u := U) rfl rfl h7⟩
/-- behind a call: the machine goes on in the world that the callee left -/
theorem zk_back {p : Program} {l : Launch} {e : Env} {R : Room} {s : State} {m : MethodId} {args : Array Value} {below : List Frame} {meth : Method} {c : Code} {H : Heap} {locs : List Loc} {cells slots : Nat} {Z : State → Prop} {pc : Nat} {lsr : Array Slot} {st0 rest : List Value} {a : Array Value} {A : Nat → Prop} {D : va_G} {ρ : Nat → Nat} {γ : Nat → ClassId} {mu : Mem} {lm : MemL} {Q1 : Option Value → Mem → MemL → Prop}
    (hr : va_Run p l e R s m args below meth c H locs cells slots 0 0 (F0 m pc lsr st0) (rest.map (zk_rv ρ)) (zk_Qc D ρ γ (va_A (zk_ws ρ γ mu lm) H.size) Q1 a) (va_A (zk_ws ρ γ mu lm) H.size)) (hW : zk_Wd s D ρ γ A H locs mu lm) (hA : ∀ q, s.heap.size ≤ q → A q)
    (kk : ∀ (r : Option Value) (mu' : Mem) (lm' : MemL) (H1 : Heap) (locs1 : List Loc), Q1 r mu' lm' → zk_Wd s D ρ γ A H1 locs1 mu' lm' → W p l e R s m args below meth c H1 locs1 cells slots Z (F0 m (pc + 3) lsr ((r.toList ++ rest).map (zk_rv ρ)))) : W p l e R s m args below meth c H locs cells slots Z (F0 m pc lsr st0) := by
  obtain ⟨hP, hD, hS⟩ := hW
  have hF : ∀ q, va_A (zk_ws ρ γ mu lm) H.size q → A q := by
    intro q h
    rcases h with ⟨k, e, h⟩ | h
    · exact hD.2 k (q, e) h
    · exact hA q (Nat.le_trans hS.1 h)
  intro T hT X
  obtain ⟨v, st₀, t, T', L, h0, X', hL, e1, e2, ⟨⟨r, mu', lm', hv, hq, hb⟩, hz, hk⟩, st⟩ := hr T hT X
  cases hv
  rw [h0] at hz hk
  have hS' : va_S A s.heap T'.heap (locs ++ L) := ⟨Nat.le_trans hS.1 (by rw [e1]; exact hz), fun q h1 h2 => by rw [e1, hk q (Nat.lt_of_lt_of_le h1 hS.1) (fun z => h2 (hF q z))]; exact hS.2.1 q h1 h2, fun q hq => by
      rcases List.mem_append.mp hq with h | h
      · exact hS.2.2 q h
      · exact hF _ (hL q h)⟩
  obtain ⟨t2, a1, b1⟩ := kk r mu' lm' T'.heap (locs ++ L) hq ⟨by rw [e1]; exact hb, zk_D_any hD, hS'⟩ T' rfl X'
  refine ⟨t2, st t2 ?_, b1⟩
  have e3 : (r.map (zk_rv ρ)).toList ++ rest.map (zk_rv ρ) = (r.toList ++ rest).map (zk_rv ρ) := by cases r <;> simp
  have e4 : ({ F0 m pc lsr st0 with pc := pc + 3, stack := (r.map (zk_rv ρ)).toList ++ rest.map (zk_rv ρ) } : JFrame) = F0 m (pc + 3) lsr ((r.toList ++ rest).map (zk_rv ρ)) := by rw [e3]
  exact e4 ▸ a1
section ZC
variable {d : Nat} {own : String} {cc : ByteArray} {nL : Nat} {ret : Option FieldType} {sx : Option (Nat × (Nat → Int32))} {ls st : List Value} {mu : Mem} {lm : MemL} {Q : Option Value → Mem → MemL → Prop} {pc : Nat} {own' : String} {y : MethodName} {cc' : ByteArray} {nL' : Nat} {ret' : Option FieldType} {n idx : Nat} {Q1 : Option Value → Mem → MemL → Prop}
theorem zk_cat (ρ : Nat → Nat) (st : List Value) : ((st.map (zk_rv ρ)).map fun v => v.category).sum = (st.map fun v => v.category).sum := by
  rw [List.map_map]
  congr 1
  apply List.map_congr_left
  intro a _
  exact zk_rv_cat ρ a
theorem zk_callS (hd : decode cc pc = .ok (.invokestatic idx, 3)) (hy : zk_Mt own' y cc' nL' ret' n) (hl : Cond.methodLink own idx y ∈ zk_tb) (hs : Cond.static y ∈ zk_tb) (as st' : List Value) (hst : st = as.reverse ++ st') (hn : as.length = n) (hlen : (zk_ent as).length ≤ nL') (hc : (st'.map fun v => v.category).sum ≤ 8)
    (h : zk_M d own' cc' nL' ret' none 0 (zk_loc as nL') [] mu lm Q1) (kk : ∀ r mu' lm', Q1 r mu' lm' → zk_M (d + 1) own cc nL ret sx (pc + 3) ls (r.toList ++ st') mu' lm' Q) : zk_M (d + 1) own cc nL ret sx pc ls st mu lm Q := by
  subst hst
  intro p l e R s m args below meth c D ρ γ A cells slots H locs Z lsr C Wd hls K
  obtain ⟨F, c2, hK, hA, ⟨c5, c6, c7, c7'⟩, c8⟩ := id C
  obtain ⟨y1, y2, y3, y4, y5, y6, y7, y8⟩ := id hy
  have hts := F.2.2.2.2
  have hws : ∀ w ∈ (va_wsS own idx y (.code y cc' nL' ret' :: zk_tb)), w ∈ zk_tb := by
    intro w hw
    simp only [va_wsS, List.cons_append, List.nil_append, List.mem_cons] at hw
    rcases hw with rfl | rfl | rfl | rfl | hw
    · exact hl
    · exact hs
    · exact y8
    · exact y7
    · exact hw
  refine zk_back (D := D) (ρ := ρ) (γ := γ) (rest := st') (va_runS (As := as.map (zk_rv ρ)) (rest := st'.map (zk_rv ρ)) F (zk_met l hy hlen h D ρ γ H.size) (va_cwS n hts (zk_gi hws) rfl rfl rfl ⟨y3, y4, y5⟩ ⟨c5, by show 8 + (nL' + 11) + d * 80 ≤ R.locals; omega⟩) ⟨zk_blind, fun U hU hW => ⟨rfl, by rw [hU], by rw [hU]; exact Wd.1, va_K.moved hW.alike hK, Wd.2.1.weaken (fun _ _ _ _ => trivial), va_Nw.warmM hW c2.2.2.1, va_Nw.warmM hW c2.2.2.2⟩⟩ rfl (by rw [List.length_map]; exact hn) hls.1 (by rw [List.map_append, List.map_reverse]) (lv_room (by rw [zk_cat]; exact hc)) hd ⟨c7, c7'⟩) Wd hA ?_
  intro r mu' lm' H1 locs1 q W1
  exact kk r mu' lm' q p l e R s m args below meth c D ρ γ A cells slots H1 locs1 Z lsr C W1 hls K
theorem zk_callSN {host : String} (hd : decode cc pc = .ok (.invokestatic idx, 3)) (hy : zk_Mt own' y cc' nL' ret' n) (hl : ∀ s, zk_Nst s → va_Nw (.methodLinkNest own idx y host) s) (hs : Cond.static y ∈ zk_tb) (as st' : List Value) (hst : st = as.reverse ++ st') (hn : as.length = n) (hlen : (zk_ent as).length ≤ nL') (hc : (st'.map fun v => v.category).sum ≤ 8)
    (h : zk_M d own' cc' nL' ret' none 0 (zk_loc as nL') [] mu lm Q1) (kk : ∀ r mu' lm', Q1 r mu' lm' → zk_M (d + 1) own cc nL ret sx (pc + 3) ls (r.toList ++ st') mu' lm' Q) : zk_M (d + 1) own cc nL ret sx pc ls st mu lm Q := by
  subst hst
  intro p l e R s m args below meth c D ρ γ A cells slots H locs Z lsr C Wd hls K
  obtain ⟨F, c2, hK, hA, ⟨c5, c6, c7, c7'⟩, c8⟩ := id C
  obtain ⟨y1, y2, y3, y4, y5, y6, y7, y8⟩ := id hy
  have hts := F.2.2.2.2
  have hws : ∀ w ∈ (.code y cc' nL' ret' :: zk_tb), w ∈ zk_tb := by
    intro w hw
    rcases List.mem_cons.mp hw with rfl | hw
    · exact y7
    · exact hw
  refine zk_back (D := D) (ρ := ρ) (γ := γ) (rest := st') (va_runSN (As := as.map (zk_rv ρ)) (rest := st'.map (zk_rv ρ)) F (zk_met l hy hlen h D ρ γ H.size) ⟨va_cnB n hts (zk_gi hws) rfl rfl rfl (hl s c2.2.2) (hts _ y8) ⟨y3, y4, y5⟩ ⟨c5, by show 8 + (nL' + 11) + d * 80 ≤ R.locals; omega⟩, hts _ hs, trivial⟩ ⟨zk_blind, fun U hU hW => ⟨rfl, by rw [hU], by rw [hU]; exact Wd.1, va_K.moved hW.alike hK, Wd.2.1.weaken (fun _ _ _ _ => trivial), va_Nw.warmM hW c2.2.2.1, va_Nw.warmM hW c2.2.2.2⟩⟩ rfl (by rw [List.length_map]; exact hn) hls.1 (by rw [List.map_append, List.map_reverse]) (lv_room (by rw [zk_cat]; exact hc)) hd ⟨c7, c7'⟩) Wd hA ?_
  intro r mu' lm' H1 locs1 q W1
  exact kk r mu' lm' q p l e R s m args below meth c D ρ γ A cells slots H1 locs1 Z lsr C W1 hls K
theorem zk_callV (hd : decode cc pc = .ok (.invokevirtual idx, 3)) (hy : zk_Mt own' y cc' nL' ret' n) (hl : Cond.methodLink own idx y ∈ zk_tb) (hs : Cond.instanceMethod y ∈ zk_tb ∧ Cond.selects own' y y ∈ zk_tb) {b ci N : Nat} {fs : List Nat} {T : u_T} (hb : zk_shp[b]? = some (0, ci, fs)) (hci : vwCl[ci]? = some (own', T, N)) (as st' : List Value) (hst : st = as.reverse ++ .ref b :: st') (hn : as.length = n) (hlen : (zk_ent (.ref b :: as)).length ≤ nL') (hc : (st'.map fun v => v.category).sum ≤ 8)
    (h : zk_M d own' cc' nL' ret' none 0 (zk_loc (.ref b :: as) nL') [] mu lm Q1) (kk : ∀ r mu' lm', Q1 r mu' lm' → zk_M (d + 1) own cc nL ret sx (pc + 3) ls (r.toList ++ st') mu' lm' Q) : zk_M (d + 1) own cc nL ret sx pc ls st mu lm Q := by
  subst hst
  intro p l e R s m args below meth c D ρ γ A cells slots H locs Z lsr C Wd hls K
  obtain ⟨F, c2, hK, hA, ⟨c5, c6, c7, c7'⟩, c8⟩ := id C
  obtain ⟨y1, y2, y3, y4, y5, y6, y7, y8⟩ := id hy
  have hts := F.2.2.2.2
  have hws : ∀ w ∈ (wsV own idx own' y (.code y cc' nL' ret' :: zk_tb)), w ∈ zk_tb := by
    intro w hw
    simp only [wsV, List.cons_append, List.nil_append, List.mem_cons] at hw
    rcases hw with rfl | rfl | rfl | rfl | rfl | hw
    · exact hl
    · exact hs.1
    · exact hs.2
    · rw [← y1]; exact y8
    · exact y7
    · exact hw
  refine zk_back (D := D) (ρ := ρ) (γ := γ) (rest := st') (va_runV (As := as.map (zk_rv ρ)) (rest := st'.map (zk_rv ρ)) (b := ρ b) F (zk_met l hy hlen h D ρ γ H.size) (cwV n hts (zk_gi hws) rfl rfl rfl ⟨y1, y3, y4, y5⟩ ⟨c5, by show 8 + (nL' + 11) + d * 80 ≤ R.locals; omega⟩) ⟨zk_blind, va_recv hK Wd.1 hci (q0 := b) (zk_ws_at hb), fun U hU hW => ⟨rfl, by rw [hU], by rw [hU]; exact Wd.1, va_K.moved hW.alike hK, Wd.2.1.weaken (fun _ _ _ _ => trivial), va_Nw.warmM hW c2.2.2.1, va_Nw.warmM hW c2.2.2.2⟩⟩ rfl (by rw [List.length_map]; exact hn) hls.1 (by rw [List.map_append, List.map_reverse]; rfl) (lv_room (by rw [zk_cat]; exact hc)) hd ⟨c7, c7'⟩) Wd hA ?_
  intro r mu' lm' H1 locs1 q W1
  exact kk r mu' lm' q p l e R s m args below meth c D ρ γ A cells slots H1 locs1 Z lsr C W1 hls K
end ZC
