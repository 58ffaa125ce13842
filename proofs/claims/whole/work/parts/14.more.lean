/-! ===== calls of methods whose answer and memory are known ===== -/
def zk_R (r : Option Value) (mu : Mem) (lm : MemL) : Option Value → Mem → MemL → Prop := fun r' m l => r' = r ∧ m = mu ∧ l = lm
section ZD
variable {d : Nat} {own : String} {cc : ByteArray} {nL : Nat} {ret : Option FieldType} {sx : Option (Nat × (Nat → Int32))} {ls st : List Value} {mu : Mem} {lm : MemL} {Q : Option Value → Mem → MemL → Prop} {pc : Nat} {own' : String} {y : MethodName} {cc' : ByteArray} {nL' : Nat} {ret' : Option FieldType} {n idx : Nat} {mu' : Mem} {lm' : MemL}
theorem zk_callSI {x : Int32} (hd : decode cc pc = .ok (.invokestatic idx, 3)) (hy : zk_Mt own' y cc' nL' ret' n) (hl : Cond.methodLink own idx y ∈ zk_tb) (hs : Cond.static y ∈ zk_tb) (as st' : List Value) (hst : st = as.reverse ++ st') (hn : as.length = n) (hlen : (zk_ent as).length ≤ nL') (hc : (st'.map fun v => v.category).sum ≤ 8)
    (h : zk_M d own' cc' nL' ret' none 0 (zk_loc as nL') [] mu lm (zk_R (some (.int x)) mu' lm')) (kk : zk_M (d + 1) own cc nL ret sx (pc + 3) ls (.int x :: st') mu' lm' Q) : zk_M (d + 1) own cc nL ret sx pc ls st mu lm Q := zk_callS hd hy hl hs as st' hst hn hlen hc h (fun r m l q => by
  obtain ⟨rfl, rfl, rfl⟩ := q
  exact kk)
theorem zk_callSNI {host : String} {x : Int32} (hd : decode cc pc = .ok (.invokestatic idx, 3)) (hy : zk_Mt own' y cc' nL' ret' n) (hl : ∀ s, zk_Nst s → va_Nw (.methodLinkNest own idx y host) s) (hs : Cond.static y ∈ zk_tb) (as st' : List Value) (hst : st = as.reverse ++ st') (hn : as.length = n) (hlen : (zk_ent as).length ≤ nL') (hc : (st'.map fun v => v.category).sum ≤ 8)
    (h : zk_M d own' cc' nL' ret' none 0 (zk_loc as nL') [] mu lm (zk_R (some (.int x)) mu' lm')) (kk : zk_M (d + 1) own cc nL ret sx (pc + 3) ls (.int x :: st') mu' lm' Q) : zk_M (d + 1) own cc nL ret sx pc ls st mu lm Q := zk_callSN hd hy hl hs as st' hst hn hlen hc h (fun r m l q => by
  obtain ⟨rfl, rfl, rfl⟩ := q
  exact kk)
theorem zk_callVI {x : Int32} (hd : decode cc pc = .ok (.invokevirtual idx, 3)) (hy : zk_Mt own' y cc' nL' ret' n) (hl : Cond.methodLink own idx y ∈ zk_tb) (hs : Cond.instanceMethod y ∈ zk_tb ∧ Cond.selects own' y y ∈ zk_tb) {b ci N : Nat} {fs : List Nat} {T : u_T} (hb : zk_shp[b]? = some (0, ci, fs)) (hci : vwCl[ci]? = some (own', T, N)) (as st' : List Value) (hst : st = as.reverse ++ .ref b :: st') (hn : as.length = n) (hlen : (zk_ent (.ref b :: as)).length ≤ nL') (hc : (st'.map fun v => v.category).sum ≤ 8)
    (h : zk_M d own' cc' nL' ret' none 0 (zk_loc (.ref b :: as) nL') [] mu lm (zk_R (some (.int x)) mu' lm')) (kk : zk_M (d + 1) own cc nL ret sx (pc + 3) ls (.int x :: st') mu' lm' Q) : zk_M (d + 1) own cc nL ret sx pc ls st mu lm Q := zk_callV hd hy hl hs hb hci as st' hst hn hlen hc h (fun r m l q => by
  obtain ⟨rfl, rfl, rfl⟩ := q
  exact kk)
theorem zk_callSJ {x : Int64} (hd : decode cc pc = .ok (.invokestatic idx, 3)) (hy : zk_Mt own' y cc' nL' ret' n) (hl : Cond.methodLink own idx y ∈ zk_tb) (hs : Cond.static y ∈ zk_tb) (as st' : List Value) (hst : st = as.reverse ++ st') (hn : as.length = n) (hlen : (zk_ent as).length ≤ nL') (hc : (st'.map fun v => v.category).sum ≤ 8)
    (h : zk_M d own' cc' nL' ret' none 0 (zk_loc as nL') [] mu lm (zk_R (some (.long x)) mu' lm')) (kk : zk_M (d + 1) own cc nL ret sx (pc + 3) ls (.long x :: st') mu' lm' Q) : zk_M (d + 1) own cc nL ret sx pc ls st mu lm Q := zk_callS hd hy hl hs as st' hst hn hlen hc h (fun r m l q => by
  obtain ⟨rfl, rfl, rfl⟩ := q
  exact kk)
theorem zk_callSNJ {host : String} {x : Int64} (hd : decode cc pc = .ok (.invokestatic idx, 3)) (hy : zk_Mt own' y cc' nL' ret' n) (hl : ∀ s, zk_Nst s → va_Nw (.methodLinkNest own idx y host) s) (hs : Cond.static y ∈ zk_tb) (as st' : List Value) (hst : st = as.reverse ++ st') (hn : as.length = n) (hlen : (zk_ent as).length ≤ nL') (hc : (st'.map fun v => v.category).sum ≤ 8)
    (h : zk_M d own' cc' nL' ret' none 0 (zk_loc as nL') [] mu lm (zk_R (some (.long x)) mu' lm')) (kk : zk_M (d + 1) own cc nL ret sx (pc + 3) ls (.long x :: st') mu' lm' Q) : zk_M (d + 1) own cc nL ret sx pc ls st mu lm Q := zk_callSN hd hy hl hs as st' hst hn hlen hc h (fun r m l q => by
  obtain ⟨rfl, rfl, rfl⟩ := q
  exact kk)
theorem zk_callVJ {x : Int64} (hd : decode cc pc = .ok (.invokevirtual idx, 3)) (hy : zk_Mt own' y cc' nL' ret' n) (hl : Cond.methodLink own idx y ∈ zk_tb) (hs : Cond.instanceMethod y ∈ zk_tb ∧ Cond.selects own' y y ∈ zk_tb) {b ci N : Nat} {fs : List Nat} {T : u_T} (hb : zk_shp[b]? = some (0, ci, fs)) (hci : vwCl[ci]? = some (own', T, N)) (as st' : List Value) (hst : st = as.reverse ++ .ref b :: st') (hn : as.length = n) (hlen : (zk_ent (.ref b :: as)).length ≤ nL') (hc : (st'.map fun v => v.category).sum ≤ 8)
    (h : zk_M d own' cc' nL' ret' none 0 (zk_loc (.ref b :: as) nL') [] mu lm (zk_R (some (.long x)) mu' lm')) (kk : zk_M (d + 1) own cc nL ret sx (pc + 3) ls (.long x :: st') mu' lm' Q) : zk_M (d + 1) own cc nL ret sx pc ls st mu lm Q := zk_callV hd hy hl hs hb hci as st' hst hn hlen hc h (fun r m l q => by
  obtain ⟨rfl, rfl, rfl⟩ := q
  exact kk)
theorem zk_callSA {x : Nat} (hd : decode cc pc = .ok (.invokestatic idx, 3)) (hy : zk_Mt own' y cc' nL' ret' n) (hl : Cond.methodLink own idx y ∈ zk_tb) (hs : Cond.static y ∈ zk_tb) (as st' : List Value) (hst : st = as.reverse ++ st') (hn : as.length = n) (hlen : (zk_ent as).length ≤ nL') (hc : (st'.map fun v => v.category).sum ≤ 8)
    (h : zk_M d own' cc' nL' ret' none 0 (zk_loc as nL') [] mu lm (zk_R (some (.ref x)) mu' lm')) (kk : zk_M (d + 1) own cc nL ret sx (pc + 3) ls (.ref x :: st') mu' lm' Q) : zk_M (d + 1) own cc nL ret sx pc ls st mu lm Q := zk_callS hd hy hl hs as st' hst hn hlen hc h (fun r m l q => by
  obtain ⟨rfl, rfl, rfl⟩ := q
  exact kk)
theorem zk_callSNA {host : String} {x : Nat} (hd : decode cc pc = .ok (.invokestatic idx, 3)) (hy : zk_Mt own' y cc' nL' ret' n) (hl : ∀ s, zk_Nst s → va_Nw (.methodLinkNest own idx y host) s) (hs : Cond.static y ∈ zk_tb) (as st' : List Value) (hst : st = as.reverse ++ st') (hn : as.length = n) (hlen : (zk_ent as).length ≤ nL') (hc : (st'.map fun v => v.category).sum ≤ 8)
    (h : zk_M d own' cc' nL' ret' none 0 (zk_loc as nL') [] mu lm (zk_R (some (.ref x)) mu' lm')) (kk : zk_M (d + 1) own cc nL ret sx (pc + 3) ls (.ref x :: st') mu' lm' Q) : zk_M (d + 1) own cc nL ret sx pc ls st mu lm Q := zk_callSN hd hy hl hs as st' hst hn hlen hc h (fun r m l q => by
  obtain ⟨rfl, rfl, rfl⟩ := q
  exact kk)
theorem zk_callVA {x : Nat} (hd : decode cc pc = .ok (.invokevirtual idx, 3)) (hy : zk_Mt own' y cc' nL' ret' n) (hl : Cond.methodLink own idx y ∈ zk_tb) (hs : Cond.instanceMethod y ∈ zk_tb ∧ Cond.selects own' y y ∈ zk_tb) {b ci N : Nat} {fs : List Nat} {T : u_T} (hb : zk_shp[b]? = some (0, ci, fs)) (hci : vwCl[ci]? = some (own', T, N)) (as st' : List Value) (hst : st = as.reverse ++ .ref b :: st') (hn : as.length = n) (hlen : (zk_ent (.ref b :: as)).length ≤ nL') (hc : (st'.map fun v => v.category).sum ≤ 8)
    (h : zk_M d own' cc' nL' ret' none 0 (zk_loc (.ref b :: as) nL') [] mu lm (zk_R (some (.ref x)) mu' lm')) (kk : zk_M (d + 1) own cc nL ret sx (pc + 3) ls (.ref x :: st') mu' lm' Q) : zk_M (d + 1) own cc nL ret sx pc ls st mu lm Q := zk_callV hd hy hl hs hb hci as st' hst hn hlen hc h (fun r m l q => by
  obtain ⟨rfl, rfl, rfl⟩ := q
  exact kk)
theorem zk_callSU (hd : decode cc pc = .ok (.invokestatic idx, 3)) (hy : zk_Mt own' y cc' nL' ret' n) (hl : Cond.methodLink own idx y ∈ zk_tb) (hs : Cond.static y ∈ zk_tb) (as st' : List Value) (hst : st = as.reverse ++ st') (hn : as.length = n) (hlen : (zk_ent as).length ≤ nL') (hc : (st'.map fun v => v.category).sum ≤ 8)
    (h : zk_M d own' cc' nL' ret' none 0 (zk_loc as nL') [] mu lm (zk_R (some .null) mu' lm')) (kk : zk_M (d + 1) own cc nL ret sx (pc + 3) ls (.null :: st') mu' lm' Q) : zk_M (d + 1) own cc nL ret sx pc ls st mu lm Q := zk_callS hd hy hl hs as st' hst hn hlen hc h (fun r m l q => by
  obtain ⟨rfl, rfl, rfl⟩ := q
  exact kk)
theorem zk_callSNU {host : String}  (hd : decode cc pc = .ok (.invokestatic idx, 3)) (hy : zk_Mt own' y cc' nL' ret' n) (hl : ∀ s, zk_Nst s → va_Nw (.methodLinkNest own idx y host) s) (hs : Cond.static y ∈ zk_tb) (as st' : List Value) (hst : st = as.reverse ++ st') (hn : as.length = n) (hlen : (zk_ent as).length ≤ nL') (hc : (st'.map fun v => v.category).sum ≤ 8)
    (h : zk_M d own' cc' nL' ret' none 0 (zk_loc as nL') [] mu lm (zk_R (some .null) mu' lm')) (kk : zk_M (d + 1) own cc nL ret sx (pc + 3) ls (.null :: st') mu' lm' Q) : zk_M (d + 1) own cc nL ret sx pc ls st mu lm Q := zk_callSN hd hy hl hs as st' hst hn hlen hc h (fun r m l q => by
  obtain ⟨rfl, rfl, rfl⟩ := q
  exact kk)
theorem zk_callVU (hd : decode cc pc = .ok (.invokevirtual idx, 3)) (hy : zk_Mt own' y cc' nL' ret' n) (hl : Cond.methodLink own idx y ∈ zk_tb) (hs : Cond.instanceMethod y ∈ zk_tb ∧ Cond.selects own' y y ∈ zk_tb) {b ci N : Nat} {fs : List Nat} {T : u_T} (hb : zk_shp[b]? = some (0, ci, fs)) (hci : vwCl[ci]? = some (own', T, N)) (as st' : List Value) (hst : st = as.reverse ++ .ref b :: st') (hn : as.length = n) (hlen : (zk_ent (.ref b :: as)).length ≤ nL') (hc : (st'.map fun v => v.category).sum ≤ 8)
    (h : zk_M d own' cc' nL' ret' none 0 (zk_loc (.ref b :: as) nL') [] mu lm (zk_R (some .null) mu' lm')) (kk : zk_M (d + 1) own cc nL ret sx (pc + 3) ls (.null :: st') mu' lm' Q) : zk_M (d + 1) own cc nL ret sx pc ls st mu lm Q := zk_callV hd hy hl hs hb hci as st' hst hn hlen hc h (fun r m l q => by
  obtain ⟨rfl, rfl, rfl⟩ := q
  exact kk)
theorem zk_callSV  (hd : decode cc pc = .ok (.invokestatic idx, 3)) (hy : zk_Mt own' y cc' nL' ret' n) (hl : Cond.methodLink own idx y ∈ zk_tb) (hs : Cond.static y ∈ zk_tb) (as st' : List Value) (hst : st = as.reverse ++ st') (hn : as.length = n) (hlen : (zk_ent as).length ≤ nL') (hc : (st'.map fun v => v.category).sum ≤ 8)
    (h : zk_M d own' cc' nL' ret' none 0 (zk_loc as nL') [] mu lm (zk_R none mu' lm')) (kk : zk_M (d + 1) own cc nL ret sx (pc + 3) ls st' mu' lm' Q) : zk_M (d + 1) own cc nL ret sx pc ls st mu lm Q := zk_callS hd hy hl hs as st' hst hn hlen hc h (fun r m l q => by
  obtain ⟨rfl, rfl, rfl⟩ := q
  exact kk)
theorem zk_callSNV {host : String}  (hd : decode cc pc = .ok (.invokestatic idx, 3)) (hy : zk_Mt own' y cc' nL' ret' n) (hl : ∀ s, zk_Nst s → va_Nw (.methodLinkNest own idx y host) s) (hs : Cond.static y ∈ zk_tb) (as st' : List Value) (hst : st = as.reverse ++ st') (hn : as.length = n) (hlen : (zk_ent as).length ≤ nL') (hc : (st'.map fun v => v.category).sum ≤ 8)
    (h : zk_M d own' cc' nL' ret' none 0 (zk_loc as nL') [] mu lm (zk_R none mu' lm')) (kk : zk_M (d + 1) own cc nL ret sx (pc + 3) ls st' mu' lm' Q) : zk_M (d + 1) own cc nL ret sx pc ls st mu lm Q := zk_callSN hd hy hl hs as st' hst hn hlen hc h (fun r m l q => by
  obtain ⟨rfl, rfl, rfl⟩ := q
  exact kk)
theorem zk_callVV  (hd : decode cc pc = .ok (.invokevirtual idx, 3)) (hy : zk_Mt own' y cc' nL' ret' n) (hl : Cond.methodLink own idx y ∈ zk_tb) (hs : Cond.instanceMethod y ∈ zk_tb ∧ Cond.selects own' y y ∈ zk_tb) {b ci N : Nat} {fs : List Nat} {T : u_T} (hb : zk_shp[b]? = some (0, ci, fs)) (hci : vwCl[ci]? = some (own', T, N)) (as st' : List Value) (hst : st = as.reverse ++ .ref b :: st') (hn : as.length = n) (hlen : (zk_ent (.ref b :: as)).length ≤ nL') (hc : (st'.map fun v => v.category).sum ≤ 8)
    (h : zk_M d own' cc' nL' ret' none 0 (zk_loc (.ref b :: as) nL') [] mu lm (zk_R none mu' lm')) (kk : zk_M (d + 1) own cc nL ret sx (pc + 3) ls st' mu' lm' Q) : zk_M (d + 1) own cc nL ret sx pc ls st mu lm Q := zk_callV hd hy hl hs hb hci as st' hst hn hlen hc h (fun r m l q => by
  obtain ⟨rfl, rfl, rfl⟩ := q
  exact kk)
theorem zk_mmax {x y : Int32} (hd : decode cc pc = .ok (.invokestatic idx, 3)) (hl : Cond.methodLink own idx yJ9_max_7cf53 ∈ zk_tb) (hc : (st.map fun v => v.category).sum ≤ 8) (k : zk_M (d + 1) own cc nL ret sx (pc + 3) ls (.int (if x < y then y else x) :: st) mu lm Q) : zk_M (d + 1) own cc nL ret sx pc ls (.int y :: .int x :: st) mu lm Q := by
  intro p l e R s m args below meth cd D ρ γ A cells slots H locs Z lsr C Wd hls K
  obtain ⟨⟨hx, hb, hml, hown, hts⟩, c2, hK, hA, ⟨c5, c6, c7, c7'⟩, c8⟩ := id C
  exact va_mmax hx hb (hml.trans hls.1.symm) hown (hts _ hl) (hts _ (zk_in 390 (by decide +kernel) rfl)) (hts _ (zk_in 64 (by decide +kernel) rfl)) (hts _ (zk_in 391 (by decide +kernel) rfl)) (by omega) (by rw [zk_cat]; omega) c7 c7' hd (k p l e R s m args below meth cd D ρ γ A cells slots H locs Z lsr C Wd hls K)
theorem zk_mmin {x y : Int32} (hd : decode cc pc = .ok (.invokestatic idx, 3)) (hl : Cond.methodLink own idx yJ9_min_7cf53 ∈ zk_tb) (hc : (st.map fun v => v.category).sum ≤ 8) (k : zk_M (d + 1) own cc nL ret sx (pc + 3) ls (.int (if y < x then y else x) :: st) mu lm Q) : zk_M (d + 1) own cc nL ret sx pc ls (.int y :: .int x :: st) mu lm Q := by
  intro p l e R s m args below meth cd D ρ γ A cells slots H locs Z lsr C Wd hls K
  obtain ⟨⟨hx, hb, hml, hown, hts⟩, c2, hK, hA, ⟨c5, c6, c7, c7'⟩, c8⟩ := id C
  exact va_mmin hx hb (hml.trans hls.1.symm) hown (hts _ hl) (hts _ (zk_in 241 (by decide +kernel) rfl)) (hts _ (zk_in 64 (by decide +kernel) rfl)) (hts _ (zk_in 242 (by decide +kernel) rfl)) (by omega) (by rw [zk_cat]; omega) c7 c7' hd (k p l e R s m args below meth cd D ρ γ A cells slots H locs Z lsr C Wd hls K)
end ZD
