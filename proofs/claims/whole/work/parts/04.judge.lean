/-! ===== THE JUDGEMENT: the machine, now at pc of a method with locals ls, stack st, memory mu, lm, comes to its return with Q ===== -/
/-- the tables' words that stay -/
def zk_tb : List Cond := lw_tbl.filter goodWord
theorem zk_in {w : Cond} (i : Nat) (h : lw_tbl[i]? = some w) (hg : goodWord w = true) : w ∈ zk_tb := List.mem_filter.mpr ⟨List.mem_of_getElem? h, hg⟩
theorem zk_gi {ws : List Cond} (h : ∀ w ∈ ws, w ∈ zk_tb) : GoodIn zk_tb ws := fun w hw => ⟨h w hw, good_of_word (List.mem_filter.mp (h w hw)).2⟩
/-- what the tables say of the nest mates' calls -/
def zk_Nst (s : State) : Prop := va_Nw (.methodLinkNest RX5 52 yX7_within "ClubSmoke") s ∧ va_Nw (.methodLinkNest RX4 31 yX7_within "ClubSmoke") s
/-- what stays through a method's body -/
def zk_Cx (d : Nat) (own : String) (cc : ByteArray) (nL : Nat) (ret : Option FieldType) (sx : Option (Nat × (Nat → Int32))) (p : Program) (R : Room) (s : State) (m : MethodId) (args : Array Value) (meth : Method) (c : Code) (D : va_G) (ρ : Nat → Nat) (γ : Nat → ClassId) (A : Nat → Prop) (cells slots : Nat) : Prop :=
  CallFix p m c cc nL s args zk_tb own ∧ (meth.sig.returnType = ret ∧ meth.locks = false ∧ zk_Nst s) ∧ va_K D vwCl (zk_ty γ) s ∧ (∀ q, s.heap.size ≤ q → A q) ∧ (d ≤ R.frames ∧ d * 80 ≤ R.locals ∧ cells ≤ R.cells ∧ slots ≤ R.slots) ∧
  ∀ (L : Nat) (xs : Nat → Int32), sx = some (L, xs) → va_X (ρ 99) L xs s s.heap ∧ ρ 99 < s.heap.size ∧ ¬ A (ρ 99)
def zk_Wd (s : State) (D : va_G) (ρ : Nat → Nat) (γ : Nat → ClassId) (A : Nat → Prop) (H : Heap) (locs : List Loc) (mu : Mem) (lm : MemL) : Prop :=
  va_P D vwCl (zk_ws ρ γ mu lm) H ∧ va_D A (zk_ws ρ γ mu lm) ∧ va_S A s.heap H locs
def zk_Rt (cc : ByteArray) (ret : Option FieldType) (pc : Nat) (r : Option Value) : Prop := match r with
  | none => decode cc pc = .ok (.return_, 1) ∧ ret = none
  | some (.int v) => decode cc pc = .ok (.ireturn, 1) ∧ (ret = some .int ∨ (ret = some .boolean ∧ (v = 0 ∨ v = 1)))
  | some (.long _) => decode cc pc = .ok (.lreturn, 1) ∧ ret = some .long
  | some .null => decode cc pc = .ok (.areturn, 1) ∧ ∃ n, ret = some (.object n)
  | some (.ref _) => decode cc pc = .ok (.areturn, 1) ∧ ∃ n, ret = some (.object n)
  | _ => False
def zk_M (d : Nat) (own : String) (cc : ByteArray) (nL : Nat) (ret : Option FieldType) (sx : Option (Nat × (Nat → Int32))) (pc : Nat) (ls st : List Value) (mu : Mem) (lm : MemL) (Q : Option Value → Mem → MemL → Prop) : Prop :=
  ∀ (p : Program) (l : Launch) (e : Env) (R : Room) (s : State) (m : MethodId) (args : Array Value) (below : List Frame) (meth : Method) (c : Code) (D : va_G) (ρ : Nat → Nat) (γ : Nat → ClassId) (A : Nat → Prop) (cells slots : Nat) (H : Heap) (locs : List Loc) (Z : State → Prop) (lsr : Array Slot),
    zk_Cx d own cc nL ret sx p R s m args meth c D ρ γ A cells slots → zk_Wd s D ρ γ A H locs mu lm → lv_has lsr nL (zk_lv ρ ls) →
    (∀ (r : Option Value) (mu' : Mem) (lm' : MemL) (H' : Heap) (locs' : List Loc) (pc' : Nat) (lsr' : Array Slot), Q r mu' lm' → zk_Wd s D ρ γ A H' locs' mu' lm' → zk_Rt cc ret pc' r → W p l e R s m args below meth c H' locs' cells slots Z (F0 m pc' lsr' (r.toList.map (zk_rv ρ)))) →
    W p l e R s m args below meth c H locs cells slots Z (F0 m pc lsr (st.map (zk_rv ρ)))
section ZK
variable {d : Nat} {own : String} {cc : ByteArray} {nL : Nat} {ret : Option FieldType} {sx : Option (Nat × (Nat → Int32))} {ls st : List Value} {mu : Mem} {lm : MemL} {Q : Option Value → Mem → MemL → Prop} {pc : Nat}
theorem zk_post {Q' : Option Value → Mem → MemL → Prop} (h : zk_M d own cc nL ret sx pc ls st mu lm Q') (hQ : ∀ r mu' lm', Q' r mu' lm' → Q r mu' lm') : zk_M d own cc nL ret sx pc ls st mu lm Q := by
  intro p l e R s m args below meth c D ρ γ A cells slots H locs Z lsr C Wd hl K
  exact h p l e R s m args below meth c D ρ γ A cells slots H locs Z lsr C Wd hl (fun r mu' lm' H' locs' pc' lsr' q => K r mu' lm' H' locs' pc' lsr' (hQ r mu' lm' q))
theorem zk_deep {d' : Nat} (hd : d ≤ d') (h : zk_M d own cc nL ret sx pc ls st mu lm Q) : zk_M d' own cc nL ret sx pc ls st mu lm Q := by
  intro p l e R s m args below meth c D ρ γ A cells slots H locs Z lsr C Wd hl K
  obtain ⟨c1, c2, c3, c4, ⟨c5, c6, c7⟩, c8⟩ := C
  exact h p l e R s m args below meth c D ρ γ A cells slots H locs Z lsr ⟨c1, c2, c3, c4, ⟨by omega, by omega, c7⟩, c8⟩ Wd hl K
/-! returns -/
theorem zk_ireturn {v : Int32} (hd : decode cc pc = .ok (.ireturn, 1)) (hr : ret = some .int ∨ (ret = some .boolean ∧ (v = 0 ∨ v = 1))) (hq : Q (some (.int v)) mu lm) : zk_M d own cc nL ret sx pc ls [.int v] mu lm Q := by
  intro p l e R s m args below meth c D ρ γ A cells slots H locs Z lsr C Wd hl K
  exact K (some (.int v)) mu lm H locs pc lsr hq Wd ⟨hd, hr⟩
theorem zk_lreturn {v : Int64} (hd : decode cc pc = .ok (.lreturn, 1)) (hr : ret = some .long) (hq : Q (some (.long v)) mu lm) : zk_M d own cc nL ret sx pc ls [.long v] mu lm Q := by
  intro p l e R s m args below meth c D ρ γ A cells slots H locs Z lsr C Wd hl K
  exact K (some (.long v)) mu lm H locs pc lsr hq Wd ⟨hd, hr⟩
theorem zk_return (hd : decode cc pc = .ok (.return_, 1)) (hr : ret = none) (hq : Q none mu lm) : zk_M d own cc nL ret sx pc ls [] mu lm Q := by
  intro p l e R s m args below meth c D ρ γ A cells slots H locs Z lsr C Wd hl K
  exact K none mu lm H locs pc lsr hq Wd ⟨hd, hr⟩
theorem zk_areturn {x : Nat} (hd : decode cc pc = .ok (.areturn, 1)) (hr : ∃ n, ret = some (.object n)) (hq : Q (some (.ref x)) mu lm) : zk_M d own cc nL ret sx pc ls [.ref x] mu lm Q := by
  intro p l e R s m args below meth c D ρ γ A cells slots H locs Z lsr C Wd hl K
  exact K (some (.ref x)) mu lm H locs pc lsr hq Wd ⟨hd, hr⟩
theorem zk_areturnN (hd : decode cc pc = .ok (.areturn, 1)) (hr : ∃ n, ret = some (.object n)) (hq : Q (some .null) mu lm) : zk_M d own cc nL ret sx pc ls [.null] mu lm Q := by
  intro p l e R s m args below meth c D ρ γ A cells slots H locs Z lsr C Wd hl K
  exact K (some .null) mu lm H locs pc lsr hq Wd ⟨hd, hr⟩
end ZK
