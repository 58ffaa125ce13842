/-! ===== stores, with the new locals written out ===== -/
section ZS
variable {d : Nat} {own : String} {cc : ByteArray} {nL : Nat} {ret : Option FieldType} {sx : Option (Nat × (Nat → Int32))} {ls ls' st : List Value} {mu : Mem} {lm : MemL} {Q : Option Value → Mem → MemL → Prop} {pc : Nat}
theorem zs_istore_n {k : Fin 4} (i : Nat) {x : Int32} (hd : decode cc pc = .ok (.istore_n k, 1)) (hi : (k : Nat) = i) (hn : i < nL) (hl : zk_set ls i (.int x) = ls') (k : zk_M d own cc nL ret sx (pc + 1) ls' st mu lm Q) : zk_M d own cc nL ret sx pc ls (.int x :: st) mu lm Q := by
  subst hl
  exact zk_istore_n i hd hi hn k
theorem zs_istore (i : Nat) {x : Int32} (hd : decode cc pc = .ok (.istore i, 2)) (hn : i < nL) (hl : zk_set ls i (.int x) = ls') (k : zk_M d own cc nL ret sx (pc + 2) ls' st mu lm Q) : zk_M d own cc nL ret sx pc ls (.int x :: st) mu lm Q := by
  subst hl
  exact zk_istore i hd hn k
theorem zs_lstore_n {k : Fin 4} (i : Nat) {x : Int64} (hd : decode cc pc = .ok (.lstore_n k, 1)) (hi : (k : Nat) = i) (hn : i + 1 < nL) (hl : zk_set2 ls i (.long x) = ls') (k : zk_M d own cc nL ret sx (pc + 1) ls' st mu lm Q) : zk_M d own cc nL ret sx pc ls (.long x :: st) mu lm Q := by
  subst hl
  exact zk_lstore_n i hd hi hn k
theorem zs_lstore (i : Nat) {x : Int64} (hd : decode cc pc = .ok (.lstore i, 2)) (hn : i + 1 < nL) (hl : zk_set2 ls i (.long x) = ls') (k : zk_M d own cc nL ret sx (pc + 2) ls' st mu lm Q) : zk_M d own cc nL ret sx pc ls (.long x :: st) mu lm Q := by
  subst hl
  exact zk_lstore i hd hn k
theorem zs_astore_n {k : Fin 4} (i : Nat) {x : Nat} (hd : decode cc pc = .ok (.astore_n k, 1)) (hi : (k : Nat) = i) (hn : i < nL) (hl : zk_set ls i (.ref x) = ls') (k : zk_M d own cc nL ret sx (pc + 1) ls' st mu lm Q) : zk_M d own cc nL ret sx pc ls (.ref x :: st) mu lm Q := by
  subst hl
  exact zk_astore_n i hd hi hn k
theorem zs_astore (i : Nat) {x : Nat} (hd : decode cc pc = .ok (.astore i, 2)) (hn : i < nL) (hl : zk_set ls i (.ref x) = ls') (k : zk_M d own cc nL ret sx (pc + 2) ls' st mu lm Q) : zk_M d own cc nL ret sx pc ls (.ref x :: st) mu lm Q := by
  subst hl
  exact zk_astore i hd hn k
theorem zs_astore_nN {k : Fin 4} (i : Nat) (hd : decode cc pc = .ok (.astore_n k, 1)) (hi : (k : Nat) = i) (hn : i < nL) (hl : zk_set ls i .null = ls') (k : zk_M d own cc nL ret sx (pc + 1) ls' st mu lm Q) : zk_M d own cc nL ret sx pc ls (.null :: st) mu lm Q := by
  subst hl
  exact zk_astore_nN i hd hi hn k
theorem zs_astoreN (i : Nat) (hd : decode cc pc = .ok (.astore i, 2)) (hn : i < nL) (hl : zk_set ls i .null = ls') (k : zk_M d own cc nL ret sx (pc + 2) ls' st mu lm Q) : zk_M d own cc nL ret sx pc ls (.null :: st) mu lm Q := by
  subst hl
  exact zk_astoreN i hd hn k
theorem zs_iinc {i : Nat} {n : Int} {x v : Int32} (hd : decode cc pc = .ok (.iinc i n, 3)) (hv : ls[i]? = some (.int x)) (he : x + Int32.ofInt n = v) (hn : i < nL) (hl : zk_set ls i (.int v) = ls') (k : zk_M d own cc nL ret sx (pc + 3) ls' st mu lm Q) : zk_M d own cc nL ret sx pc ls st mu lm Q := by
  subst hl
  exact zk_iinc hd hv he hn k
theorem zs_entry (hl : ls = ls') (k : zk_M d own cc nL ret sx pc ls' st mu lm Q) : zk_M d own cc nL ret sx pc ls st mu lm Q := by
  subst hl
  exact k
end ZS
