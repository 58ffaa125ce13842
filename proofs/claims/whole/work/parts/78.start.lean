section M78
variable {L : Nat} {xs : Nat → Int32}
/-! ===== a new object, a new model ===== -/
theorem zInv_0 : zInv mu0 lm0 := by
  refine ⟨0, 0, 0, fun _ => (0, 0, 0), ⟨⟨rfl, rfl, rfl, rfl, by omega, by omega, fun z => absurd z (Nat.lt_irrefl _), fun _ => rfl, rfl, by decide, fun j hj => absurd hj (Nat.not_lt_zero _)⟩, ⟨rfl, by omega, fun k hk => absurd hk (Nat.not_lt_zero _), sEq_mk (fun q hq => ?_) rfl rfl rfl (fun j hj => ?_)⟩, ⟨rfl, fun q _ => rfl, fun k hk => absurd hk (Nat.not_lt_zero _)⟩, fun k hk => ?_⟩, fun k hk => ?_, fun k hk => ?_, ⟨rfl, rfl, rfl, rfl, fun f _ => rfl⟩⟩
  · rw [cS_a hq]; rfl
  · rw [cS_t]; rfl
  · match k, hk with
    | 0, _ => exact ⟨rfl, Or.inl rfl⟩
    | 1, _ => exact ⟨rfl, Or.inl rfl⟩
    | 2, _ => exact ⟨rfl, Or.inl rfl⟩
  · match k, hk with
    | 0, _ => exact ⟨rfl, Or.inl rfl, fun q hq => absurd hq (Nat.not_lt_zero _)⟩
    | 1, _ => exact ⟨rfl, Or.inl rfl, fun q hq => absurd hq (Nat.not_lt_zero _)⟩
    | 2, _ => exact ⟨rfl, Or.inl rfl, fun q hq => absurd hq (Nat.not_lt_zero _)⟩
    | 3, _ => exact ⟨rfl, Or.inl rfl, fun q hq => absurd hq (Nat.not_lt_zero _)⟩
    | 4, _ => exact ⟨rfl, Or.inl rfl, fun q hq => absurd hq (Nat.not_lt_zero _)⟩
    | 5, _ => exact ⟨rfl, Or.inl rfl, fun q hq => absurd hq (Nat.not_lt_zero _)⟩
  · match k, hk with
    | 0, _ => exact ⟨rfl, Or.inl rfl, fun q hq => absurd hq (Nat.not_lt_zero _)⟩
    | 1, _ => exact ⟨rfl, Or.inl rfl, fun q hq => absurd hq (Nat.not_lt_zero _)⟩
    | 2, _ => exact ⟨rfl, Or.inl rfl, fun q hq => absurd hq (Nat.not_lt_zero _)⟩
    | 3, _ => exact ⟨rfl, Or.inl rfl, fun q hq => absurd hq (Nat.not_lt_zero _)⟩
/-- the law behind its two objects -/
theorem law_16 (hL : L ≤ 384) : zk_M 21 RL cL_law 4 ret (some (L, xs)) 16 [.ref 99, .ref 0, .ref 46, .retAddr 0] [] mu0 lm0 (fun r _ _ => r = some (.int 1)) := by
  refine zk_iconst (pc := 16) (v := 0) dL_law_16 (by decide) ?_
  refine zs_istore_n (pc := 17) (ls' := [_, _, _, _]) 3 dL_law_17 rfl (by decide) rfl ?_
  exact law_lp hL (L + 7) 0 mu0 lm0 (by omega) (by omega) zInv_0
/-! ===== what the tables say of the classes ===== -/
theorem tb_ao4 : Cond.arrayOver (.object RX4) ∈ lw_tbl := by decide +kernel
theorem tb_ao1 : Cond.arrayOver (.object RX1) ∈ lw_tbl := by decide +kernel
theorem tb_aoa : Cond.arrayOver (.array .int) ∈ lw_tbl := by decide +kernel
theorem tb_n5 : Cond.methodLinkNest RX5 52 yX7_within "ClubSmoke" ∈ lw_tbl := by decide +kernel
theorem tb_n4 : Cond.methodLinkNest RX4 31 yX7_within "ClubSmoke" ∈ lw_tbl := by decide +kernel
theorem st_world {s : State} {a : Array Value} (hts : ∀ w ∈ lw_tbl, w.before a s = true) : ∃ (D : va_G) (γ : Nat → ClassId), va_K D vwCl (zk_ty γ) s := by
  have htb : ∀ w ∈ zk_tb, w.before a s = true := fun w hw => hts w (List.mem_filter.mp hw).1
  obtain ⟨c0, i0, k0⟩ := u_known (C := RX0) (T := TX0) (N := 10) (n := 10) htb inX0 (htb _ isX0)
  obtain ⟨c1, i1, k1⟩ := u_known (C := RX1) (T := TX1) (N := 2) (n := 2) htb inX1 (htb _ isX1)
  obtain ⟨c2, i2, k2⟩ := u_known (C := RX4) (T := TX4) (N := 2) (n := 2) htb inX4 (htb _ isX4)
  obtain ⟨c3, i3, k3⟩ := u_known (C := RX6) (T := TX6) (N := 1) (n := 1) htb inX6 (htb _ isX6)
  obtain ⟨c4, i4, k4⟩ := u_known (C := RX7) (T := TX7) (N := 13) (n := 13) htb inX7 (htb _ isX7)
  obtain ⟨c5, i5, k5⟩ := u_known (C := RX8) (T := TX8) (N := 28) (n := 28) htb inX8 (htb _ isX8)
  obtain ⟨g0, q0, m0, a1, a2, a3⟩ := Cond.arrayClass_spec (htb _ wI)
  obtain ⟨g1, q1, m1, b1, b2, b3⟩ := Cond.arrayClass_spec (htb _ wL)
  obtain ⟨m2, g2, q2, d1, -, d3, d4, d5⟩ := Cond.arrayOver_spec (hts _ tb_ao4)
  obtain ⟨m3, g3, q3, e1, -, e3, e4, e5⟩ := Cond.arrayOver_spec (hts _ tb_ao1)
  obtain ⟨m4, g4, q4, f1, f2, f3, f4⟩ := Cond.arrayOver_specA (hts _ tb_aoa)
  refine ⟨(fun k => if k = 0 then c0 else if k = 1 then c1 else if k = 2 then c2 else if k = 3 then c3 else if k = 4 then c4 else c5, fun k => if k = 0 then i0 else if k = 1 then i1 else if k = 2 then i2 else if k = 3 then i3 else if k = 4 then i4 else i5), fun k => if k = 0 then g0 else if k = 1 then g1 else if k = 2 then g2 else if k = 3 then g3 else g4, fun k q hq => ?_, fun k q hq => ?_⟩
  · match k, hq with
    | 0, hq => cases hq; exact k0
    | 1, hq => cases hq; exact k1
    | 2, hq => cases hq; exact k2
    | 3, hq => cases hq; exact k3
    | 4, hq => cases hq; exact k4
    | 5, hq => cases hq; exact k5
    | k + 6, hq => cases hq
  · match k, hq with
    | 0, hq => cases hq; exact ⟨fun n z => ⟨fun k h => (by cases h), q0, a2, m0, a3⟩, a1⟩
    | 1, hq => cases hq; exact ⟨fun n z => ⟨fun k h => (by cases h), q1, b2, m1, b3⟩, b1⟩
    | 2, hq => cases hq; exact ⟨fun n z => ⟨fun k h => (by cases h), q2, d3, m2, d4⟩, q2, m2, d3, d4, d1, d5⟩
    | 3, hq => cases hq; exact ⟨fun n z => ⟨fun k h => (by cases h), q3, e3, m3, e4⟩, q3, m3, e3, e4, e1, e5⟩
    | 4, hq => cases hq; exact ⟨fun n z => ⟨fun k h => (by cases h), q4, f2, m4, f3⟩, f4⟩
    | k + 5, hq => cases hq
end M78
