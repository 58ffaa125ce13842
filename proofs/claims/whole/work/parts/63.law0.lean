section M63
variable {d : Nat} {γ : Nat → ClassId}
/-- the memory behind the constructors -/
def mu0L : List (Nat → Int32) := [(fun _ => 0), (fun _ => 0), (fun _ => -1), (fun _ => 0), (fun _ => -1), (fun _ => 0), (fun _ => -1), (fun _ => 0), (fun _ => -1), (fun _ => 0), (fun _ => -1), (fun _ => 0), (fun _ => -1), (fun _ => 0), (fun _ => 0), (fun _ => -1), (fun _ => 0), (fun _ => -1), (fun _ => 0), (fun _ => -1), (fun _ => 0), (fun _ => -1), (fun _ => 0), (fun _ => 0), (fun _ => 0), (fun _ => 0), (fun _ => 0), (fun _ => 0), (fun _ => 0), (fun _ => 0), (fun _ => 0), (fun _ => -1), (fun _ => 0), (fun _ => -1), (fun _ => 0), (fun _ => -1), (fun _ => 0), (fun _ => 0), (fun _ => 0), (fun _ => 0), (fun _ => 0), (fun _ => 0), (fun _ => 0), (fun _ => 0), (fun _ => 0), (fun _ => 0), (fun _ => 0), (fun k => if k < 6 then -1 else 0), (fun _ => 0), (fun k => if k < 4 then -1 else 0), (fun _ => 0), (fun _ => 0), (fun _ => 0), (fun _ => 0), (fun _ => 0), (fun _ => 0), (fun _ => 0), (fun _ => 0), (fun _ => 0), (fun _ => 0), (fun k => if k < 3 then -1 else 0)]
def lm0L : List (Nat → Int64) := [(fun k => ([0, 0, 0, 0, 0, 0, 0, 0, 0, 0, 0, 0, 1] : List Int64).getD k 0), (fun _ => 0), (fun _ => 0), (fun _ => 0), (fun _ => 0), (fun _ => 0), (fun _ => 0), (fun _ => 0), (fun _ => 0), (fun _ => 0), (fun _ => 0), (fun _ => 0), (fun _ => 0), (fun _ => 0), (fun _ => 0), (fun _ => 0), (fun _ => 0), (fun _ => 0), (fun _ => 0), (fun _ => 0), (fun _ => 0), (fun _ => 0), (fun _ => 0), (fun _ => 0), (fun _ => 0), (fun _ => 0), (fun _ => 0), (fun _ => 0), (fun _ => 0), (fun _ => 0), (fun _ => 0), (fun _ => 0), (fun _ => 0), (fun _ => 0), (fun _ => 0), (fun _ => 0), (fun _ => 0), (fun _ => 0), (fun _ => 0), (fun _ => 0), (fun _ => 0), (fun _ => 0), (fun _ => 0), (fun _ => 0), (fun _ => 0), (fun _ => 0), (fun k => ([0, 0, 0, 0, 0, 0, 0, 0, 1] : List Int64).getD k 0), (fun _ => 0), (fun _ => 0), (fun _ => 0), (fun _ => 0), (fun _ => 0), (fun _ => 0), (fun _ => 0), (fun _ => 0), (fun _ => 0), (fun _ => 0), (fun _ => 0), (fun _ => 0), (fun _ => 0), (fun _ => 0)]
def mu0 : Mem := fun c => mu0L.getD c (fun _ => 0)
def lm0 : MemL := fun c => lm0L.getD c (fun _ => 0)
def zmi {α β : Type} (f : Nat → α → β) : Nat → List α → List β
  | _, [] => []
  | k, a :: l => f k a :: zmi f (k + 1) l
theorem zmi_eq {α β : Type} (f : Nat → α → β) : ∀ (l : List α) (k : Nat), l.mapIdx (fun i a => f (k + i) a) = zmi f k l
  | [], k => by rw [List.mapIdx_nil]; rfl
  | a :: l, k => by
    rw [List.mapIdx_cons, zmi, ← zmi_eq f l (k + 1)]
    have e : (fun i a => f (k + 1 + i) a) = (fun i a => f (k + (i + 1)) a) := by
      funext i a
      rw [show k + 1 + i = k + (i + 1) by omega]
    rw [e]
    rfl
def zkE2 (ρ : Nat → Nat) (γ : Nat → ClassId) (sh : Nat × Nat × List Nat) (mu : Nat → Int32) (lm : Nat → Int64) : va_E := match sh with
  | (0, ci, fs) => .inr (ci, zmi (fun k x => zk_fv ρ mu lm k x) 0 fs)
  | (1, n, _) => .inl (γ 0, n, .inl mu)
  | (2, n, _) => .inl (γ 1, n, .inr (.inl lm))
  | (t + 3, n, rs) => .inl (γ (t + 2), n, .inr (.inr (.inr (.inr (fun j => (rs[j]?).map ρ)))))
theorem zkE2_eq (ρ : Nat → Nat) (γ : Nat → ClassId) (sh : Nat × Nat × List Nat) (mu : Nat → Int32) (lm : Nat → Int64) : zk_E ρ γ sh mu lm = zkE2 ρ γ sh mu lm := by
  match sh with
  | (0, ci, fs) =>
    show (.inr (ci, fs.mapIdx (fun k x => zk_fv ρ mu lm k x)) : va_E) = .inr (ci, zmi (fun k x => zk_fv ρ mu lm k x) 0 fs)
    rw [← zmi_eq]
    simp only [Nat.zero_add]
  | (1, n, _) => rfl
  | (2, n, _) => rfl
  | (t + 3, n, rs) => rfl
theorem zws2 (ρ : Nat → Nat) (γ : Nat → ClassId) (mu : Mem) (lm : MemL) : zk_ws ρ γ mu lm = zmi (fun c sh => (ρ c, zkE2 ρ γ sh (mu c) (lm c))) 0 zk_shp := by
  rw [← zmi_eq]
  simp only [Nat.zero_add]
  unfold zk_ws
  simp only [zkE2_eq]
def lwX (b : Nat) (γ : Nat → ClassId) : Nat → Array Slot → Option Value → va_W → Prop := fun pc' lsr' r w => pc' = 16 ∧ r = none ∧ ∃ ρ : Nat → Nat, ρ 99 = b ∧ w = zk_ws ρ γ mu0 lm0 ∧ lv_has lsr' 4 (zk_lv ρ [.ref 99, .ref 0, .ref 46, .retAddr 0])
set_option maxRecDepth 100000 in
theorem lwPre (b : Nat) (nm : String) : zc_M (d + 4) RL cL_law 4 ret nm (lwX b γ) γ 61 4142 0 [.ref b, .retAddr 0, .retAddr 0, .retAddr 0] [] [] (fun _ _ => True) := by
  refine zc_new (pc := 0) (mc' := 60) (ms' := 4129) (ci := 4) (fs := [.null, .null, .null, .null, .null, .null, .null, .null, .null, .int 0, .int 0, .long 0, .long 0]) tyX7 dL_law_0 inX7 tyX7_ok clL_7 isX7 iniX7 rfl dfX7 rfl rfl (fun q1 => ?_)
  refine zc_dup (pc := 3) dL_law_3 rfl ?_
  refine zc_callI (pc := 4) (mc2 := 15) (ms2 := 3356) (wc := [(q1, .inr (4, [.null, .null, .null, .null, .null, .null, .null, .null, .null, .int 0, .int 0, .long 0, .long 0]))]) (wr := []) [] [.ref q1] dL_law_4 mtX7_init lkL_9 imX7_init rfl rfl rfl (Nat.le_of_ble_eq_true rfl) (Nat.le_of_ble_eq_true rfl) [0] [] rfl rfl (by decide) (by decide) (by decide) rfl rfl bX7 (fun r w1 hq => ?_)
  obtain ⟨rfl, q2, q3, q4, q5, q6, q7, q8, q9, q10, q11, q12, q13, q14, q15, q16, q17, q18, q19, q20, q21, q22, q23, q24, q25, q26, q27, q28, q29, q30, q31, q32, q33, q34, q35, q36, q37, q38, q39, q40, q41, q42, q43, q44, q45, q46, rfl⟩ := hq
  refine zc_astore_n (pc := 7) (ls' := [.ref b, .ref q1, .retAddr 0, .retAddr 0]) 1 dL_law_7 rfl (by decide) rfl ?_
  refine zc_new (pc := 8) (mc' := 14) (ms' := 3328) (ci := 5) (fs := [.null, .null, .null, .null, .int 0, .null, .int 0, .long 0, .long 0, .int 0, .int 0, .int 0, .int 0, .int 0, .int 0, .null, .int 0, .int 0, .int 0, .null, .null, .null, .null, .null, .int 0, .null, .null, .null]) tyX8 dL_law_8 inX8 tyX8_ok clL_10 isX8 iniX8 rfl dfX8 rfl rfl (fun q47 => ?_)
  refine zc_dup (pc := 11) dL_law_11 rfl ?_
  refine zc_callI (pc := 12) (mc2 := 0) (ms2 := 0) (wc := [(q47, .inr (5, [.null, .null, .null, .null, .int 0, .null, .int 0, .long 0, .long 0, .int 0, .int 0, .int 0, .int 0, .int 0, .int 0, .null, .int 0, .int 0, .int 0, .null, .null, .null, .null, .null, .int 0, .null, .null, .null]))]) (wr := [(q1, .inr (4, [.ref q2, .ref q15, .ref q24, .ref q29, .ref q31, .ref q38, .ref q44, .ref q45, .ref q46, .int 0, .int 0, .long 0, .long 1])), (q2, .inl (γ 2, 6, .inr (.inr (.inr (.inr (fun j => ([q3, q5, q7, q9, q11, q13] : List Nat)[j]?)))))), (q3, .inr (2, [.ref q4, .int (-1)])), (q4, .inl (γ 0, 40, .inl (fun _ => 0))), (q5, .inr (2, [.ref q6, .int (-1)])), (q6, .inl (γ 0, 40, .inl (fun _ => 0))), (q7, .inr (2, [.ref q8, .int (-1)])), (q8, .inl (γ 0, 40, .inl (fun _ => 0))), (q9, .inr (2, [.ref q10, .int (-1)])), (q10, .inl (γ 0, 40, .inl (fun _ => 0))), (q11, .inr (2, [.ref q12, .int (-1)])), (q12, .inl (γ 0, 40, .inl (fun _ => 0))), (q13, .inr (2, [.ref q14, .int (-1)])), (q14, .inl (γ 0, 40, .inl (fun _ => 0))), (q15, .inl (γ 2, 4, .inr (.inr (.inr (.inr (fun j => ([q16, q18, q20, q22] : List Nat)[j]?)))))), (q16, .inr (2, [.ref q17, .int (-1)])), (q17, .inl (γ 0, 60, .inl (fun _ => 0))), (q18, .inr (2, [.ref q19, .int (-1)])), (q19, .inl (γ 0, 60, .inl (fun _ => 0))), (q20, .inr (2, [.ref q21, .int (-1)])), (q21, .inl (γ 0, 60, .inl (fun _ => 0))), (q22, .inr (2, [.ref q23, .int (-1)])), (q23, .inl (γ 0, 60, .inl (fun _ => 0))), (q24, .inr (0, [.ref q25, .ref q26, .ref q27, .ref q28, .int 0, .int 0, .int 0, .int 0, .int 0, .int 0])), (q25, .inl (γ 0, 6, .inl (fun _ => 0))), (q26, .inl (γ 0, 6, .inl (fun _ => 0))), (q27, .inl (γ 0, 6, .inl (fun _ => 0))), (q28, .inl (γ 0, 8, .inl (fun _ => 0))), (q29, .inr (1, [.ref q30, .int 0])), (q30, .inl (γ 0, 40, .inl (fun _ => 0))), (q31, .inl (γ 3, 3, .inr (.inr (.inr (.inr (fun j => ([q32, q34, q36] : List Nat)[j]?)))))), (q32, .inr (1, [.ref q33, .int (-1)])), (q33, .inl (γ 0, 40, .inl (fun _ => 0))), (q34, .inr (1, [.ref q35, .int (-1)])), (q35, .inl (γ 0, 40, .inl (fun _ => 0))), (q36, .inr (1, [.ref q37, .int (-1)])), (q37, .inl (γ 0, 40, .inl (fun _ => 0))), (q38, .inr (3, [.ref q39])), (q39, .inl (γ 4, 4, .inr (.inr (.inr (.inr (fun j => ([q40, q41, q42, q43] : List Nat)[j]?)))))), (q40, .inl (γ 0, 8, .inl (fun _ => 0))), (q41, .inl (γ 0, 8, .inl (fun _ => 0))), (q42, .inl (γ 0, 8, .inl (fun _ => 0))), (q43, .inl (γ 0, 8, .inl (fun _ => 0))), (q44, .inl (γ 0, 6, .inl (fun _ => 0))), (q45, .inl (γ 1, 7, .inr (.inl (fun _ => 0)))), (q46, .inl (γ 0, 6, .inl (fun _ => 0)))]) [] [.ref q47] dL_law_12 mtX8_init lkL_12 imX8_init rfl rfl rfl (Nat.le_of_ble_eq_true rfl) (Nat.le_of_ble_eq_true rfl) [46] [0, 1, 2, 3, 4, 5, 6, 7, 8, 9, 10, 11, 12, 13, 14, 15, 16, 17, 18, 19, 20, 21, 22, 23, 24, 25, 26, 27, 28, 29, 30, 31, 32, 33, 34, 35, 36, 37, 38, 39, 40, 41, 42, 43, 44, 45] rfl rfl (by decide) (by decide) (by decide) rfl rfl bX8 (fun r w1 hq => ?_)
  obtain ⟨rfl, q48, q49, q50, q51, q52, q53, q54, q55, q56, q57, q58, q59, q60, q61, rfl⟩ := hq
  refine zc_astore_n (pc := 15) (ls' := [.ref b, .ref q1, .ref q47, .retAddr 0]) 2 dL_law_15 rfl (by decide) rfl ?_
  refine zc_exit (fun lsr hl => ⟨rfl, rfl, (fun c => if c = 99 then b else ([q1, q2, q3, q4, q5, q6, q7, q8, q9, q10, q11, q12, q13, q14, q15, q16, q17, q18, q19, q20, q21, q22, q23, q24, q25, q26, q27, q28, q29, q30, q31, q32, q33, q34, q35, q36, q37, q38, q39, q40, q41, q42, q43, q44, q45, q46, q47, q48, q49, q50, q51, q52, q53, q54, q55, q56, q57, q58, q59, q60, q61] : List Nat).getD c 0), rfl, ?_, hl⟩) trivial
  have e1 : ((fun (j : Nat) => ([q3, q5, q7, q9, q11, q13] : List Nat)[j]?)) = (fun (j : Nat) => (([2, 4, 6, 8, 10, 12] : List Nat)[j]?).map (fun c => if c = 99 then b else ([q1, q2, q3, q4, q5, q6, q7, q8, q9, q10, q11, q12, q13, q14, q15, q16, q17, q18, q19, q20, q21, q22, q23, q24, q25, q26, q27, q28, q29, q30, q31, q32, q33, q34, q35, q36, q37, q38, q39, q40, q41, q42, q43, q44, q45, q46, q47, q48, q49, q50, q51, q52, q53, q54, q55, q56, q57, q58, q59, q60, q61] : List Nat).getD c 0)) := by
    funext j
    rw [← List.getElem?_map]
    rfl
  have e14 : ((fun (j : Nat) => ([q16, q18, q20, q22] : List Nat)[j]?)) = (fun (j : Nat) => (([15, 17, 19, 21] : List Nat)[j]?).map (fun c => if c = 99 then b else ([q1, q2, q3, q4, q5, q6, q7, q8, q9, q10, q11, q12, q13, q14, q15, q16, q17, q18, q19, q20, q21, q22, q23, q24, q25, q26, q27, q28, q29, q30, q31, q32, q33, q34, q35, q36, q37, q38, q39, q40, q41, q42, q43, q44, q45, q46, q47, q48, q49, q50, q51, q52, q53, q54, q55, q56, q57, q58, q59, q60, q61] : List Nat).getD c 0)) := by
    funext j
    rw [← List.getElem?_map]
    rfl
  have e30 : ((fun (j : Nat) => ([q32, q34, q36] : List Nat)[j]?)) = (fun (j : Nat) => (([31, 33, 35] : List Nat)[j]?).map (fun c => if c = 99 then b else ([q1, q2, q3, q4, q5, q6, q7, q8, q9, q10, q11, q12, q13, q14, q15, q16, q17, q18, q19, q20, q21, q22, q23, q24, q25, q26, q27, q28, q29, q30, q31, q32, q33, q34, q35, q36, q37, q38, q39, q40, q41, q42, q43, q44, q45, q46, q47, q48, q49, q50, q51, q52, q53, q54, q55, q56, q57, q58, q59, q60, q61] : List Nat).getD c 0)) := by
    funext j
    rw [← List.getElem?_map]
    rfl
  have e38 : ((fun (j : Nat) => ([q40, q41, q42, q43] : List Nat)[j]?)) = (fun (j : Nat) => (([39, 40, 41, 42] : List Nat)[j]?).map (fun c => if c = 99 then b else ([q1, q2, q3, q4, q5, q6, q7, q8, q9, q10, q11, q12, q13, q14, q15, q16, q17, q18, q19, q20, q21, q22, q23, q24, q25, q26, q27, q28, q29, q30, q31, q32, q33, q34, q35, q36, q37, q38, q39, q40, q41, q42, q43, q44, q45, q46, q47, q48, q49, q50, q51, q52, q53, q54, q55, q56, q57, q58, q59, q60, q61] : List Nat).getD c 0)) := by
    funext j
    rw [← List.getElem?_map]
    rfl
  rw [e1, e14, e30, e38, zws2]
  rfl
end M63
