/-! a brigade as it is made -/
def Gap (a c : Nat) (h h' : AH) : Prop := ∀ x j, ¬ (a ≤ x ∧ x ≤ c) → gI h' x j = gI h x j ∧ gL h' x j = gL h x j ∧ gR h' x j = gR h x j
def lB8 : List (Nat × Nat × Nat) := [(8, 16, 28), (8, 15, 27), (8, 14, 26), (8, 13, 25), (8, 12, 24), (8, 11, 23), (8, 1, 13), (13, 9, 22), (13, 8, 21), (13, 7, 20), (13, 6, 19), (13, 5, 18), (13, 4, 17), (13, 3, 16), (13, 2, 15), (13, 1, 14), (8, 0, 9), (9, 3, 12), (9, 2, 11), (9, 1, 10)]
set_option maxHeartbeats 2000000 in
theorem lB8_ok : ∀ q ∈ refs0, 8 ≤ q.1 → q.1 ≤ 8 + 20 → ∃ p, lB8.find? (fun p => p.1 == q.1 && p.2.1 == q.2.1) = some p ∧ p.2.2 = q.2.2 := by
  have h : refs0.all (fun q => decide (8 ≤ q.1 → q.1 ≤ 8 + 20 → (lB8.find? (fun p => p.1 == q.1 && p.2.1 == q.2.1)).map (fun p => p.2.2) = some q.2.2)) = true := by decide +kernel
  intro q hq h1 h2
  have e := of_decide_eq_true (List.all_eq_true.mp h q hq) h1 h2
  cases z : lB8.find? (fun p => p.1 == q.1 && p.2.1 == q.2.1) with
  | none => rw [z] at e; cases e
  | some p => rw [z] at e; injection e with e; exact ⟨p, rfl, e⟩
set_option maxHeartbeats 2000000 in
theorem lB8_in : ∀ p ∈ lB8, (8 ≤ p.1 ∧ p.1 ≤ 8 + 20) ∧ 8 ≤ p.2.2 ∧ p.2.2 ≤ 8 + 20 := by decide
set_option maxHeartbeats 2000000 in
theorem mk_B8 {h : AH} (z0 : Zc 8 h) : ∃ h', mX0_init [.ref 8] (nw h) = some (.inl none, h') ∧ gN h' = 29 ∧ gX h' = 0 ∧ (∀ q ∈ refs0, 8 ≤ q.1 → q.1 ≤ 8 + 20 → gR h' q.1 q.2.1 = some q.2.2) ∧ (∀ a j x, 8 ≤ a → a ≤ 8 + 20 → gR h' a j = some x → 8 ≤ x ∧ x ≤ 8 + 20) ∧ Gap 8 (8 + 20) h h' ∧ HC 8 b0 h' ∧ gI h' 8 10 = N 0 ∧ RW (8 + 17) (rm b0 0) h' := by
  have n0 : Nu [] 9 h (nw h) := Nu.made z0 (Nu.refl z0) (by omega) (by decide)
  have z : Zc 9 (nw h) := n0.zc z0 (by omega) (by decide)
  obtain ⟨h1, e1, n1⟩ := mk_X0_8 z
  have n2 : Nu lB8 29 h h1 := n0.trans n1
  obtain ⟨m1, m2, m3, m4⟩ := n2
  have r1 : ∀ q ∈ refs0, 8 ≤ q.1 → q.1 ≤ 8 + 20 → gR h1 q.1 q.2.1 = some q.2.2 := by
    intro q hq a1 a2
    obtain ⟨p, hp, e⟩ := lB8_ok q hq a1 a2
    rw [m4, hp, ← e]
  have r2 : ∀ a j x, 8 ≤ a → a ≤ 8 + 20 → gR h1 a j = some x → 8 ≤ x ∧ x ≤ 8 + 20 := by
    intro a j x a1 a2 e
    rw [m4] at e
    cases f : lB8.find? (fun p => p.1 == a && p.2.1 == j) with
    | none => rw [f] at e; rw [(z0.2.2 a j a1).2.2] at e; cases e
    | some p =>
      rw [f] at e
      injection e with e
      subst e
      exact (lB8_in p (List.mem_of_find?_eq_some f)).2
  obtain ⟨h2, e2, g1, g2, g3, g4, g5, g6, g7⟩ := clear_lo (b := 8) (by omega) m1 m2 (by omega) r1 r2
  refine ⟨h2, ?_, g1, g2, fun q hq a1 a2 => (g4 _ _).trans (r1 q hq a1 a2), fun a j x a1 a2 e => r2 a j x a1 a2 ((g4 a j).symm.trans e), fun x j hx => ?_, g5, g6, g7⟩
  · rw [e1, r_callV_0, if_pos ⟨rfl, by rw [m1]; decide, by rw [cs_nil]; decide⟩, e2]
    rfl
  · refine ⟨(g3 x j hx).1.trans (m3 x j).1, (g3 x j hx).2.trans (m3 x j).2, (g4 x j).trans ((m4 x j).trans ?_)⟩
    have f : lB8.find? (fun p => p.1 == x && p.2.1 == j) = none := by
      rw [List.find?_eq_none]
      intro p hp hh
      have h1 := (lB8_in p hp).1
      have h2 : p.1 = x := eq_of_beq ((Bool.and_eq_true _ _).mp hh).1
      omega
    rw [f]
def lB29 : List (Nat × Nat × Nat) := [(29, 16, 49), (29, 15, 48), (29, 14, 47), (29, 13, 46), (29, 12, 45), (29, 11, 44), (29, 1, 34), (34, 9, 43), (34, 8, 42), (34, 7, 41), (34, 6, 40), (34, 5, 39), (34, 4, 38), (34, 3, 37), (34, 2, 36), (34, 1, 35), (29, 0, 30), (30, 3, 33), (30, 2, 32), (30, 1, 31)]
set_option maxHeartbeats 2000000 in
theorem lB29_ok : ∀ q ∈ refs0, 29 ≤ q.1 → q.1 ≤ 29 + 20 → ∃ p, lB29.find? (fun p => p.1 == q.1 && p.2.1 == q.2.1) = some p ∧ p.2.2 = q.2.2 := by
  have h : refs0.all (fun q => decide (29 ≤ q.1 → q.1 ≤ 29 + 20 → (lB29.find? (fun p => p.1 == q.1 && p.2.1 == q.2.1)).map (fun p => p.2.2) = some q.2.2)) = true := by decide +kernel
  intro q hq h1 h2
  have e := of_decide_eq_true (List.all_eq_true.mp h q hq) h1 h2
  cases z : lB29.find? (fun p => p.1 == q.1 && p.2.1 == q.2.1) with
  | none => rw [z] at e; cases e
  | some p => rw [z] at e; injection e with e; exact ⟨p, rfl, e⟩
set_option maxHeartbeats 2000000 in
theorem lB29_in : ∀ p ∈ lB29, (29 ≤ p.1 ∧ p.1 ≤ 29 + 20) ∧ 29 ≤ p.2.2 ∧ p.2.2 ≤ 29 + 20 := by decide
set_option maxHeartbeats 2000000 in
theorem mk_B29 {h : AH} (z0 : Zc 29 h) : ∃ h', mX0_init [.ref 29] (nw h) = some (.inl none, h') ∧ gN h' = 50 ∧ gX h' = 0 ∧ (∀ q ∈ refs0, 29 ≤ q.1 → q.1 ≤ 29 + 20 → gR h' q.1 q.2.1 = some q.2.2) ∧ (∀ a j x, 29 ≤ a → a ≤ 29 + 20 → gR h' a j = some x → 29 ≤ x ∧ x ≤ 29 + 20) ∧ Gap 29 (29 + 20) h h' ∧ HC 29 b0 h' ∧ gI h' 29 10 = N 0 ∧ RW (29 + 17) (rm b0 0) h' := by
  have n0 : Nu [] 30 h (nw h) := Nu.made z0 (Nu.refl z0) (by omega) (by decide)
  have z : Zc 30 (nw h) := n0.zc z0 (by omega) (by decide)
  obtain ⟨h1, e1, n1⟩ := mk_X0_29 z
  have n2 : Nu lB29 50 h h1 := n0.trans n1
  obtain ⟨m1, m2, m3, m4⟩ := n2
  have r1 : ∀ q ∈ refs0, 29 ≤ q.1 → q.1 ≤ 29 + 20 → gR h1 q.1 q.2.1 = some q.2.2 := by
    intro q hq a1 a2
    obtain ⟨p, hp, e⟩ := lB29_ok q hq a1 a2
    rw [m4, hp, ← e]
  have r2 : ∀ a j x, 29 ≤ a → a ≤ 29 + 20 → gR h1 a j = some x → 29 ≤ x ∧ x ≤ 29 + 20 := by
    intro a j x a1 a2 e
    rw [m4] at e
    cases f : lB29.find? (fun p => p.1 == a && p.2.1 == j) with
    | none => rw [f] at e; rw [(z0.2.2 a j a1).2.2] at e; cases e
    | some p =>
      rw [f] at e
      injection e with e
      subst e
      exact (lB29_in p (List.mem_of_find?_eq_some f)).2
  obtain ⟨h2, e2, g1, g2, g3, g4, g5, g6, g7⟩ := clear_lo (b := 29) (by omega) m1 m2 (by omega) r1 r2
  refine ⟨h2, ?_, g1, g2, fun q hq a1 a2 => (g4 _ _).trans (r1 q hq a1 a2), fun a j x a1 a2 e => r2 a j x a1 a2 ((g4 a j).symm.trans e), fun x j hx => ?_, g5, g6, g7⟩
  · rw [e1, r_callV_0, if_pos ⟨rfl, by rw [m1]; decide, by rw [cs_nil]; decide⟩, e2]
    rfl
  · refine ⟨(g3 x j hx).1.trans (m3 x j).1, (g3 x j hx).2.trans (m3 x j).2, (g4 x j).trans ((m4 x j).trans ?_)⟩
    have f : lB29.find? (fun p => p.1 == x && p.2.1 == j) = none := by
      rw [List.find?_eq_none]
      intro p hp hh
      have h1 := (lB29_in p hp).1
      have h2 : p.1 = x := eq_of_beq ((Bool.and_eq_true _ _).mp hh).1
      omega
    rw [f]
