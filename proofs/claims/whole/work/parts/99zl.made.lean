/-! the class as it is made -/
set_option maxHeartbeats 2000000 in
theorem At_cons (i k r a j : Nat) (l : List (Nat × Nat × Nat)) : At ((i, k, r) :: l) a j = if a = i ∧ j = k then some r else At l a j := by
  unfold At
  rw [List.find?_cons]
  by_cases c : a = i ∧ j = k
  · obtain ⟨rfl, rfl⟩ := c
    rw [if_pos ⟨rfl, rfl⟩]
    simp
  · rw [if_neg c]
    have e : ((i, k, r).1 == a && (i, k, r).2.1 == j) = false := by
      cases hb : ((i, k, r).1 == a && (i, k, r).2.1 == j) with
      | false => rfl
      | true =>
        have := (Bool.and_eq_true _ _).mp hb
        exact absurd ⟨(eq_of_beq this.1).symm, (eq_of_beq this.2).symm⟩ c
    rw [e] <;> rfl
set_option maxHeartbeats 2000000 in
theorem At_app (l l2 : List (Nat × Nat × Nat)) (a j : Nat) : At (l ++ l2) a j = (At l a j).or (At l2 a j) := by
  unfold At
  rw [List.find?_append]
  cases l.find? (fun q => q.1 == a && q.2.1 == j) <;> rfl
set_option maxHeartbeats 2000000 in
theorem At_mem {l : List (Nat × Nat × Nat)} {a j x : Nat} (e : At l a j = some x) : ∃ p ∈ l, p.1 = a ∧ p.2.1 = j ∧ p.2.2 = x := by
  unfold At at e
  cases f : l.find? (fun q => q.1 == a && q.2.1 == j) with
  | none => rw [f] at e; cases e
  | some p =>
    rw [f] at e
    injection e with e
    have h0 : (p.1 == a && p.2.1 == j) = true := List.find?_some (p := fun q : Nat × Nat × Nat => q.1 == a && q.2.1 == j) f
    have h := (Bool.and_eq_true _ _).mp h0
    exact ⟨p, List.mem_of_find?_eq_some f, eq_of_beq h.1, eq_of_beq h.2, e⟩
set_option maxHeartbeats 2000000 in
theorem At_out {l : List (Nat × Nat × Nat)} {a j lo hi : Nat} (h : l.all (fun q => decide (¬ (lo ≤ q.1 ∧ q.1 ≤ hi))) = true) (h1 : lo ≤ a) (h2 : a ≤ hi) : At l a j = none := by
  cases e : At l a j with
  | none => rfl
  | some x =>
    obtain ⟨p, hp, q1, -, -⟩ := At_mem e
    have hq := of_decide_eq_true (List.all_eq_true.mp h p hp)
    exfalso
    omega
def lA : List (Nat × Nat × Nat) := [(0, 2, 6), (6, 1, 7), (0, 1, 2), (2, 2, 5), (2, 1, 4), (2, 0, 3), (0, 0, 1)]
def lY : List (Nat × Nat × Nat) := (0, 9, 29) :: (0, 8, 8) :: lA
def lX : List (Nat × Nat × Nat) := lC ++ lY
set_option maxHeartbeats 2000000 in
theorem lX_ok : ∀ q ∈ refs0, q.1 ≤ 88 → (q.1 < 8 ∨ 49 < q.1) → At lX q.1 q.2.1 = some q.2.2 := by
  have h : refs0.all (fun q => decide (q.1 ≤ 88 → (q.1 < 8 ∨ 49 < q.1) → At lX q.1 q.2.1 = some q.2.2)) = true := by decide +kernel
  intro q hq
  exact of_decide_eq_true (List.all_eq_true.mp h q hq)
set_option maxHeartbeats 2000000 in
theorem lX_in : ∀ p ∈ lX, p.2.2 ≤ 88 := by
  have h : lX.all (fun p => decide (p.2.2 ≤ 88)) = true := by decide +kernel
  intro p hp
  exact of_decide_eq_true (List.all_eq_true.mp h p hp)
/-- the class's heap, made but not yet served -/
def Made (h : AH) : Prop := gN h = 89 ∧ gX h = 0 ∧ (∀ q ∈ refs0, 0 ≤ q.1 → q.1 ≤ 88 → gR h q.1 q.2.1 = some q.2.2) ∧ (∀ a j x, 0 ≤ a → a ≤ 88 → gR h a j = some x → 0 ≤ x ∧ x ≤ 88) ∧ (∀ a j, 89 ≤ a → gI h a j = 0 ∧ gL h a j = 0 ∧ gR h a j = none) ∧ (gR h 0 8 = some 8 ∧ gR h 0 9 = some 29) ∧ (gI h 0 10 = N 0 ∧ gI h 0 11 = N 0 ∧ gI h 0 12 = J (-1)) ∧ HC 8 b0 h ∧ gI h 8 10 = N 0 ∧ RW (8 + 17) (rm b0 0) h
set_option maxHeartbeats 2000000 in
theorem st_made {h : AH} (z : Zc 1 h) (zz : ∀ a j, gI h a j = 0 ∧ gR h a j = none) : ∃ h', mX11_init [.ref 0] h = i_callV 10 0 mX11_serveLoadedBrigade i_return [some (.ref 0)] [.ref 0] h' ∧ Made h' := by
  obtain ⟨hA, eA, nA⟩ := st_A z
  have nA : Nu lA 8 h hA := nA
  have zA : Zc 8 hA := nA.zc z (by omega) (by decide)
  obtain ⟨h1, e1, z1, a1, a2, g1, c1, d1, w1⟩ := st_B8 (K := i_aload 0 (i_new 0 (i_dup fX11_init_51))) zA
  obtain ⟨h2, e2, z2, b1, b2, g2, c2, d2, w2⟩ := st_B29 (K := KC) z1
  have low : ∀ a j, ¬ (8 ≤ a ∧ a ≤ 49) → gR (sR h2 0 9 (some 29)) a j = At lY a j := by
    intro a j ha
    unfold lY
    rw [gR_sR, At_cons]
    by_cases q1 : a = 0 ∧ j = 9
    · rw [if_pos q1, if_pos q1]
    · rw [if_neg q1, if_neg q1, (g2 a j (by omega)).2.2, gR_sR, At_cons]
      by_cases q2 : a = 0 ∧ j = 8
      · rw [if_pos q2, if_pos q2]
      · rw [if_neg q2, if_neg q2, (g1 a j (by omega)).2.2, nA.at, (zz a j).2]
        cases At lA a j <;> rfl
  obtain ⟨hD, eD, nD⟩ := st_C z2 ((low 0 1 (by omega)).trans (by decide)) ((low 0 8 (by omega)).trans (by decide)) ((low 0 9 (by omega)).trans (by decide))
  have out : ∀ a j, ¬ (8 ≤ a ∧ a ≤ 49) → gR hD a j = At lX a j := by
    intro a j ha
    unfold lX
    rw [nD.at, At_app, ← low a j ha]
    rfl
  have cin : ∀ a j, 8 ≤ a → a ≤ 49 → gR hD a j = gR (sR h2 0 9 (some 29)) a j := by
    intro a j x1 x2
    exact nD.old (At_out (lo := 8) (hi := 49) (by decide) x1 x2)
  have r29 : ∀ a j, 29 ≤ a → a ≤ 49 → gR hD a j = gR h2 a j := by
    intro a j x1 x2
    rw [cin a j (by omega) x2, gR_sR, if_neg (by omega)]
  have r8 : ∀ a j, 8 ≤ a → a ≤ 28 → gR hD a j = gR h1 a j := by
    intro a j x1 x2
    rw [cin a j x1 (by omega), gR_sR, if_neg (by omega), (g2 a j (by omega)).2.2, gR_sR, if_neg (by omega)]
  have num : ∀ a j, gI hD a j = gI (sI (sI (sR h2 0 9 (some 29)) 0 11 (0)) 0 12 (-1)) a j := fun a j => (nD.2.2.1 a j).1
  have num8 : ∀ a j, 8 ≤ a → a ≤ 28 → gI hD a j = gI h1 a j := by
    intro a j x1 x2
    rw [num, gI_ne (by omega), gI_ne (by omega)]
    exact (g2 a j (by omega)).1
  refine ⟨hD, ?_, nD.1, nD.2.1, ?_, ?_, (nD.zc ((z2.setI (by omega) 11 (0)).setI (by omega) 12 (-1)) (by omega) (by decide)).2.2, ⟨(out 0 8 (by omega)).trans (by decide), (out 0 9 (by omega)).trans (by decide)⟩, ⟨?_, ?_, ?_⟩, ?_, (num8 8 10 (by omega) (by omega)).trans d1, ?_⟩
  · rw [eA, e1, r_aload_0, KC_of, e2, eD]
  · intro q hq _ h88
    by_cases q1 : 8 ≤ q.1 ∧ q.1 ≤ 28
    · rw [r8 _ _ q1.1 q1.2]
      exact a1 q hq q1.1 q1.2
    · by_cases q2 : 29 ≤ q.1 ∧ q.1 ≤ 49
      · rw [r29 _ _ q2.1 q2.2]
        exact b1 q hq q2.1 q2.2
      · rw [out _ _ (by omega)]
        exact lX_ok q hq h88 (by omega)
  · intro a j x _ h88 e
    refine ⟨Nat.zero_le _, ?_⟩
    by_cases q1 : 8 ≤ a ∧ a ≤ 28
    · rw [r8 _ _ q1.1 q1.2] at e
      have := a2 a j x q1.1 q1.2 e
      omega
    · by_cases q2 : 29 ≤ a ∧ a ≤ 49
      · rw [r29 _ _ q2.1 q2.2] at e
        have := b2 a j x q2.1 q2.2 e
        omega
      · rw [out _ _ (by omega)] at e
        obtain ⟨p, hp, -, -, rfl⟩ := At_mem e
        exact lX_in p hp
  · rw [num, gI_nk (by omega), gI_nk (by omega)]
    have y1 : gI (sR h2 0 9 (some 29)) 0 10 = gI h2 0 10 := rfl
    have y2 : gI h2 0 10 = gI h1 0 10 := (g2 0 10 (by omega)).1
    rw [y1, y2, (g1 0 10 (by omega)).1, (nA.2.2.1 0 10).1, (zz 0 10).1] <;> rfl
  · rw [num, gI_nk (by omega), gI_eq]
    all_goals first | rfl | decide
  · rw [num, gI_eq]
    all_goals first | rfl | decide
  · intro p hp
    have := hdL_lt p hp
    rw [num8 _ _ (by omega) (by omega)]
    exact c1 p hp
  · intro k hk
    rw [num8 _ _ (by omega) (by omega)]
    exact w1 k hk
/-- the state of a new object -/
def g0 : SG := (fun _ => 0, 0, b0, 8, fun _ => -1, fun _ _ => -1, 0, N 0, J (-1))
set_option maxHeartbeats 2000000 in
theorem st_served {h : AH} (M : Made h) : ∃ hE k, i_callV 10 0 mX11_serveLoadedBrigade i_return [some (.ref 0)] [.ref 0] h = some (.inl none, hE) ∧ WF k ∧ GCl g0 k ∧ gN hE = 89 ∧ gX hE = 0 ∧ (∀ a j, a ≤ 88 → gI hE a j = gI k a j ∧ gR hE a j = gR k a j) ∧ (∀ a j, 89 ≤ a → gI hE a j = 0 ∧ gL hE a j = 0 ∧ gR hE a j = none) ∧ ∀ a j, 89 ≤ a → gR k a j = RF a j := by
  obtain ⟨m1, m2, m3, m4, m5, ⟨m6, m7⟩, ⟨m8, m9, m10⟩, m11, m12, m13⟩ := M
  have wk := fuH_wf (b := 0) (c := 88) m3
  have lo := fuH_lo (b := 0) (c := 88) m1 m2 (by omega) m4
  have rl : ∀ a j, a ≤ 88 → gR (fuH 0 88 h) a j = gR h a j := fun a j ha => by
    show (if 0 ≤ a ∧ a ≤ 88 then gR h a j else RF a j) = _
    rw [if_pos ⟨Nat.zero_le _, ha⟩]
  have rh : ∀ a j, 89 ≤ a → gR (fuH 0 88 h) a j = RF a j := fun a j ha => by
    show (if 0 ≤ a ∧ a ≤ 88 then gR h a j else RF a j) = _
    rw [if_neg (fun c => by omega)]
  have x02 : b0 0 2 = 0 := by decide
  have x03 : b0 0 3 = 0 := by decide
  have xnd : nD (cpl b0) = 0 := by decide
  have bc : BC (cpl b0) 8 (fuH 0 88 h) := BC_of (h := fuH 0 88 h) m11 (fun p hp k hk => by rw [b0_cnt] at hk; exact absurd hk (Nat.not_lt_zero _)) (fun k hk => by rw [cpl_d, x02, x03]; exact m13 k hk)
  have cl : CL (cpl b0) 8 (fuH 0 88 h) := fun d hd => by
    rw [xnd] at hd
    exact absurd hd (Nat.not_lt_zero _)
  obtain ⟨k, e, wk', fx, q1, q2, q3, q4, q5, q6, q7⟩ := c_serveAll b0_wp wk (Or.inl rfl) bc cl ((rl 0 8 (by omega)).trans m6)
  obtain ⟨hE, eE, lo1, -⟩ := q_mX11_serveLoadedBrigade (B := (89, fun i => 0 ≤ i ∧ i ≤ 88, h)) [.ref 0] h (fuH 0 88 h) none k (okS.c (B := (89, fun i => 0 ≤ i ∧ i ≤ 88, h)) (Or.inl (show 0 ≤ 0 ∧ 0 ≤ 88 from ⟨by omega, by omega⟩)) okS.n) lo e
  obtain ⟨⟨l1, -⟩, l2, l3, l4, l5, l6⟩ := lo1
  have fr : ∀ a j, 89 ≤ a → gR k a j = gR (fuH 0 88 h) a j := fun a j ha => fx.2 a j (by omega) (by
    cases hc : svR.contains (a, j) with
    | false => rfl
    | true =>
      rw [List.contains_iff_mem] at hc
      have hs : ∀ p ∈ svR, p.1 ≤ 88 := by decide
      have := hs _ hc
      have : a ≤ 88 := this
      omega)
  have hnm : nmN b0 = 0 := by decide
  refine ⟨hE, k, ?_, wk', ⟨⟨?_, ⟨by decide, fun i hi => absurd hi (Nat.not_lt_zero _), fun _ => (show 0 < 256 from by decide)⟩, ?_, ?_⟩, ⟨?_, ?_, ⟨?_, fun _ => 0, fun i hi => ?_, fun o ho => absurd ho (b0_no o)⟩, q1, q2, q3, q6⟩, q4, q5, q7, fun j hj => absurd hj (Nat.not_lt_zero _)⟩, l1, l2, fun a j ha => ⟨(l4 a j ⟨Nat.zero_le _, ha⟩).1, (l4 a j ⟨Nat.zero_le _, ha⟩).2.2⟩, fun a j ha => ?_, fun a j ha => (fr a j ha).trans (rh a j ha)⟩
  · rw [r_callV_0, if_pos ⟨rfl, by rw [m1]; decide, by rw [cs_nil]; decide⟩, eE]
    rfl
  · exact (fx.i 0 10 (by decide)).trans m8
  · exact (fx.i 0 11 (by decide)).trans m9
  · exact (fx.i 0 12 (by decide)).trans m10
  · exact (fx.2 0 8 (by omega) rfl).trans ((rl 0 8 (by omega)).trans m6)
  · exact (fx.2 0 9 (by omega) rfl).trans ((rl 0 9 (by omega)).trans m7)
  · show gI k 8 10 = N (nmN b0)
    rw [hnm]
    exact (fx.i 8 10 (by decide)).trans m12
  · have hi : i < nmN b0 := hi
    rw [hnm] at hi
    exact absurd hi (Nat.not_lt_zero _)
  · have x := l6 a j (fun c => by
      have c : 0 ≤ a ∧ a ≤ 88 := c
      omega)
    have y := m5 a j ha
    exact ⟨x.1.trans y.1, x.2.1.trans y.2.1, x.2.2.trans y.2.2⟩
