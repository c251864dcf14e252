/-! the reference as it is made -/
set_option maxHeartbeats 2000000 in
theorem l12_ok : ∀ q ∈ refs0, 89 ≤ q.1 → q.1 ≤ 132 → At l12 q.1 q.2.1 = some q.2.2 := by
  have h : refs0.all (fun q => decide (89 ≤ q.1 → q.1 ≤ 132 → At l12 q.1 q.2.1 = some q.2.2)) = true := by decide +kernel
  intro q hq
  exact of_decide_eq_true (List.all_eq_true.mp h q hq)
set_option maxHeartbeats 2000000 in
theorem l12_in : ∀ p ∈ l12, p.1 = 89 ∧ p.2.1 < 86 ∧ 89 ≤ p.2.2 ∧ p.2.2 ≤ 132 := by
  have h : l12.all (fun p => decide (p.1 = 89 ∧ p.2.1 < 86 ∧ 89 ≤ p.2.2 ∧ p.2.2 ≤ 132)) = true := by decide +kernel
  intro p hp
  exact of_decide_eq_true (List.all_eq_true.mp h p hp)
set_option maxHeartbeats 2000000 in
theorem refs0_89 : ∀ p ∈ refs0, p.1 ≤ 89 ∧ (p.1 = 89 → p.2.1 < 86) := by
  have h : refs0.all (fun p => decide (p.1 ≤ 89 ∧ (p.1 = 89 → p.2.1 < 86))) = true := by decide +kernel
  intro p hp
  exact of_decide_eq_true (List.all_eq_true.mp h p hp)
set_option maxHeartbeats 2000000 in
theorem l12_RF {a j : Nat} (ha : 89 ≤ a) : At l12 a j = RF a j := by
  show At l12 a j = At refs0 a j
  by_cases c : a = 89 ∧ j < 86
  · obtain ⟨rfl, hj⟩ := c
    have h : (List.range 86).all (fun j => decide (At l12 89 j = At refs0 89 j)) = true := by decide +kernel
    exact of_decide_eq_true (List.all_eq_true.mp h j (List.mem_range.mpr hj))
  · have n1 : At l12 a j = none := by
      cases e : At l12 a j with
      | none => rfl
      | some x =>
        obtain ⟨p, hp, q1, q2, -⟩ := At_mem e
        have := l12_in p hp
        omega
    have n2 : At refs0 a j = none := by
      cases e : At refs0 a j with
      | none => rfl
      | some x =>
        obtain ⟨p, hp, q1, q2, -⟩ := At_mem e
        have := refs0_89 p hp
        omega
    rw [n1, n2]
set_option maxHeartbeats 2000000 in
theorem inF_far {A : List Nat} {Q : List (Nat × Nat)} (ok : (A.all (fun a => decide (a < 133)) && Q.all (fun q => decide (q.1 < 133))) = true) {a k : Nat} (ha : 133 ≤ a) : inF A Q a k = false := by
  rw [Bool.and_eq_true] at ok
  unfold inF
  rw [Bool.or_eq_false_iff]
  refine ⟨?_, ?_⟩
  · cases hc : A.contains a with
    | false => rfl
    | true =>
      rw [List.contains_iff_mem] at hc
      have := of_decide_eq_true (List.all_eq_true.mp ok.1 _ hc)
      omega
  · cases hc : Q.contains (a, k) with
    | false => rfl
    | true =>
      rw [List.contains_iff_mem] at hc
      have := of_decide_eq_true (List.all_eq_true.mp ok.2 _ hc)
      have : a < 133 := this
      omega
set_option maxHeartbeats 2000000 in
theorem st_ref {h : AH} (z : Zc 90 h) (zz : ∀ a j, 89 ≤ a → gI h a j = 0 ∧ gL h a j = 0 ∧ gR h a j = none) : ∃ h' k, mX12_init [.ref 89] h = some (.inl none, h') ∧ GRf g0 k ∧ gN h' = 133 ∧ gX h' = 0 ∧ (∀ a j, 89 ≤ a → a ≤ 132 → gI h' a j = gI k a j ∧ gL h' a j = gL k a j) ∧ (∀ a j, gR h' a j = (At l12 a j).or (gR h a j)) ∧ (∀ a j, a < 89 → gI h' a j = gI h a j) ∧ ∀ a j, 133 ≤ a → (gI h' a j = 0 ∧ gL h' a j = 0) ∧ gI k a j = 0 ∧ gL k a j = 0 := by
  obtain ⟨hF, eF, nF⟩ := mk_X12 z
  have rF : ∀ a j, gR hF a j = (At l12 a j).or (gR h a j) := fun a j => nF.at a j
  have iF := fun a j => (nF.2.2.1 a j).1
  have lF : ∀ a j, gL hF a j = gL h a j := fun a j => (nF.2.2.1 a j).2
  have r1 : ∀ q ∈ refs0, 89 ≤ q.1 → q.1 ≤ 132 → gR hF q.1 q.2.1 = some q.2.2 := fun q hq x1 x2 => by
    rw [rF, l12_ok q hq x1 x2] <;> rfl
  have r2 : ∀ a j x, 89 ≤ a → a ≤ 132 → gR hF a j = some x → 89 ≤ x ∧ x ≤ 132 := by
    intro a j x x1 x2 e
    rw [rF, (zz a j x1).2.2] at e
    cases c : At l12 a j with
    | none => rw [c] at e; cases e
    | some y =>
      rw [c] at e
      have e : some y = some x := e
      injection e with e
      subst e
      obtain ⟨p, hp, -, -, rfl⟩ := At_mem c
      exact (l12_in p hp).2.2
  have m1 : gN hF = 133 := nF.1
  have wk := fuH_wf r1
  have lo := fuH_lo m1 nF.2.1 (by omega) r2
  have okk : okS (133, fun i => 89 ≤ i ∧ i ≤ 132, hF) [.ref 89] := okS.c (B := (133, fun i => 89 ≤ i ∧ i ≤ 132, hF)) (Or.inl (show 89 ≤ 89 ∧ 89 ≤ 132 from ⟨by omega, by omega⟩)) okS.n
  obtain ⟨k1, e1, f1, hd1⟩ := m_clear wk
  have w1 := f1.wf wk
  obtain ⟨k2, e2, f2, bm, g115, g109, g75, g58, g59, g60⟩ := m_settleB b0_wp w1 hd1 ⟨fun a ha k hk => by rw [b0_cnt] at hk; exact absurd hk (Nat.not_lt_zero _), fun a ha k hk => by rw [b0_cnt] at hk; exact absurd hk (Nat.not_lt_zero _)⟩
  obtain ⟨x1, y1, lo1, -⟩ := q_mX12_clear [.ref 89] hF (fuH 89 132 hF) none k1 okk lo e1
  obtain ⟨x2, y2, lo2, -⟩ := q_mX12_settle [.ref 89] x1 k1 none k2 okk lo1 e2
  have n1 : gN x1 = 133 := lo1.1.1
  obtain ⟨⟨l1, -⟩, l2, l3, l4, l5, l6⟩ := lo2
  have keep : ∀ a j, inF [] KQ a j = false → inF [109, 114, 115] [(89, 55), (89, 58), (89, 59), (89, 60), (89, 75)] a j = false → gI k2 a j = gI hF a j ∧ gL k2 a j = gL hF a j := fun a j h1 h2 => ⟨(f2.2 a j h2).1.trans (f1.2 a j h1).1, (f2.2 a j h2).2.trans (f1.2 a j h1).2⟩
  have rk : ∀ a j, gR k2 a j = gR (fuH 89 132 hF) a j := fun a j => (f2.r a j).trans (f1.r a j)
  have n37 : gI k2 89 37 = N 0 := by
    rw [(keep 89 37 (by decide) (by decide)).1, iF]
    simp (disch := first | decide | omega) only [gI_eq, gI_ne, gI_nk]
    exact (zz 89 37 (by omega)).1
  have n38 : gI k2 89 38 = N 0 := by
    rw [(keep 89 38 (by decide) (by decide)).1, iF]
    simp (disch := first | decide | omega) only [gI_eq, gI_ne, gI_nk]
    exact (zz 89 38 (by omega)).1
  have n39 : gI k2 89 39 = J (-1) := by
    rw [(keep 89 39 (by decide) (by decide)).1, iF]
    simp (disch := first | decide | omega) only [gI_eq, gI_ne, gI_nk]
    all_goals first | rfl | decide
  have pw : PW k2 := by
    intro k hk
    rcases (show k = 0 ∨ k = 1 ∨ k = 2 ∨ k = 3 ∨ k = 4 by omega) with rfl | rfl | rfl | rfl | rfl
    · rw [(keep 132 0 (by decide) (by decide)).1, iF]
      simp (disch := first | decide | omega) only [gI_eq, gI_ne, gI_nk]
      all_goals first | rfl | decide
    · rw [(keep 132 1 (by decide) (by decide)).1, iF]
      simp (disch := first | decide | omega) only [gI_eq, gI_ne, gI_nk]
      all_goals first | rfl | decide
    · rw [(keep 132 2 (by decide) (by decide)).1, iF]
      simp (disch := first | decide | omega) only [gI_eq, gI_ne, gI_nk]
      all_goals first | rfl | decide
    · rw [(keep 132 3 (by decide) (by decide)).1, iF]
      simp (disch := first | decide | omega) only [gI_eq, gI_ne, gI_nk]
      all_goals first | rfl | decide
    · rw [(keep 132 4 (by decide) (by decide)).1, iF]
      simp (disch := first | decide | omega) only [gI_eq, gI_ne, gI_nk]
      all_goals first | rfl | decide
  have hd2 : HdM b0 k2 := fun i h1 h2 => by
    have := bm.1 i h1 h2
    rwa [cpl_o (by omega)] at this
  have far : ∀ a j, 133 ≤ a → gI hF a j = 0 ∧ gL hF a j = 0 := fun a j ha => by
    rw [iF, lF]
    simp (disch := first | decide | omega) only [gI_ne]
    exact ⟨(zz a j (by omega)).1, (zz a j (by omega)).2.1⟩
  refine ⟨x2, k2, ?_, ⟨⟨⟨by decide, n37, fun i hi => absurd hi (Nat.not_lt_zero _), fun _ => (show 0 < 256 from by decide)⟩, n38, n39⟩, ⟨hd2, ⟨fun a ha k hk => ?_, fun a ha k hk => ?_⟩, bm, pw⟩, fun a ha => Or.inl (g115 a (Nat.lt_of_lt_of_le ha (by decide))), ⟨g109, g58, g59, g60⟩, g75, fun j hj => absurd hj (Nat.not_lt_zero _)⟩, l1, l2, fun a j h1 h2 => ⟨(l4 a j ⟨h1, h2⟩).1, (l4 a j ⟨h1, h2⟩).2.1⟩, fun a j => ?_, fun a j ha => ?_, fun a j ha => ?_⟩
  · rw [eF, r_callV_0, if_pos ⟨rfl, by rw [m1]; decide, by rw [cs_nil]; decide⟩, y1, r_aft_n, r_aload_0, r_callV_0, if_pos ⟨rfl, by rw [n1]; decide, by rw [cs_nil]; decide⟩, y2] <;> rfl
  · have hk : k < cnt b0 a := hk
    rw [b0_cnt] at hk; exact absurd hk (Nat.not_lt_zero _)
  · have hk : k < cnt b0 a := hk
    rw [b0_cnt] at hk; exact absurd hk (Nat.not_lt_zero _)
  · by_cases c : 89 ≤ a ∧ a ≤ 132
    · rw [(l4 a j c).2.2, rk, ← rF]
      show (if 89 ≤ a ∧ a ≤ 132 then gR hF a j else RF a j) = _
      rw [if_pos c]
    · rw [(l6 a j c).2.2, ← rF]
  · rw [(l6 a j (fun c => by
      have c : 89 ≤ a ∧ a ≤ 132 := c
      omega)).1]
    show gI hF a j = gI h a j
    rw [iF]
    simp (disch := first | decide | omega) only [gI_ne]
  · have x := l6 a j (fun c => by
      have c : 89 ≤ a ∧ a ≤ 132 := c
      omega)
    have y := far a j ha
    have k := keep a j (inF_far (by decide) ha) (inF_far (by decide) ha)
    exact ⟨⟨x.1.trans y.1, x.2.1.trans y.2⟩, k.1.trans y.1, k.2.trans y.2⟩
