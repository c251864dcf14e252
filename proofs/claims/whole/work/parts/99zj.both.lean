/-! both brigades are made -/
set_option maxHeartbeats 2000000 in
theorem Gap.zc {a c m : Nat} {h h' : AH} (z : Zc a h) (g : Gap a c h h') (hm : gN h' = m) (hx : gX h' = 0) (hc : a ≤ m) (hcm : c < m) : Zc m h' :=
  ⟨hm, hx, fun x j hxm => by
    obtain ⟨g1, g2, g3⟩ := g x j (by omega)
    obtain ⟨z1, z2, z3⟩ := z.2.2 x j (by omega)
    exact ⟨g1.trans z1, g2.trans z2, g3.trans z3⟩⟩
set_option maxHeartbeats 2000000 in
theorem Zc.put {m a k r : Nat} {h : AH} (z : Zc m h) (ha : a < m) : Zc m (sR h a k (some r)) :=
  ⟨z.1, z.2.1, fun x j hx => by
    obtain ⟨z1, z2, z3⟩ := z.2.2 x j hx
    exact ⟨z1, z2, by rw [gR_sR, if_neg (show ¬ (x = a ∧ j = k) from fun c => by omega)]; exact z3⟩⟩
set_option maxHeartbeats 2000000 in
theorem st_B8 {K : Fn} {h : AH} (z : Zc 8 h) : ∃ h1, i_new 0 (i_dup (i_callI 0 mX0_init (i_putR 10 8 K))) [some (.ref 0)] [.ref 0] h = K [some (.ref 0)] [] (sR h1 0 8 (some 8)) ∧ Zc 29 (sR h1 0 8 (some 8)) ∧ (∀ q ∈ refs0, 8 ≤ q.1 → q.1 ≤ 8 + 20 → gR h1 q.1 q.2.1 = some q.2.2) ∧ (∀ a j x, 8 ≤ a → a ≤ 8 + 20 → gR h1 a j = some x → 8 ≤ x ∧ x ≤ 8 + 20) ∧ Gap 8 (8 + 20) h h1 ∧ HC 8 b0 h1 ∧ gI h1 8 10 = N 0 ∧ RW (8 + 17) (rm b0 0) h1 := by
  obtain ⟨h1, e, m1, m2, r1, r2, g, q1, q2, q3⟩ := mk_B8 z
  have k1 : ∀ F L S, i_new 0 F L S h = F L (.ref 8 :: S) (nw h) := fun F L S => k_new z.1 z.2.1 (by decide)
  have k2 : ∀ F L S, i_putR 10 8 F L (.ref 8 :: .ref 0 :: S) h1 = F L S (sR h1 0 8 (some 8)) := fun F L S => k_putR m1 (by decide)
  refine ⟨h1, ?_, (g.zc z m1 m2 (by omega) (by omega)).put (by omega), r1, r2, g, q1, q2, q3⟩
  simp only [k1, r_dup_r, r_callI_0, e, r_aft_n, cs_nil, cs_int, cs_ref, Nat.reduceAdd, Nat.reduceLeDiff, if_true, Nat.add_zero, k2]
set_option maxHeartbeats 2000000 in
theorem st_B29 {K : Fn} {h : AH} (z : Zc 29 h) : ∃ h1, i_new 0 (i_dup (i_callI 0 mX0_init (i_putR 10 9 K))) [some (.ref 0)] [.ref 0] h = K [some (.ref 0)] [] (sR h1 0 9 (some 29)) ∧ Zc 50 (sR h1 0 9 (some 29)) ∧ (∀ q ∈ refs0, 29 ≤ q.1 → q.1 ≤ 29 + 20 → gR h1 q.1 q.2.1 = some q.2.2) ∧ (∀ a j x, 29 ≤ a → a ≤ 29 + 20 → gR h1 a j = some x → 29 ≤ x ∧ x ≤ 29 + 20) ∧ Gap 29 (29 + 20) h h1 ∧ HC 29 b0 h1 ∧ gI h1 29 10 = N 0 ∧ RW (29 + 17) (rm b0 0) h1 := by
  obtain ⟨h1, e, m1, m2, r1, r2, g, q1, q2, q3⟩ := mk_B29 z
  have k1 : ∀ F L S, i_new 0 F L S h = F L (.ref 29 :: S) (nw h) := fun F L S => k_new z.1 z.2.1 (by decide)
  have k2 : ∀ F L S, i_putR 10 9 F L (.ref 29 :: .ref 0 :: S) h1 = F L S (sR h1 0 9 (some 29)) := fun F L S => k_putR m1 (by decide)
  refine ⟨h1, ?_, (g.zc z m1 m2 (by omega) (by omega)).put (by omega), r1, r2, g, q1, q2, q3⟩
  simp only [k1, r_dup_r, r_callI_0, e, r_aft_n, cs_nil, cs_int, cs_ref, Nat.reduceAdd, Nat.reduceLeDiff, if_true, Nat.add_zero, k2]
