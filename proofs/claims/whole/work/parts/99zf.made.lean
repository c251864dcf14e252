/-! the makers: cells are made, nothing is read -/
/-- n cells, the rest is zero -/
def Zc (n : Nat) (h : AH) : Prop := gN h = n ∧ gX h = 0 ∧ ∀ a j, n ≤ a → gI h a j = 0 ∧ gL h a j = 0 ∧ gR h a j = none
/-- from h: cells are made up to m, the references of l are set -/
def Nu (l : List (Nat × Nat × Nat)) (m : Nat) (h h' : AH) : Prop := gN h' = m ∧ gX h' = 0 ∧ (∀ a j, gI h' a j = gI h a j ∧ gL h' a j = gL h a j) ∧ ∀ a j, gR h' a j = match l.find? (fun q => q.1 == a && q.2.1 == j) with | some q => some q.2.2 | none => gR h a j
set_option maxHeartbeats 2000000 in
theorem Nu.refl {n : Nat} {h : AH} (z : Zc n h) : Nu [] n h h := ⟨z.1, z.2.1, fun _ _ => ⟨rfl, rfl⟩, fun _ _ => rfl⟩
set_option maxHeartbeats 2000000 in
theorem Nu.zc {l : List (Nat × Nat × Nat)} {n m : Nat} {h h' : AH} (z : Zc n h) (q : Nu l m h h') (hm : n ≤ m) (hl : l.all (fun q => decide (q.1 < m)) = true) : Zc m h' := by
  obtain ⟨q1, q2, q3, q4⟩ := q
  refine ⟨q1, q2, fun a j ha => ⟨(q3 a j).1.trans (z.2.2 a j (by omega)).1, (q3 a j).2.trans (z.2.2 a j (by omega)).2.1, ?_⟩⟩
  rw [q4]
  have e : l.find? (fun q => q.1 == a && q.2.1 == j) = none := by
    rw [List.find?_eq_none]
    intro q hq hh
    have h1 := of_decide_eq_true (List.all_eq_true.mp hl q hq)
    have h2 : q.1 = a := by
      have := (Bool.and_eq_true _ _).mp hh
      exact eq_of_beq this.1
    omega
  rw [e]
  exact (z.2.2 a j (by omega)).2.2
set_option maxHeartbeats 2000000 in
theorem Nu.made {l : List (Nat × Nat × Nat)} {n m : Nat} {h h' : AH} (z : Zc n h) (q : Nu l m h h') (hm : n ≤ m) (hl : l.all (fun q => decide (q.1 < m)) = true) : Nu l (m + 1) h (nw h') := by
  have zc := q.zc z hm hl
  obtain ⟨q1, q2, q3, q4⟩ := q
  have e1 : ∀ a j, gI (nw h') a j = gI h' a j := fun a j => by
    show (if a = gN h' then 0 else gI h' a j) = _
    split
    · next c => exact (zc.2.2 a j (by omega)).1.symm
    · rfl
  have e2 : ∀ a j, gL (nw h') a j = gL h' a j := fun a j => by
    show (if a = gN h' then 0 else gL h' a j) = _
    split
    · next c => exact (zc.2.2 a j (by omega)).2.1.symm
    · rfl
  have e3 : ∀ a j, gR (nw h') a j = gR h' a j := fun a j => by
    show (if a = gN h' then none else gR h' a j) = _
    split
    · next c => exact (zc.2.2 a j (by omega)).2.2.symm
    · rfl
  exact ⟨by show gN h' + 1 = m + 1; rw [q1], q2, fun a j => ⟨(e1 a j).trans (q3 a j).1, (e2 a j).trans (q3 a j).2⟩, fun a j => (e3 a j).trans (q4 a j)⟩
set_option maxHeartbeats 2000000 in
theorem Nu.set1 {l : List (Nat × Nat × Nat)} {m : Nat} {h h' : AH} (q : Nu l m h h') (i k r : Nat) : Nu ((i, k, r) :: l) m h (sR h' i k (some r)) := by
  obtain ⟨q1, q2, q3, q4⟩ := q
  refine ⟨q1, q2, q3, fun a j => ?_⟩
  rw [gR_sR]
  by_cases c : a = i ∧ j = k
  · obtain ⟨rfl, rfl⟩ := c
    rw [if_pos ⟨rfl, rfl⟩, List.find?_cons]
    simp
  · rw [if_neg c, List.find?_cons]
    have e : ((i, k, r).1 == a && (i, k, r).2.1 == j) = false := by
      cases hb : ((i, k, r).1 == a && (i, k, r).2.1 == j) with
      | false => rfl
      | true =>
        have := (Bool.and_eq_true _ _).mp hb
        exact absurd ⟨(eq_of_beq this.1).symm, (eq_of_beq this.2).symm⟩ c
    rw [e]
    exact q4 a j
set_option maxHeartbeats 2000000 in
theorem k_newarr {m kd M : Nat} {F : Fn} {L : Lc} {S : List Value} {h : AH} {x : Int32} (e1 : gN h = m) (e2 : gX h = 0) (c : m < NT ∧ sh m = (kd, M) ∧ ¬ x < 0 ∧ x.toNatClampNeg = M ∧ M ≤ 4096) : i_newarr kd M F L (.int x :: S) h = F L (.ref m :: S) (nw h) := by
  rw [r_newarr, if_pos ⟨e2, by rw [e1]; exact c.1, by rw [e1]; exact c.2.1, c.2.2⟩, e1]
set_option maxHeartbeats 2000000 in
theorem k_new {m ci : Nat} {F : Fn} {L : Lc} {S : List Value} {h : AH} (e1 : gN h = m) (e2 : gX h = 0) (c : m < NT ∧ sh m = (0, ci)) : i_new ci F L S h = F L (.ref m :: S) (nw h) := by
  rw [r_new, if_pos ⟨e2, by rw [e1]; exact c.1, by rw [e1]; exact c.2⟩, e1]
set_option maxHeartbeats 2000000 in
theorem k_putR {m ci k i j : Nat} {F : Fn} {L : Lc} {S : List Value} {h : AH} (e1 : gN h = m) (c : sh i = (0, ci) ∧ i < m) : i_putR ci k F L (.ref j :: .ref i :: S) h = F L S (sR h i k (some j)) := by
  rw [r_putR, if_pos ⟨c.1, by rw [e1]; exact c.2⟩]
set_option maxHeartbeats 2000000 in
theorem Nu.trans {l l2 : List (Nat × Nat × Nat)} {m m2 : Nat} {h h1 h2 : AH} (x : Nu l m h h1) (y : Nu l2 m2 h1 h2) : Nu (l2 ++ l) m2 h h2 := by
  obtain ⟨x1, x2, x3, x4⟩ := x
  obtain ⟨y1, y2, y3, y4⟩ := y
  refine ⟨y1, y2, fun a j => ⟨(y3 a j).1.trans (x3 a j).1, (y3 a j).2.trans (x3 a j).2⟩, fun a j => ?_⟩
  rw [y4, List.find?_append]
  cases l2.find? (fun q => q.1 == a && q.2.1 == j) with
  | some q => rfl
  | none => rw [x4]; rfl
set_option maxHeartbeats 2000000 in
theorem mk_X10_2 {h : AH} (z : Zc 3 h) : ∃ h', mX10_init [.ref 2] h = some (.inl none, h') ∧ Nu [(2, 2, 5), (2, 1, 4), (2, 0, 3)] 6 h h' := by
  have s0 := Nu.refl z
  obtain ⟨h1, hh1⟩ : ∃ q, q = nw h := ⟨_, rfl⟩
  have k1 : ∀ F L S, i_newarr 4 1001 F L (.int 1001 :: S) h = F L (.ref 3 :: S) h1 := fun F L S => by rw [hh1]; exact k_newarr s0.1 s0.2.1 (by decide)
  have s1 : Nu [] 4 h h1 := by rw [hh1]; exact Nu.made z s0 (by omega) (by decide)
  obtain ⟨h2, hh2⟩ : ∃ q, q = sR h1 2 0 (some 3) := ⟨_, rfl⟩
  have k2 : ∀ F L S, i_putR 9 0 F L (.ref 3 :: .ref 2 :: S) h1 = F L S h2 := fun F L S => by rw [hh2]; exact k_putR s1.1 (by decide)
  have s2 : Nu [(2, 0, 3)] 4 h h2 := by rw [hh2]; exact s1.set1 2 0 3
  obtain ⟨h3, hh3⟩ : ∃ q, q = nw h2 := ⟨_, rfl⟩
  have k3 : ∀ F L S, i_newarr 1 1001 F L (.int 1001 :: S) h2 = F L (.ref 4 :: S) h3 := fun F L S => by rw [hh3]; exact k_newarr s2.1 s2.2.1 (by decide)
  have s3 : Nu [(2, 0, 3)] 5 h h3 := by rw [hh3]; exact Nu.made z s2 (by omega) (by decide)
  obtain ⟨h4, hh4⟩ : ∃ q, q = sR h3 2 1 (some 4) := ⟨_, rfl⟩
  have k4 : ∀ F L S, i_putR 9 1 F L (.ref 4 :: .ref 2 :: S) h3 = F L S h4 := fun F L S => by rw [hh4]; exact k_putR s3.1 (by decide)
  have s4 : Nu [(2, 1, 4), (2, 0, 3)] 5 h h4 := by rw [hh4]; exact s3.set1 2 1 4
  obtain ⟨h5, hh5⟩ : ∃ q, q = nw h4 := ⟨_, rfl⟩
  have k5 : ∀ F L S, i_newarr 1 1001 F L (.int 1001 :: S) h4 = F L (.ref 5 :: S) h5 := fun F L S => by rw [hh5]; exact k_newarr s4.1 s4.2.1 (by decide)
  have s5 : Nu [(2, 1, 4), (2, 0, 3)] 6 h h5 := by rw [hh5]; exact Nu.made z s4 (by omega) (by decide)
  obtain ⟨h6, hh6⟩ : ∃ q, q = sR h5 2 2 (some 5) := ⟨_, rfl⟩
  have k6 : ∀ F L S, i_putR 9 2 F L (.ref 5 :: .ref 2 :: S) h5 = F L S h6 := fun F L S => by rw [hh6]; exact k_putR s5.1 (by decide)
  have s6 : Nu [(2, 2, 5), (2, 1, 4), (2, 0, 3)] 6 h h6 := by rw [hh6]; exact s5.set1 2 2 5
  refine ⟨h6, ?_, s6⟩
  rw [u_X10_init]
  simp only [e_X10_init_0, r_aload_0, r_aload_1, r_aload_2, r_push, r_objInit, r_dup_r, r_callI_0, r_callI_1, r_callI_2, r_aft_n, r_return, cs_nil, cs_int, cs_ref, Nat.reduceAdd, Nat.reduceLeDiff, if_true, Nat.add_zero, k1, k2, k3, k4, k5, k6]
set_option maxHeartbeats 2000000 in
theorem mk_X4_6 {h : AH} (z : Zc 7 h) : ∃ h', mX4_init [.ref 6] h = some (.inl none, h') ∧ Nu [(6, 1, 7)] 8 h h' := by
  have s0 := Nu.refl z
  obtain ⟨h1, hh1⟩ : ∃ q, q = nw h := ⟨_, rfl⟩
  have k1 : ∀ F L S, i_newarr 1 40 F L (.int 40 :: S) h = F L (.ref 7 :: S) h1 := fun F L S => by rw [hh1]; exact k_newarr s0.1 s0.2.1 (by decide)
  have s1 : Nu [] 8 h h1 := by rw [hh1]; exact Nu.made z s0 (by omega) (by decide)
  obtain ⟨h2, hh2⟩ : ∃ q, q = sR h1 6 1 (some 7) := ⟨_, rfl⟩
  have k2 : ∀ F L S, i_putR 4 1 F L (.ref 7 :: .ref 6 :: S) h1 = F L S h2 := fun F L S => by rw [hh2]; exact k_putR s1.1 (by decide)
  have s2 : Nu [(6, 1, 7)] 8 h h2 := by rw [hh2]; exact s1.set1 6 1 7
  refine ⟨h2, ?_, s2⟩
  rw [u_X4_init]
  simp only [e_X4_init_0, r_aload_0, r_aload_1, r_aload_2, r_push, r_objInit, r_dup_r, r_callI_0, r_callI_1, r_callI_2, r_aft_n, r_return, cs_nil, cs_int, cs_ref, Nat.reduceAdd, Nat.reduceLeDiff, if_true, Nat.add_zero, k1, k2]
set_option maxHeartbeats 2000000 in
theorem mk_X7_9 {h : AH} (z : Zc 10 h) : ∃ h', mX7_init [.ref 9] h = some (.inl none, h') ∧ Nu [(9, 3, 12), (9, 2, 11), (9, 1, 10)] 13 h h' := by
  have s0 := Nu.refl z
  obtain ⟨h1, hh1⟩ : ∃ q, q = nw h := ⟨_, rfl⟩
  have k1 : ∀ F L S, i_newarr 1 12 F L (.int 12 :: S) h = F L (.ref 10 :: S) h1 := fun F L S => by rw [hh1]; exact k_newarr s0.1 s0.2.1 (by decide)
  have s1 : Nu [] 11 h h1 := by rw [hh1]; exact Nu.made z s0 (by omega) (by decide)
  obtain ⟨h2, hh2⟩ : ∃ q, q = sR h1 9 1 (some 10) := ⟨_, rfl⟩
  have k2 : ∀ F L S, i_putR 7 1 F L (.ref 10 :: .ref 9 :: S) h1 = F L S h2 := fun F L S => by rw [hh2]; exact k_putR s1.1 (by decide)
  have s2 : Nu [(9, 1, 10)] 11 h h2 := by rw [hh2]; exact s1.set1 9 1 10
  obtain ⟨h3, hh3⟩ : ∃ q, q = nw h2 := ⟨_, rfl⟩
  have k3 : ∀ F L S, i_newarr 1 12 F L (.int 12 :: S) h2 = F L (.ref 11 :: S) h3 := fun F L S => by rw [hh3]; exact k_newarr s2.1 s2.2.1 (by decide)
  have s3 : Nu [(9, 1, 10)] 12 h h3 := by rw [hh3]; exact Nu.made z s2 (by omega) (by decide)
  obtain ⟨h4, hh4⟩ : ∃ q, q = sR h3 9 2 (some 11) := ⟨_, rfl⟩
  have k4 : ∀ F L S, i_putR 7 2 F L (.ref 11 :: .ref 9 :: S) h3 = F L S h4 := fun F L S => by rw [hh4]; exact k_putR s3.1 (by decide)
  have s4 : Nu [(9, 2, 11), (9, 1, 10)] 12 h h4 := by rw [hh4]; exact s3.set1 9 2 11
  obtain ⟨h5, hh5⟩ : ∃ q, q = nw h4 := ⟨_, rfl⟩
  have k5 : ∀ F L S, i_newarr 1 12 F L (.int 12 :: S) h4 = F L (.ref 12 :: S) h5 := fun F L S => by rw [hh5]; exact k_newarr s4.1 s4.2.1 (by decide)
  have s5 : Nu [(9, 2, 11), (9, 1, 10)] 13 h h5 := by rw [hh5]; exact Nu.made z s4 (by omega) (by decide)
  obtain ⟨h6, hh6⟩ : ∃ q, q = sR h5 9 3 (some 12) := ⟨_, rfl⟩
  have k6 : ∀ F L S, i_putR 7 3 F L (.ref 12 :: .ref 9 :: S) h5 = F L S h6 := fun F L S => by rw [hh6]; exact k_putR s5.1 (by decide)
  have s6 : Nu [(9, 3, 12), (9, 2, 11), (9, 1, 10)] 13 h h6 := by rw [hh6]; exact s5.set1 9 3 12
  refine ⟨h6, ?_, s6⟩
  rw [u_X7_init]
  simp only [e_X7_init_0, r_aload_0, r_aload_1, r_aload_2, r_push, r_objInit, r_dup_r, r_callI_0, r_callI_1, r_callI_2, r_aft_n, r_return, cs_nil, cs_int, cs_ref, Nat.reduceAdd, Nat.reduceLeDiff, if_true, Nat.add_zero, k1, k2, k3, k4, k5, k6]
set_option maxHeartbeats 2000000 in
theorem mk_X3_13 {h : AH} (z : Zc 14 h) : ∃ h', mX3_init [.ref 13] h = some (.inl none, h') ∧ Nu [(13, 9, 22), (13, 8, 21), (13, 7, 20), (13, 6, 19), (13, 5, 18), (13, 4, 17), (13, 3, 16), (13, 2, 15), (13, 1, 14)] 23 h h' := by
  have s0 := Nu.refl z
  obtain ⟨h1, hh1⟩ : ∃ q, q = nw h := ⟨_, rfl⟩
  have k1 : ∀ F L S, i_newarr 1 5 F L (.int 5 :: S) h = F L (.ref 14 :: S) h1 := fun F L S => by rw [hh1]; exact k_newarr s0.1 s0.2.1 (by decide)
  have s1 : Nu [] 15 h h1 := by rw [hh1]; exact Nu.made z s0 (by omega) (by decide)
  obtain ⟨h2, hh2⟩ : ∃ q, q = sR h1 13 1 (some 14) := ⟨_, rfl⟩
  have k2 : ∀ F L S, i_putR 3 1 F L (.ref 14 :: .ref 13 :: S) h1 = F L S h2 := fun F L S => by rw [hh2]; exact k_putR s1.1 (by decide)
  have s2 : Nu [(13, 1, 14)] 15 h h2 := by rw [hh2]; exact s1.set1 13 1 14
  obtain ⟨h3, hh3⟩ : ∃ q, q = nw h2 := ⟨_, rfl⟩
  have k3 : ∀ F L S, i_newarr 1 5 F L (.int 5 :: S) h2 = F L (.ref 15 :: S) h3 := fun F L S => by rw [hh3]; exact k_newarr s2.1 s2.2.1 (by decide)
  have s3 : Nu [(13, 1, 14)] 16 h h3 := by rw [hh3]; exact Nu.made z s2 (by omega) (by decide)
  obtain ⟨h4, hh4⟩ : ∃ q, q = sR h3 13 2 (some 15) := ⟨_, rfl⟩
  have k4 : ∀ F L S, i_putR 3 2 F L (.ref 15 :: .ref 13 :: S) h3 = F L S h4 := fun F L S => by rw [hh4]; exact k_putR s3.1 (by decide)
  have s4 : Nu [(13, 2, 15), (13, 1, 14)] 16 h h4 := by rw [hh4]; exact s3.set1 13 2 15
  obtain ⟨h5, hh5⟩ : ∃ q, q = nw h4 := ⟨_, rfl⟩
  have k5 : ∀ F L S, i_newarr 1 5 F L (.int 5 :: S) h4 = F L (.ref 16 :: S) h5 := fun F L S => by rw [hh5]; exact k_newarr s4.1 s4.2.1 (by decide)
  have s5 : Nu [(13, 2, 15), (13, 1, 14)] 17 h h5 := by rw [hh5]; exact Nu.made z s4 (by omega) (by decide)
  obtain ⟨h6, hh6⟩ : ∃ q, q = sR h5 13 3 (some 16) := ⟨_, rfl⟩
  have k6 : ∀ F L S, i_putR 3 3 F L (.ref 16 :: .ref 13 :: S) h5 = F L S h6 := fun F L S => by rw [hh6]; exact k_putR s5.1 (by decide)
  have s6 : Nu [(13, 3, 16), (13, 2, 15), (13, 1, 14)] 17 h h6 := by rw [hh6]; exact s5.set1 13 3 16
  obtain ⟨h7, hh7⟩ : ∃ q, q = nw h6 := ⟨_, rfl⟩
  have k7 : ∀ F L S, i_newarr 1 5 F L (.int 5 :: S) h6 = F L (.ref 17 :: S) h7 := fun F L S => by rw [hh7]; exact k_newarr s6.1 s6.2.1 (by decide)
  have s7 : Nu [(13, 3, 16), (13, 2, 15), (13, 1, 14)] 18 h h7 := by rw [hh7]; exact Nu.made z s6 (by omega) (by decide)
  obtain ⟨h8, hh8⟩ : ∃ q, q = sR h7 13 4 (some 17) := ⟨_, rfl⟩
  have k8 : ∀ F L S, i_putR 3 4 F L (.ref 17 :: .ref 13 :: S) h7 = F L S h8 := fun F L S => by rw [hh8]; exact k_putR s7.1 (by decide)
  have s8 : Nu [(13, 4, 17), (13, 3, 16), (13, 2, 15), (13, 1, 14)] 18 h h8 := by rw [hh8]; exact s7.set1 13 4 17
  obtain ⟨h9, hh9⟩ : ∃ q, q = nw h8 := ⟨_, rfl⟩
  have k9 : ∀ F L S, i_newarr 1 5 F L (.int 5 :: S) h8 = F L (.ref 18 :: S) h9 := fun F L S => by rw [hh9]; exact k_newarr s8.1 s8.2.1 (by decide)
  have s9 : Nu [(13, 4, 17), (13, 3, 16), (13, 2, 15), (13, 1, 14)] 19 h h9 := by rw [hh9]; exact Nu.made z s8 (by omega) (by decide)
  obtain ⟨h10, hh10⟩ : ∃ q, q = sR h9 13 5 (some 18) := ⟨_, rfl⟩
  have k10 : ∀ F L S, i_putR 3 5 F L (.ref 18 :: .ref 13 :: S) h9 = F L S h10 := fun F L S => by rw [hh10]; exact k_putR s9.1 (by decide)
  have s10 : Nu [(13, 5, 18), (13, 4, 17), (13, 3, 16), (13, 2, 15), (13, 1, 14)] 19 h h10 := by rw [hh10]; exact s9.set1 13 5 18
  obtain ⟨h11, hh11⟩ : ∃ q, q = nw h10 := ⟨_, rfl⟩
  have k11 : ∀ F L S, i_newarr 1 15 F L (.int 15 :: S) h10 = F L (.ref 19 :: S) h11 := fun F L S => by rw [hh11]; exact k_newarr s10.1 s10.2.1 (by decide)
  have s11 : Nu [(13, 5, 18), (13, 4, 17), (13, 3, 16), (13, 2, 15), (13, 1, 14)] 20 h h11 := by rw [hh11]; exact Nu.made z s10 (by omega) (by decide)
  obtain ⟨h12, hh12⟩ : ∃ q, q = sR h11 13 6 (some 19) := ⟨_, rfl⟩
  have k12 : ∀ F L S, i_putR 3 6 F L (.ref 19 :: .ref 13 :: S) h11 = F L S h12 := fun F L S => by rw [hh12]; exact k_putR s11.1 (by decide)
  have s12 : Nu [(13, 6, 19), (13, 5, 18), (13, 4, 17), (13, 3, 16), (13, 2, 15), (13, 1, 14)] 20 h h12 := by rw [hh12]; exact s11.set1 13 6 19
  obtain ⟨h13, hh13⟩ : ∃ q, q = nw h12 := ⟨_, rfl⟩
  have k13 : ∀ F L S, i_newarr 1 50 F L (.int 50 :: S) h12 = F L (.ref 20 :: S) h13 := fun F L S => by rw [hh13]; exact k_newarr s12.1 s12.2.1 (by decide)
  have s13 : Nu [(13, 6, 19), (13, 5, 18), (13, 4, 17), (13, 3, 16), (13, 2, 15), (13, 1, 14)] 21 h h13 := by rw [hh13]; exact Nu.made z s12 (by omega) (by decide)
  obtain ⟨h14, hh14⟩ : ∃ q, q = sR h13 13 7 (some 20) := ⟨_, rfl⟩
  have k14 : ∀ F L S, i_putR 3 7 F L (.ref 20 :: .ref 13 :: S) h13 = F L S h14 := fun F L S => by rw [hh14]; exact k_putR s13.1 (by decide)
  have s14 : Nu [(13, 7, 20), (13, 6, 19), (13, 5, 18), (13, 4, 17), (13, 3, 16), (13, 2, 15), (13, 1, 14)] 21 h h14 := by rw [hh14]; exact s13.set1 13 7 20
  obtain ⟨h15, hh15⟩ : ∃ q, q = nw h14 := ⟨_, rfl⟩
  have k15 : ∀ F L S, i_newarr 1 50 F L (.int 50 :: S) h14 = F L (.ref 21 :: S) h15 := fun F L S => by rw [hh15]; exact k_newarr s14.1 s14.2.1 (by decide)
  have s15 : Nu [(13, 7, 20), (13, 6, 19), (13, 5, 18), (13, 4, 17), (13, 3, 16), (13, 2, 15), (13, 1, 14)] 22 h h15 := by rw [hh15]; exact Nu.made z s14 (by omega) (by decide)
  obtain ⟨h16, hh16⟩ : ∃ q, q = sR h15 13 8 (some 21) := ⟨_, rfl⟩
  have k16 : ∀ F L S, i_putR 3 8 F L (.ref 21 :: .ref 13 :: S) h15 = F L S h16 := fun F L S => by rw [hh16]; exact k_putR s15.1 (by decide)
  have s16 : Nu [(13, 8, 21), (13, 7, 20), (13, 6, 19), (13, 5, 18), (13, 4, 17), (13, 3, 16), (13, 2, 15), (13, 1, 14)] 22 h h16 := by rw [hh16]; exact s15.set1 13 8 21
  obtain ⟨h17, hh17⟩ : ∃ q, q = nw h16 := ⟨_, rfl⟩
  have k17 : ∀ F L S, i_newarr 1 5 F L (.int 5 :: S) h16 = F L (.ref 22 :: S) h17 := fun F L S => by rw [hh17]; exact k_newarr s16.1 s16.2.1 (by decide)
  have s17 : Nu [(13, 8, 21), (13, 7, 20), (13, 6, 19), (13, 5, 18), (13, 4, 17), (13, 3, 16), (13, 2, 15), (13, 1, 14)] 23 h h17 := by rw [hh17]; exact Nu.made z s16 (by omega) (by decide)
  obtain ⟨h18, hh18⟩ : ∃ q, q = sR h17 13 9 (some 22) := ⟨_, rfl⟩
  have k18 : ∀ F L S, i_putR 3 9 F L (.ref 22 :: .ref 13 :: S) h17 = F L S h18 := fun F L S => by rw [hh18]; exact k_putR s17.1 (by decide)
  have s18 : Nu [(13, 9, 22), (13, 8, 21), (13, 7, 20), (13, 6, 19), (13, 5, 18), (13, 4, 17), (13, 3, 16), (13, 2, 15), (13, 1, 14)] 23 h h18 := by rw [hh18]; exact s17.set1 13 9 22
  refine ⟨h18, ?_, s18⟩
  rw [u_X3_init]
  simp only [e_X3_init_0, e_X3_init_42, r_aload_0, r_aload_1, r_aload_2, r_push, r_objInit, r_dup_r, r_callI_0, r_callI_1, r_callI_2, r_aft_n, r_return, cs_nil, cs_int, cs_ref, Nat.reduceAdd, Nat.reduceLeDiff, if_true, Nat.add_zero, k1, k2, k3, k4, k5, k6, k7, k8, k9, k10, k11, k12, k13, k14, k15, k16, k17, k18]
set_option maxHeartbeats 2000000 in
theorem mk_X0_8 {h : AH} (z : Zc 9 h) : ∃ h', mX0_init [.ref 8] h = i_callV 0 0 mX0_clear i_return [some (.ref 8)] [.ref 8] h' ∧ Nu [(8, 16, 28), (8, 15, 27), (8, 14, 26), (8, 13, 25), (8, 12, 24), (8, 11, 23), (8, 1, 13), (13, 9, 22), (13, 8, 21), (13, 7, 20), (13, 6, 19), (13, 5, 18), (13, 4, 17), (13, 3, 16), (13, 2, 15), (13, 1, 14), (8, 0, 9), (9, 3, 12), (9, 2, 11), (9, 1, 10)] 29 h h' := by
  have s0 := Nu.refl z
  obtain ⟨h1, hh1⟩ : ∃ q, q = nw h := ⟨_, rfl⟩
  have k1 : ∀ F L S, i_new 7 F L S h = F L (.ref 9 :: S) h1 := fun F L S => by rw [hh1]; exact k_new s0.1 s0.2.1 (by decide)
  have s1 : Nu [] 10 h h1 := by rw [hh1]; exact Nu.made z s0 (by omega) (by decide)
  obtain ⟨h2, k2, t2⟩ := mk_X7_9 (s1.zc z (by omega) (by decide))
  have s2 : Nu [(9, 3, 12), (9, 2, 11), (9, 1, 10)] 13 h h2 := s1.trans t2
  obtain ⟨h3, hh3⟩ : ∃ q, q = sR h2 8 0 (some 9) := ⟨_, rfl⟩
  have k3 : ∀ F L S, i_putR 0 0 F L (.ref 9 :: .ref 8 :: S) h2 = F L S h3 := fun F L S => by rw [hh3]; exact k_putR s2.1 (by decide)
  have s3 : Nu [(8, 0, 9), (9, 3, 12), (9, 2, 11), (9, 1, 10)] 13 h h3 := by rw [hh3]; exact s2.set1 8 0 9
  obtain ⟨h4, hh4⟩ : ∃ q, q = nw h3 := ⟨_, rfl⟩
  have k4 : ∀ F L S, i_new 3 F L S h3 = F L (.ref 13 :: S) h4 := fun F L S => by rw [hh4]; exact k_new s3.1 s3.2.1 (by decide)
  have s4 : Nu [(8, 0, 9), (9, 3, 12), (9, 2, 11), (9, 1, 10)] 14 h h4 := by rw [hh4]; exact Nu.made z s3 (by omega) (by decide)
  obtain ⟨h5, k5, t5⟩ := mk_X3_13 (s4.zc z (by omega) (by decide))
  have s5 : Nu [(13, 9, 22), (13, 8, 21), (13, 7, 20), (13, 6, 19), (13, 5, 18), (13, 4, 17), (13, 3, 16), (13, 2, 15), (13, 1, 14), (8, 0, 9), (9, 3, 12), (9, 2, 11), (9, 1, 10)] 23 h h5 := s4.trans t5
  obtain ⟨h6, hh6⟩ : ∃ q, q = sR h5 8 1 (some 13) := ⟨_, rfl⟩
  have k6 : ∀ F L S, i_putR 0 1 F L (.ref 13 :: .ref 8 :: S) h5 = F L S h6 := fun F L S => by rw [hh6]; exact k_putR s5.1 (by decide)
  have s6 : Nu [(8, 1, 13), (13, 9, 22), (13, 8, 21), (13, 7, 20), (13, 6, 19), (13, 5, 18), (13, 4, 17), (13, 3, 16), (13, 2, 15), (13, 1, 14), (8, 0, 9), (9, 3, 12), (9, 2, 11), (9, 1, 10)] 23 h h6 := by rw [hh6]; exact s5.set1 8 1 13
  obtain ⟨h7, hh7⟩ : ∃ q, q = nw h6 := ⟨_, rfl⟩
  have k7 : ∀ F L S, i_newarr 1 33 F L (.int 33 :: S) h6 = F L (.ref 23 :: S) h7 := fun F L S => by rw [hh7]; exact k_newarr s6.1 s6.2.1 (by decide)
  have s7 : Nu [(8, 1, 13), (13, 9, 22), (13, 8, 21), (13, 7, 20), (13, 6, 19), (13, 5, 18), (13, 4, 17), (13, 3, 16), (13, 2, 15), (13, 1, 14), (8, 0, 9), (9, 3, 12), (9, 2, 11), (9, 1, 10)] 24 h h7 := by rw [hh7]; exact Nu.made z s6 (by omega) (by decide)
  obtain ⟨h8, hh8⟩ : ∃ q, q = sR h7 8 11 (some 23) := ⟨_, rfl⟩
  have k8 : ∀ F L S, i_putR 0 11 F L (.ref 23 :: .ref 8 :: S) h7 = F L S h8 := fun F L S => by rw [hh8]; exact k_putR s7.1 (by decide)
  have s8 : Nu [(8, 11, 23), (8, 1, 13), (13, 9, 22), (13, 8, 21), (13, 7, 20), (13, 6, 19), (13, 5, 18), (13, 4, 17), (13, 3, 16), (13, 2, 15), (13, 1, 14), (8, 0, 9), (9, 3, 12), (9, 2, 11), (9, 1, 10)] 24 h h8 := by rw [hh8]; exact s7.set1 8 11 23
  obtain ⟨h9, hh9⟩ : ∃ q, q = nw h8 := ⟨_, rfl⟩
  have k9 : ∀ F L S, i_newarr 1 33 F L (.int 33 :: S) h8 = F L (.ref 24 :: S) h9 := fun F L S => by rw [hh9]; exact k_newarr s8.1 s8.2.1 (by decide)
  have s9 : Nu [(8, 11, 23), (8, 1, 13), (13, 9, 22), (13, 8, 21), (13, 7, 20), (13, 6, 19), (13, 5, 18), (13, 4, 17), (13, 3, 16), (13, 2, 15), (13, 1, 14), (8, 0, 9), (9, 3, 12), (9, 2, 11), (9, 1, 10)] 25 h h9 := by rw [hh9]; exact Nu.made z s8 (by omega) (by decide)
  obtain ⟨h10, hh10⟩ : ∃ q, q = sR h9 8 12 (some 24) := ⟨_, rfl⟩
  have k10 : ∀ F L S, i_putR 0 12 F L (.ref 24 :: .ref 8 :: S) h9 = F L S h10 := fun F L S => by rw [hh10]; exact k_putR s9.1 (by decide)
  have s10 : Nu [(8, 12, 24), (8, 11, 23), (8, 1, 13), (13, 9, 22), (13, 8, 21), (13, 7, 20), (13, 6, 19), (13, 5, 18), (13, 4, 17), (13, 3, 16), (13, 2, 15), (13, 1, 14), (8, 0, 9), (9, 3, 12), (9, 2, 11), (9, 1, 10)] 25 h h10 := by rw [hh10]; exact s9.set1 8 12 24
  obtain ⟨h11, hh11⟩ : ∃ q, q = nw h10 := ⟨_, rfl⟩
  have k11 : ∀ F L S, i_newarr 1 144 F L (.int 144 :: S) h10 = F L (.ref 25 :: S) h11 := fun F L S => by rw [hh11]; exact k_newarr s10.1 s10.2.1 (by decide)
  have s11 : Nu [(8, 12, 24), (8, 11, 23), (8, 1, 13), (13, 9, 22), (13, 8, 21), (13, 7, 20), (13, 6, 19), (13, 5, 18), (13, 4, 17), (13, 3, 16), (13, 2, 15), (13, 1, 14), (8, 0, 9), (9, 3, 12), (9, 2, 11), (9, 1, 10)] 26 h h11 := by rw [hh11]; exact Nu.made z s10 (by omega) (by decide)
  obtain ⟨h12, hh12⟩ : ∃ q, q = sR h11 8 13 (some 25) := ⟨_, rfl⟩
  have k12 : ∀ F L S, i_putR 0 13 F L (.ref 25 :: .ref 8 :: S) h11 = F L S h12 := fun F L S => by rw [hh12]; exact k_putR s11.1 (by decide)
  have s12 : Nu [(8, 13, 25), (8, 12, 24), (8, 11, 23), (8, 1, 13), (13, 9, 22), (13, 8, 21), (13, 7, 20), (13, 6, 19), (13, 5, 18), (13, 4, 17), (13, 3, 16), (13, 2, 15), (13, 1, 14), (8, 0, 9), (9, 3, 12), (9, 2, 11), (9, 1, 10)] 26 h h12 := by rw [hh12]; exact s11.set1 8 13 25
  obtain ⟨h13, hh13⟩ : ∃ q, q = nw h12 := ⟨_, rfl⟩
  have k13 : ∀ F L S, i_newarr 1 6 F L (.int 6 :: S) h12 = F L (.ref 26 :: S) h13 := fun F L S => by rw [hh13]; exact k_newarr s12.1 s12.2.1 (by decide)
  have s13 : Nu [(8, 13, 25), (8, 12, 24), (8, 11, 23), (8, 1, 13), (13, 9, 22), (13, 8, 21), (13, 7, 20), (13, 6, 19), (13, 5, 18), (13, 4, 17), (13, 3, 16), (13, 2, 15), (13, 1, 14), (8, 0, 9), (9, 3, 12), (9, 2, 11), (9, 1, 10)] 27 h h13 := by rw [hh13]; exact Nu.made z s12 (by omega) (by decide)
  obtain ⟨h14, hh14⟩ : ∃ q, q = sR h13 8 14 (some 26) := ⟨_, rfl⟩
  have k14 : ∀ F L S, i_putR 0 14 F L (.ref 26 :: .ref 8 :: S) h13 = F L S h14 := fun F L S => by rw [hh14]; exact k_putR s13.1 (by decide)
  have s14 : Nu [(8, 14, 26), (8, 13, 25), (8, 12, 24), (8, 11, 23), (8, 1, 13), (13, 9, 22), (13, 8, 21), (13, 7, 20), (13, 6, 19), (13, 5, 18), (13, 4, 17), (13, 3, 16), (13, 2, 15), (13, 1, 14), (8, 0, 9), (9, 3, 12), (9, 2, 11), (9, 1, 10)] 27 h h14 := by rw [hh14]; exact s13.set1 8 14 26
  obtain ⟨h15, hh15⟩ : ∃ q, q = nw h14 := ⟨_, rfl⟩
  have k15 : ∀ F L S, i_newarr 1 10 F L (.int 10 :: S) h14 = F L (.ref 27 :: S) h15 := fun F L S => by rw [hh15]; exact k_newarr s14.1 s14.2.1 (by decide)
  have s15 : Nu [(8, 14, 26), (8, 13, 25), (8, 12, 24), (8, 11, 23), (8, 1, 13), (13, 9, 22), (13, 8, 21), (13, 7, 20), (13, 6, 19), (13, 5, 18), (13, 4, 17), (13, 3, 16), (13, 2, 15), (13, 1, 14), (8, 0, 9), (9, 3, 12), (9, 2, 11), (9, 1, 10)] 28 h h15 := by rw [hh15]; exact Nu.made z s14 (by omega) (by decide)
  obtain ⟨h16, hh16⟩ : ∃ q, q = sR h15 8 15 (some 27) := ⟨_, rfl⟩
  have k16 : ∀ F L S, i_putR 0 15 F L (.ref 27 :: .ref 8 :: S) h15 = F L S h16 := fun F L S => by rw [hh16]; exact k_putR s15.1 (by decide)
  have s16 : Nu [(8, 15, 27), (8, 14, 26), (8, 13, 25), (8, 12, 24), (8, 11, 23), (8, 1, 13), (13, 9, 22), (13, 8, 21), (13, 7, 20), (13, 6, 19), (13, 5, 18), (13, 4, 17), (13, 3, 16), (13, 2, 15), (13, 1, 14), (8, 0, 9), (9, 3, 12), (9, 2, 11), (9, 1, 10)] 28 h h16 := by rw [hh16]; exact s15.set1 8 15 27
  obtain ⟨h17, hh17⟩ : ∃ q, q = nw h16 := ⟨_, rfl⟩
  have k17 : ∀ F L S, i_newarr 1 10 F L (.int 10 :: S) h16 = F L (.ref 28 :: S) h17 := fun F L S => by rw [hh17]; exact k_newarr s16.1 s16.2.1 (by decide)
  have s17 : Nu [(8, 15, 27), (8, 14, 26), (8, 13, 25), (8, 12, 24), (8, 11, 23), (8, 1, 13), (13, 9, 22), (13, 8, 21), (13, 7, 20), (13, 6, 19), (13, 5, 18), (13, 4, 17), (13, 3, 16), (13, 2, 15), (13, 1, 14), (8, 0, 9), (9, 3, 12), (9, 2, 11), (9, 1, 10)] 29 h h17 := by rw [hh17]; exact Nu.made z s16 (by omega) (by decide)
  obtain ⟨h18, hh18⟩ : ∃ q, q = sR h17 8 16 (some 28) := ⟨_, rfl⟩
  have k18 : ∀ F L S, i_putR 0 16 F L (.ref 28 :: .ref 8 :: S) h17 = F L S h18 := fun F L S => by rw [hh18]; exact k_putR s17.1 (by decide)
  have s18 : Nu [(8, 16, 28), (8, 15, 27), (8, 14, 26), (8, 13, 25), (8, 12, 24), (8, 11, 23), (8, 1, 13), (13, 9, 22), (13, 8, 21), (13, 7, 20), (13, 6, 19), (13, 5, 18), (13, 4, 17), (13, 3, 16), (13, 2, 15), (13, 1, 14), (8, 0, 9), (9, 3, 12), (9, 2, 11), (9, 1, 10)] 29 h h18 := by rw [hh18]; exact s17.set1 8 16 28
  refine ⟨h18, ?_, s18⟩
  rw [u_X0_init]
  simp only [e_X0_init_0, e_X0_init_51, r_aload_0, r_aload_1, r_aload_2, r_push, r_objInit, r_dup_r, r_callI_0, r_callI_1, r_callI_2, r_aft_n, r_return, cs_nil, cs_int, cs_ref, Nat.reduceAdd, Nat.reduceLeDiff, if_true, Nat.add_zero, k1, k2, k3, k4, k5, k6, k7, k8, k9, k10, k11, k12, k13, k14, k15, k16, k17, k18]
set_option maxHeartbeats 2000000 in
theorem mk_X7_30 {h : AH} (z : Zc 31 h) : ∃ h', mX7_init [.ref 30] h = some (.inl none, h') ∧ Nu [(30, 3, 33), (30, 2, 32), (30, 1, 31)] 34 h h' := by
  have s0 := Nu.refl z
  obtain ⟨h1, hh1⟩ : ∃ q, q = nw h := ⟨_, rfl⟩
  have k1 : ∀ F L S, i_newarr 1 12 F L (.int 12 :: S) h = F L (.ref 31 :: S) h1 := fun F L S => by rw [hh1]; exact k_newarr s0.1 s0.2.1 (by decide)
  have s1 : Nu [] 32 h h1 := by rw [hh1]; exact Nu.made z s0 (by omega) (by decide)
  obtain ⟨h2, hh2⟩ : ∃ q, q = sR h1 30 1 (some 31) := ⟨_, rfl⟩
  have k2 : ∀ F L S, i_putR 7 1 F L (.ref 31 :: .ref 30 :: S) h1 = F L S h2 := fun F L S => by rw [hh2]; exact k_putR s1.1 (by decide)
  have s2 : Nu [(30, 1, 31)] 32 h h2 := by rw [hh2]; exact s1.set1 30 1 31
  obtain ⟨h3, hh3⟩ : ∃ q, q = nw h2 := ⟨_, rfl⟩
  have k3 : ∀ F L S, i_newarr 1 12 F L (.int 12 :: S) h2 = F L (.ref 32 :: S) h3 := fun F L S => by rw [hh3]; exact k_newarr s2.1 s2.2.1 (by decide)
  have s3 : Nu [(30, 1, 31)] 33 h h3 := by rw [hh3]; exact Nu.made z s2 (by omega) (by decide)
  obtain ⟨h4, hh4⟩ : ∃ q, q = sR h3 30 2 (some 32) := ⟨_, rfl⟩
  have k4 : ∀ F L S, i_putR 7 2 F L (.ref 32 :: .ref 30 :: S) h3 = F L S h4 := fun F L S => by rw [hh4]; exact k_putR s3.1 (by decide)
  have s4 : Nu [(30, 2, 32), (30, 1, 31)] 33 h h4 := by rw [hh4]; exact s3.set1 30 2 32
  obtain ⟨h5, hh5⟩ : ∃ q, q = nw h4 := ⟨_, rfl⟩
  have k5 : ∀ F L S, i_newarr 1 12 F L (.int 12 :: S) h4 = F L (.ref 33 :: S) h5 := fun F L S => by rw [hh5]; exact k_newarr s4.1 s4.2.1 (by decide)
  have s5 : Nu [(30, 2, 32), (30, 1, 31)] 34 h h5 := by rw [hh5]; exact Nu.made z s4 (by omega) (by decide)
  obtain ⟨h6, hh6⟩ : ∃ q, q = sR h5 30 3 (some 33) := ⟨_, rfl⟩
  have k6 : ∀ F L S, i_putR 7 3 F L (.ref 33 :: .ref 30 :: S) h5 = F L S h6 := fun F L S => by rw [hh6]; exact k_putR s5.1 (by decide)
  have s6 : Nu [(30, 3, 33), (30, 2, 32), (30, 1, 31)] 34 h h6 := by rw [hh6]; exact s5.set1 30 3 33
  refine ⟨h6, ?_, s6⟩
  rw [u_X7_init]
  simp only [e_X7_init_0, r_aload_0, r_aload_1, r_aload_2, r_push, r_objInit, r_dup_r, r_callI_0, r_callI_1, r_callI_2, r_aft_n, r_return, cs_nil, cs_int, cs_ref, Nat.reduceAdd, Nat.reduceLeDiff, if_true, Nat.add_zero, k1, k2, k3, k4, k5, k6]
set_option maxHeartbeats 2000000 in
theorem mk_X3_34 {h : AH} (z : Zc 35 h) : ∃ h', mX3_init [.ref 34] h = some (.inl none, h') ∧ Nu [(34, 9, 43), (34, 8, 42), (34, 7, 41), (34, 6, 40), (34, 5, 39), (34, 4, 38), (34, 3, 37), (34, 2, 36), (34, 1, 35)] 44 h h' := by
  have s0 := Nu.refl z
  obtain ⟨h1, hh1⟩ : ∃ q, q = nw h := ⟨_, rfl⟩
  have k1 : ∀ F L S, i_newarr 1 5 F L (.int 5 :: S) h = F L (.ref 35 :: S) h1 := fun F L S => by rw [hh1]; exact k_newarr s0.1 s0.2.1 (by decide)
  have s1 : Nu [] 36 h h1 := by rw [hh1]; exact Nu.made z s0 (by omega) (by decide)
  obtain ⟨h2, hh2⟩ : ∃ q, q = sR h1 34 1 (some 35) := ⟨_, rfl⟩
  have k2 : ∀ F L S, i_putR 3 1 F L (.ref 35 :: .ref 34 :: S) h1 = F L S h2 := fun F L S => by rw [hh2]; exact k_putR s1.1 (by decide)
  have s2 : Nu [(34, 1, 35)] 36 h h2 := by rw [hh2]; exact s1.set1 34 1 35
  obtain ⟨h3, hh3⟩ : ∃ q, q = nw h2 := ⟨_, rfl⟩
  have k3 : ∀ F L S, i_newarr 1 5 F L (.int 5 :: S) h2 = F L (.ref 36 :: S) h3 := fun F L S => by rw [hh3]; exact k_newarr s2.1 s2.2.1 (by decide)
  have s3 : Nu [(34, 1, 35)] 37 h h3 := by rw [hh3]; exact Nu.made z s2 (by omega) (by decide)
  obtain ⟨h4, hh4⟩ : ∃ q, q = sR h3 34 2 (some 36) := ⟨_, rfl⟩
  have k4 : ∀ F L S, i_putR 3 2 F L (.ref 36 :: .ref 34 :: S) h3 = F L S h4 := fun F L S => by rw [hh4]; exact k_putR s3.1 (by decide)
  have s4 : Nu [(34, 2, 36), (34, 1, 35)] 37 h h4 := by rw [hh4]; exact s3.set1 34 2 36
  obtain ⟨h5, hh5⟩ : ∃ q, q = nw h4 := ⟨_, rfl⟩
  have k5 : ∀ F L S, i_newarr 1 5 F L (.int 5 :: S) h4 = F L (.ref 37 :: S) h5 := fun F L S => by rw [hh5]; exact k_newarr s4.1 s4.2.1 (by decide)
  have s5 : Nu [(34, 2, 36), (34, 1, 35)] 38 h h5 := by rw [hh5]; exact Nu.made z s4 (by omega) (by decide)
  obtain ⟨h6, hh6⟩ : ∃ q, q = sR h5 34 3 (some 37) := ⟨_, rfl⟩
  have k6 : ∀ F L S, i_putR 3 3 F L (.ref 37 :: .ref 34 :: S) h5 = F L S h6 := fun F L S => by rw [hh6]; exact k_putR s5.1 (by decide)
  have s6 : Nu [(34, 3, 37), (34, 2, 36), (34, 1, 35)] 38 h h6 := by rw [hh6]; exact s5.set1 34 3 37
  obtain ⟨h7, hh7⟩ : ∃ q, q = nw h6 := ⟨_, rfl⟩
  have k7 : ∀ F L S, i_newarr 1 5 F L (.int 5 :: S) h6 = F L (.ref 38 :: S) h7 := fun F L S => by rw [hh7]; exact k_newarr s6.1 s6.2.1 (by decide)
  have s7 : Nu [(34, 3, 37), (34, 2, 36), (34, 1, 35)] 39 h h7 := by rw [hh7]; exact Nu.made z s6 (by omega) (by decide)
  obtain ⟨h8, hh8⟩ : ∃ q, q = sR h7 34 4 (some 38) := ⟨_, rfl⟩
  have k8 : ∀ F L S, i_putR 3 4 F L (.ref 38 :: .ref 34 :: S) h7 = F L S h8 := fun F L S => by rw [hh8]; exact k_putR s7.1 (by decide)
  have s8 : Nu [(34, 4, 38), (34, 3, 37), (34, 2, 36), (34, 1, 35)] 39 h h8 := by rw [hh8]; exact s7.set1 34 4 38
  obtain ⟨h9, hh9⟩ : ∃ q, q = nw h8 := ⟨_, rfl⟩
  have k9 : ∀ F L S, i_newarr 1 5 F L (.int 5 :: S) h8 = F L (.ref 39 :: S) h9 := fun F L S => by rw [hh9]; exact k_newarr s8.1 s8.2.1 (by decide)
  have s9 : Nu [(34, 4, 38), (34, 3, 37), (34, 2, 36), (34, 1, 35)] 40 h h9 := by rw [hh9]; exact Nu.made z s8 (by omega) (by decide)
  obtain ⟨h10, hh10⟩ : ∃ q, q = sR h9 34 5 (some 39) := ⟨_, rfl⟩
  have k10 : ∀ F L S, i_putR 3 5 F L (.ref 39 :: .ref 34 :: S) h9 = F L S h10 := fun F L S => by rw [hh10]; exact k_putR s9.1 (by decide)
  have s10 : Nu [(34, 5, 39), (34, 4, 38), (34, 3, 37), (34, 2, 36), (34, 1, 35)] 40 h h10 := by rw [hh10]; exact s9.set1 34 5 39
  obtain ⟨h11, hh11⟩ : ∃ q, q = nw h10 := ⟨_, rfl⟩
  have k11 : ∀ F L S, i_newarr 1 15 F L (.int 15 :: S) h10 = F L (.ref 40 :: S) h11 := fun F L S => by rw [hh11]; exact k_newarr s10.1 s10.2.1 (by decide)
  have s11 : Nu [(34, 5, 39), (34, 4, 38), (34, 3, 37), (34, 2, 36), (34, 1, 35)] 41 h h11 := by rw [hh11]; exact Nu.made z s10 (by omega) (by decide)
  obtain ⟨h12, hh12⟩ : ∃ q, q = sR h11 34 6 (some 40) := ⟨_, rfl⟩
  have k12 : ∀ F L S, i_putR 3 6 F L (.ref 40 :: .ref 34 :: S) h11 = F L S h12 := fun F L S => by rw [hh12]; exact k_putR s11.1 (by decide)
  have s12 : Nu [(34, 6, 40), (34, 5, 39), (34, 4, 38), (34, 3, 37), (34, 2, 36), (34, 1, 35)] 41 h h12 := by rw [hh12]; exact s11.set1 34 6 40
  obtain ⟨h13, hh13⟩ : ∃ q, q = nw h12 := ⟨_, rfl⟩
  have k13 : ∀ F L S, i_newarr 1 50 F L (.int 50 :: S) h12 = F L (.ref 41 :: S) h13 := fun F L S => by rw [hh13]; exact k_newarr s12.1 s12.2.1 (by decide)
  have s13 : Nu [(34, 6, 40), (34, 5, 39), (34, 4, 38), (34, 3, 37), (34, 2, 36), (34, 1, 35)] 42 h h13 := by rw [hh13]; exact Nu.made z s12 (by omega) (by decide)
  obtain ⟨h14, hh14⟩ : ∃ q, q = sR h13 34 7 (some 41) := ⟨_, rfl⟩
  have k14 : ∀ F L S, i_putR 3 7 F L (.ref 41 :: .ref 34 :: S) h13 = F L S h14 := fun F L S => by rw [hh14]; exact k_putR s13.1 (by decide)
  have s14 : Nu [(34, 7, 41), (34, 6, 40), (34, 5, 39), (34, 4, 38), (34, 3, 37), (34, 2, 36), (34, 1, 35)] 42 h h14 := by rw [hh14]; exact s13.set1 34 7 41
  obtain ⟨h15, hh15⟩ : ∃ q, q = nw h14 := ⟨_, rfl⟩
  have k15 : ∀ F L S, i_newarr 1 50 F L (.int 50 :: S) h14 = F L (.ref 42 :: S) h15 := fun F L S => by rw [hh15]; exact k_newarr s14.1 s14.2.1 (by decide)
  have s15 : Nu [(34, 7, 41), (34, 6, 40), (34, 5, 39), (34, 4, 38), (34, 3, 37), (34, 2, 36), (34, 1, 35)] 43 h h15 := by rw [hh15]; exact Nu.made z s14 (by omega) (by decide)
  obtain ⟨h16, hh16⟩ : ∃ q, q = sR h15 34 8 (some 42) := ⟨_, rfl⟩
  have k16 : ∀ F L S, i_putR 3 8 F L (.ref 42 :: .ref 34 :: S) h15 = F L S h16 := fun F L S => by rw [hh16]; exact k_putR s15.1 (by decide)
  have s16 : Nu [(34, 8, 42), (34, 7, 41), (34, 6, 40), (34, 5, 39), (34, 4, 38), (34, 3, 37), (34, 2, 36), (34, 1, 35)] 43 h h16 := by rw [hh16]; exact s15.set1 34 8 42
  obtain ⟨h17, hh17⟩ : ∃ q, q = nw h16 := ⟨_, rfl⟩
  have k17 : ∀ F L S, i_newarr 1 5 F L (.int 5 :: S) h16 = F L (.ref 43 :: S) h17 := fun F L S => by rw [hh17]; exact k_newarr s16.1 s16.2.1 (by decide)
  have s17 : Nu [(34, 8, 42), (34, 7, 41), (34, 6, 40), (34, 5, 39), (34, 4, 38), (34, 3, 37), (34, 2, 36), (34, 1, 35)] 44 h h17 := by rw [hh17]; exact Nu.made z s16 (by omega) (by decide)
  obtain ⟨h18, hh18⟩ : ∃ q, q = sR h17 34 9 (some 43) := ⟨_, rfl⟩
  have k18 : ∀ F L S, i_putR 3 9 F L (.ref 43 :: .ref 34 :: S) h17 = F L S h18 := fun F L S => by rw [hh18]; exact k_putR s17.1 (by decide)
  have s18 : Nu [(34, 9, 43), (34, 8, 42), (34, 7, 41), (34, 6, 40), (34, 5, 39), (34, 4, 38), (34, 3, 37), (34, 2, 36), (34, 1, 35)] 44 h h18 := by rw [hh18]; exact s17.set1 34 9 43
  refine ⟨h18, ?_, s18⟩
  rw [u_X3_init]
  simp only [e_X3_init_0, e_X3_init_42, r_aload_0, r_aload_1, r_aload_2, r_push, r_objInit, r_dup_r, r_callI_0, r_callI_1, r_callI_2, r_aft_n, r_return, cs_nil, cs_int, cs_ref, Nat.reduceAdd, Nat.reduceLeDiff, if_true, Nat.add_zero, k1, k2, k3, k4, k5, k6, k7, k8, k9, k10, k11, k12, k13, k14, k15, k16, k17, k18]
set_option maxHeartbeats 2000000 in
theorem mk_X0_29 {h : AH} (z : Zc 30 h) : ∃ h', mX0_init [.ref 29] h = i_callV 0 0 mX0_clear i_return [some (.ref 29)] [.ref 29] h' ∧ Nu [(29, 16, 49), (29, 15, 48), (29, 14, 47), (29, 13, 46), (29, 12, 45), (29, 11, 44), (29, 1, 34), (34, 9, 43), (34, 8, 42), (34, 7, 41), (34, 6, 40), (34, 5, 39), (34, 4, 38), (34, 3, 37), (34, 2, 36), (34, 1, 35), (29, 0, 30), (30, 3, 33), (30, 2, 32), (30, 1, 31)] 50 h h' := by
  have s0 := Nu.refl z
  obtain ⟨h1, hh1⟩ : ∃ q, q = nw h := ⟨_, rfl⟩
  have k1 : ∀ F L S, i_new 7 F L S h = F L (.ref 30 :: S) h1 := fun F L S => by rw [hh1]; exact k_new s0.1 s0.2.1 (by decide)
  have s1 : Nu [] 31 h h1 := by rw [hh1]; exact Nu.made z s0 (by omega) (by decide)
  obtain ⟨h2, k2, t2⟩ := mk_X7_30 (s1.zc z (by omega) (by decide))
  have s2 : Nu [(30, 3, 33), (30, 2, 32), (30, 1, 31)] 34 h h2 := s1.trans t2
  obtain ⟨h3, hh3⟩ : ∃ q, q = sR h2 29 0 (some 30) := ⟨_, rfl⟩
  have k3 : ∀ F L S, i_putR 0 0 F L (.ref 30 :: .ref 29 :: S) h2 = F L S h3 := fun F L S => by rw [hh3]; exact k_putR s2.1 (by decide)
  have s3 : Nu [(29, 0, 30), (30, 3, 33), (30, 2, 32), (30, 1, 31)] 34 h h3 := by rw [hh3]; exact s2.set1 29 0 30
  obtain ⟨h4, hh4⟩ : ∃ q, q = nw h3 := ⟨_, rfl⟩
  have k4 : ∀ F L S, i_new 3 F L S h3 = F L (.ref 34 :: S) h4 := fun F L S => by rw [hh4]; exact k_new s3.1 s3.2.1 (by decide)
  have s4 : Nu [(29, 0, 30), (30, 3, 33), (30, 2, 32), (30, 1, 31)] 35 h h4 := by rw [hh4]; exact Nu.made z s3 (by omega) (by decide)
  obtain ⟨h5, k5, t5⟩ := mk_X3_34 (s4.zc z (by omega) (by decide))
  have s5 : Nu [(34, 9, 43), (34, 8, 42), (34, 7, 41), (34, 6, 40), (34, 5, 39), (34, 4, 38), (34, 3, 37), (34, 2, 36), (34, 1, 35), (29, 0, 30), (30, 3, 33), (30, 2, 32), (30, 1, 31)] 44 h h5 := s4.trans t5
  obtain ⟨h6, hh6⟩ : ∃ q, q = sR h5 29 1 (some 34) := ⟨_, rfl⟩
  have k6 : ∀ F L S, i_putR 0 1 F L (.ref 34 :: .ref 29 :: S) h5 = F L S h6 := fun F L S => by rw [hh6]; exact k_putR s5.1 (by decide)
  have s6 : Nu [(29, 1, 34), (34, 9, 43), (34, 8, 42), (34, 7, 41), (34, 6, 40), (34, 5, 39), (34, 4, 38), (34, 3, 37), (34, 2, 36), (34, 1, 35), (29, 0, 30), (30, 3, 33), (30, 2, 32), (30, 1, 31)] 44 h h6 := by rw [hh6]; exact s5.set1 29 1 34
  obtain ⟨h7, hh7⟩ : ∃ q, q = nw h6 := ⟨_, rfl⟩
  have k7 : ∀ F L S, i_newarr 1 33 F L (.int 33 :: S) h6 = F L (.ref 44 :: S) h7 := fun F L S => by rw [hh7]; exact k_newarr s6.1 s6.2.1 (by decide)
  have s7 : Nu [(29, 1, 34), (34, 9, 43), (34, 8, 42), (34, 7, 41), (34, 6, 40), (34, 5, 39), (34, 4, 38), (34, 3, 37), (34, 2, 36), (34, 1, 35), (29, 0, 30), (30, 3, 33), (30, 2, 32), (30, 1, 31)] 45 h h7 := by rw [hh7]; exact Nu.made z s6 (by omega) (by decide)
  obtain ⟨h8, hh8⟩ : ∃ q, q = sR h7 29 11 (some 44) := ⟨_, rfl⟩
  have k8 : ∀ F L S, i_putR 0 11 F L (.ref 44 :: .ref 29 :: S) h7 = F L S h8 := fun F L S => by rw [hh8]; exact k_putR s7.1 (by decide)
  have s8 : Nu [(29, 11, 44), (29, 1, 34), (34, 9, 43), (34, 8, 42), (34, 7, 41), (34, 6, 40), (34, 5, 39), (34, 4, 38), (34, 3, 37), (34, 2, 36), (34, 1, 35), (29, 0, 30), (30, 3, 33), (30, 2, 32), (30, 1, 31)] 45 h h8 := by rw [hh8]; exact s7.set1 29 11 44
  obtain ⟨h9, hh9⟩ : ∃ q, q = nw h8 := ⟨_, rfl⟩
  have k9 : ∀ F L S, i_newarr 1 33 F L (.int 33 :: S) h8 = F L (.ref 45 :: S) h9 := fun F L S => by rw [hh9]; exact k_newarr s8.1 s8.2.1 (by decide)
  have s9 : Nu [(29, 11, 44), (29, 1, 34), (34, 9, 43), (34, 8, 42), (34, 7, 41), (34, 6, 40), (34, 5, 39), (34, 4, 38), (34, 3, 37), (34, 2, 36), (34, 1, 35), (29, 0, 30), (30, 3, 33), (30, 2, 32), (30, 1, 31)] 46 h h9 := by rw [hh9]; exact Nu.made z s8 (by omega) (by decide)
  obtain ⟨h10, hh10⟩ : ∃ q, q = sR h9 29 12 (some 45) := ⟨_, rfl⟩
  have k10 : ∀ F L S, i_putR 0 12 F L (.ref 45 :: .ref 29 :: S) h9 = F L S h10 := fun F L S => by rw [hh10]; exact k_putR s9.1 (by decide)
  have s10 : Nu [(29, 12, 45), (29, 11, 44), (29, 1, 34), (34, 9, 43), (34, 8, 42), (34, 7, 41), (34, 6, 40), (34, 5, 39), (34, 4, 38), (34, 3, 37), (34, 2, 36), (34, 1, 35), (29, 0, 30), (30, 3, 33), (30, 2, 32), (30, 1, 31)] 46 h h10 := by rw [hh10]; exact s9.set1 29 12 45
  obtain ⟨h11, hh11⟩ : ∃ q, q = nw h10 := ⟨_, rfl⟩
  have k11 : ∀ F L S, i_newarr 1 144 F L (.int 144 :: S) h10 = F L (.ref 46 :: S) h11 := fun F L S => by rw [hh11]; exact k_newarr s10.1 s10.2.1 (by decide)
  have s11 : Nu [(29, 12, 45), (29, 11, 44), (29, 1, 34), (34, 9, 43), (34, 8, 42), (34, 7, 41), (34, 6, 40), (34, 5, 39), (34, 4, 38), (34, 3, 37), (34, 2, 36), (34, 1, 35), (29, 0, 30), (30, 3, 33), (30, 2, 32), (30, 1, 31)] 47 h h11 := by rw [hh11]; exact Nu.made z s10 (by omega) (by decide)
  obtain ⟨h12, hh12⟩ : ∃ q, q = sR h11 29 13 (some 46) := ⟨_, rfl⟩
  have k12 : ∀ F L S, i_putR 0 13 F L (.ref 46 :: .ref 29 :: S) h11 = F L S h12 := fun F L S => by rw [hh12]; exact k_putR s11.1 (by decide)
  have s12 : Nu [(29, 13, 46), (29, 12, 45), (29, 11, 44), (29, 1, 34), (34, 9, 43), (34, 8, 42), (34, 7, 41), (34, 6, 40), (34, 5, 39), (34, 4, 38), (34, 3, 37), (34, 2, 36), (34, 1, 35), (29, 0, 30), (30, 3, 33), (30, 2, 32), (30, 1, 31)] 47 h h12 := by rw [hh12]; exact s11.set1 29 13 46
  obtain ⟨h13, hh13⟩ : ∃ q, q = nw h12 := ⟨_, rfl⟩
  have k13 : ∀ F L S, i_newarr 1 6 F L (.int 6 :: S) h12 = F L (.ref 47 :: S) h13 := fun F L S => by rw [hh13]; exact k_newarr s12.1 s12.2.1 (by decide)
  have s13 : Nu [(29, 13, 46), (29, 12, 45), (29, 11, 44), (29, 1, 34), (34, 9, 43), (34, 8, 42), (34, 7, 41), (34, 6, 40), (34, 5, 39), (34, 4, 38), (34, 3, 37), (34, 2, 36), (34, 1, 35), (29, 0, 30), (30, 3, 33), (30, 2, 32), (30, 1, 31)] 48 h h13 := by rw [hh13]; exact Nu.made z s12 (by omega) (by decide)
  obtain ⟨h14, hh14⟩ : ∃ q, q = sR h13 29 14 (some 47) := ⟨_, rfl⟩
  have k14 : ∀ F L S, i_putR 0 14 F L (.ref 47 :: .ref 29 :: S) h13 = F L S h14 := fun F L S => by rw [hh14]; exact k_putR s13.1 (by decide)
  have s14 : Nu [(29, 14, 47), (29, 13, 46), (29, 12, 45), (29, 11, 44), (29, 1, 34), (34, 9, 43), (34, 8, 42), (34, 7, 41), (34, 6, 40), (34, 5, 39), (34, 4, 38), (34, 3, 37), (34, 2, 36), (34, 1, 35), (29, 0, 30), (30, 3, 33), (30, 2, 32), (30, 1, 31)] 48 h h14 := by rw [hh14]; exact s13.set1 29 14 47
  obtain ⟨h15, hh15⟩ : ∃ q, q = nw h14 := ⟨_, rfl⟩
  have k15 : ∀ F L S, i_newarr 1 10 F L (.int 10 :: S) h14 = F L (.ref 48 :: S) h15 := fun F L S => by rw [hh15]; exact k_newarr s14.1 s14.2.1 (by decide)
  have s15 : Nu [(29, 14, 47), (29, 13, 46), (29, 12, 45), (29, 11, 44), (29, 1, 34), (34, 9, 43), (34, 8, 42), (34, 7, 41), (34, 6, 40), (34, 5, 39), (34, 4, 38), (34, 3, 37), (34, 2, 36), (34, 1, 35), (29, 0, 30), (30, 3, 33), (30, 2, 32), (30, 1, 31)] 49 h h15 := by rw [hh15]; exact Nu.made z s14 (by omega) (by decide)
  obtain ⟨h16, hh16⟩ : ∃ q, q = sR h15 29 15 (some 48) := ⟨_, rfl⟩
  have k16 : ∀ F L S, i_putR 0 15 F L (.ref 48 :: .ref 29 :: S) h15 = F L S h16 := fun F L S => by rw [hh16]; exact k_putR s15.1 (by decide)
  have s16 : Nu [(29, 15, 48), (29, 14, 47), (29, 13, 46), (29, 12, 45), (29, 11, 44), (29, 1, 34), (34, 9, 43), (34, 8, 42), (34, 7, 41), (34, 6, 40), (34, 5, 39), (34, 4, 38), (34, 3, 37), (34, 2, 36), (34, 1, 35), (29, 0, 30), (30, 3, 33), (30, 2, 32), (30, 1, 31)] 49 h h16 := by rw [hh16]; exact s15.set1 29 15 48
  obtain ⟨h17, hh17⟩ : ∃ q, q = nw h16 := ⟨_, rfl⟩
  have k17 : ∀ F L S, i_newarr 1 10 F L (.int 10 :: S) h16 = F L (.ref 49 :: S) h17 := fun F L S => by rw [hh17]; exact k_newarr s16.1 s16.2.1 (by decide)
  have s17 : Nu [(29, 15, 48), (29, 14, 47), (29, 13, 46), (29, 12, 45), (29, 11, 44), (29, 1, 34), (34, 9, 43), (34, 8, 42), (34, 7, 41), (34, 6, 40), (34, 5, 39), (34, 4, 38), (34, 3, 37), (34, 2, 36), (34, 1, 35), (29, 0, 30), (30, 3, 33), (30, 2, 32), (30, 1, 31)] 50 h h17 := by rw [hh17]; exact Nu.made z s16 (by omega) (by decide)
  obtain ⟨h18, hh18⟩ : ∃ q, q = sR h17 29 16 (some 49) := ⟨_, rfl⟩
  have k18 : ∀ F L S, i_putR 0 16 F L (.ref 49 :: .ref 29 :: S) h17 = F L S h18 := fun F L S => by rw [hh18]; exact k_putR s17.1 (by decide)
  have s18 : Nu [(29, 16, 49), (29, 15, 48), (29, 14, 47), (29, 13, 46), (29, 12, 45), (29, 11, 44), (29, 1, 34), (34, 9, 43), (34, 8, 42), (34, 7, 41), (34, 6, 40), (34, 5, 39), (34, 4, 38), (34, 3, 37), (34, 2, 36), (34, 1, 35), (29, 0, 30), (30, 3, 33), (30, 2, 32), (30, 1, 31)] 50 h h18 := by rw [hh18]; exact s17.set1 29 16 49
  refine ⟨h18, ?_, s18⟩
  rw [u_X0_init]
  simp only [e_X0_init_0, e_X0_init_51, r_aload_0, r_aload_1, r_aload_2, r_push, r_objInit, r_dup_r, r_callI_0, r_callI_1, r_callI_2, r_aft_n, r_return, cs_nil, cs_int, cs_ref, Nat.reduceAdd, Nat.reduceLeDiff, if_true, Nat.add_zero, k1, k2, k3, k4, k5, k6, k7, k8, k9, k10, k11, k12, k13, k14, k15, k16, k17, k18]
set_option maxHeartbeats 2000000 in
theorem mk_X1_50_2_29 {h : AH} (z : Zc 51 h) : ∃ h', mX1_init [.ref 50, .ref 2, .ref 29] h = some (.inl none, h') ∧ Nu [(50, 3, 29), (50, 2, 2)] 51 h h' := by
  have s0 := Nu.refl z
  obtain ⟨h1, hh1⟩ : ∃ q, q = sR h 50 2 (some 2) := ⟨_, rfl⟩
  have k1 : ∀ F L S, i_putR 1 2 F L (.ref 2 :: .ref 50 :: S) h = F L S h1 := fun F L S => by rw [hh1]; exact k_putR s0.1 (by decide)
  have s1 : Nu [(50, 2, 2)] 51 h h1 := by rw [hh1]; exact s0.set1 50 2 2
  obtain ⟨h2, hh2⟩ : ∃ q, q = sR h1 50 3 (some 29) := ⟨_, rfl⟩
  have k2 : ∀ F L S, i_putR 1 3 F L (.ref 29 :: .ref 50 :: S) h1 = F L S h2 := fun F L S => by rw [hh2]; exact k_putR s1.1 (by decide)
  have s2 : Nu [(50, 3, 29), (50, 2, 2)] 51 h h2 := by rw [hh2]; exact s1.set1 50 3 29
  refine ⟨h2, ?_, s2⟩
  rw [u_X1_init]
  simp only [e_X1_init_0, r_aload_0, r_aload_1, r_aload_2, r_push, r_objInit, r_dup_r, r_callI_0, r_callI_1, r_callI_2, r_aft_n, r_return, cs_nil, cs_int, cs_ref, Nat.reduceAdd, Nat.reduceLeDiff, if_true, Nat.add_zero, k1, k2]
set_option maxHeartbeats 2000000 in
theorem mk_X2_51_8 {h : AH} (z : Zc 52 h) : ∃ h', mX2_init [.ref 51, .ref 8] h = some (.inl none, h') ∧ Nu [(51, 0, 8), (51, 4, 55), (51, 3, 54), (51, 2, 53), (51, 1, 52)] 56 h h' := by
  have s0 := Nu.refl z
  obtain ⟨h1, hh1⟩ : ∃ q, q = nw h := ⟨_, rfl⟩
  have k1 : ∀ F L S, i_newarr 1 1024 F L (.int 1024 :: S) h = F L (.ref 52 :: S) h1 := fun F L S => by rw [hh1]; exact k_newarr s0.1 s0.2.1 (by decide)
  have s1 : Nu [] 53 h h1 := by rw [hh1]; exact Nu.made z s0 (by omega) (by decide)
  obtain ⟨h2, hh2⟩ : ∃ q, q = sR h1 51 1 (some 52) := ⟨_, rfl⟩
  have k2 : ∀ F L S, i_putR 2 1 F L (.ref 52 :: .ref 51 :: S) h1 = F L S h2 := fun F L S => by rw [hh2]; exact k_putR s1.1 (by decide)
  have s2 : Nu [(51, 1, 52)] 53 h h2 := by rw [hh2]; exact s1.set1 51 1 52
  obtain ⟨h3, hh3⟩ : ∃ q, q = nw h2 := ⟨_, rfl⟩
  have k3 : ∀ F L S, i_newarr 1 18 F L (.int 18 :: S) h2 = F L (.ref 53 :: S) h3 := fun F L S => by rw [hh3]; exact k_newarr s2.1 s2.2.1 (by decide)
  have s3 : Nu [(51, 1, 52)] 54 h h3 := by rw [hh3]; exact Nu.made z s2 (by omega) (by decide)
  obtain ⟨h4, hh4⟩ : ∃ q, q = sR h3 51 2 (some 53) := ⟨_, rfl⟩
  have k4 : ∀ F L S, i_putR 2 2 F L (.ref 53 :: .ref 51 :: S) h3 = F L S h4 := fun F L S => by rw [hh4]; exact k_putR s3.1 (by decide)
  have s4 : Nu [(51, 2, 53), (51, 1, 52)] 54 h h4 := by rw [hh4]; exact s3.set1 51 2 53
  obtain ⟨h5, hh5⟩ : ∃ q, q = nw h4 := ⟨_, rfl⟩
  have k5 : ∀ F L S, i_newarr 1 10 F L (.int 10 :: S) h4 = F L (.ref 54 :: S) h5 := fun F L S => by rw [hh5]; exact k_newarr s4.1 s4.2.1 (by decide)
  have s5 : Nu [(51, 2, 53), (51, 1, 52)] 55 h h5 := by rw [hh5]; exact Nu.made z s4 (by omega) (by decide)
  obtain ⟨h6, hh6⟩ : ∃ q, q = sR h5 51 3 (some 54) := ⟨_, rfl⟩
  have k6 : ∀ F L S, i_putR 2 3 F L (.ref 54 :: .ref 51 :: S) h5 = F L S h6 := fun F L S => by rw [hh6]; exact k_putR s5.1 (by decide)
  have s6 : Nu [(51, 3, 54), (51, 2, 53), (51, 1, 52)] 55 h h6 := by rw [hh6]; exact s5.set1 51 3 54
  obtain ⟨h7, hh7⟩ : ∃ q, q = nw h6 := ⟨_, rfl⟩
  have k7 : ∀ F L S, i_newarr 1 6 F L (.int 6 :: S) h6 = F L (.ref 55 :: S) h7 := fun F L S => by rw [hh7]; exact k_newarr s6.1 s6.2.1 (by decide)
  have s7 : Nu [(51, 3, 54), (51, 2, 53), (51, 1, 52)] 56 h h7 := by rw [hh7]; exact Nu.made z s6 (by omega) (by decide)
  obtain ⟨h8, hh8⟩ : ∃ q, q = sR h7 51 4 (some 55) := ⟨_, rfl⟩
  have k8 : ∀ F L S, i_putR 2 4 F L (.ref 55 :: .ref 51 :: S) h7 = F L S h8 := fun F L S => by rw [hh8]; exact k_putR s7.1 (by decide)
  have s8 : Nu [(51, 4, 55), (51, 3, 54), (51, 2, 53), (51, 1, 52)] 56 h h8 := by rw [hh8]; exact s7.set1 51 4 55
  obtain ⟨h9, hh9⟩ : ∃ q, q = sR h8 51 0 (some 8) := ⟨_, rfl⟩
  have k9 : ∀ F L S, i_putR 2 0 F L (.ref 8 :: .ref 51 :: S) h8 = F L S h9 := fun F L S => by rw [hh9]; exact k_putR s8.1 (by decide)
  have s9 : Nu [(51, 0, 8), (51, 4, 55), (51, 3, 54), (51, 2, 53), (51, 1, 52)] 56 h h9 := by rw [hh9]; exact s8.set1 51 0 8
  refine ⟨h9, ?_, s9⟩
  rw [u_X2_init]
  simp only [e_X2_init_0, r_aload_0, r_aload_1, r_aload_2, r_push, r_objInit, r_dup_r, r_callI_0, r_callI_1, r_callI_2, r_aft_n, r_return, cs_nil, cs_int, cs_ref, Nat.reduceAdd, Nat.reduceLeDiff, if_true, Nat.add_zero, k1, k2, k3, k4, k5, k6, k7, k8, k9]
set_option maxHeartbeats 2000000 in
theorem mk_X5_57 {h : AH} (z : Zc 58 h) : ∃ h', mX5_init [.ref 57] h = some (.inl none, h') ∧ Nu [(57, 9, 62), (57, 8, 61), (57, 2, 60), (57, 1, 59), (57, 0, 58)] 63 h h' := by
  have s0 := Nu.refl z
  obtain ⟨h1, hh1⟩ : ∃ q, q = nw h := ⟨_, rfl⟩
  have k1 : ∀ F L S, i_newarr 1 48 F L (.int 48 :: S) h = F L (.ref 58 :: S) h1 := fun F L S => by rw [hh1]; exact k_newarr s0.1 s0.2.1 (by decide)
  have s1 : Nu [] 59 h h1 := by rw [hh1]; exact Nu.made z s0 (by omega) (by decide)
  obtain ⟨h2, hh2⟩ : ∃ q, q = sR h1 57 0 (some 58) := ⟨_, rfl⟩
  have k2 : ∀ F L S, i_putR 5 0 F L (.ref 58 :: .ref 57 :: S) h1 = F L S h2 := fun F L S => by rw [hh2]; exact k_putR s1.1 (by decide)
  have s2 : Nu [(57, 0, 58)] 59 h h2 := by rw [hh2]; exact s1.set1 57 0 58
  obtain ⟨h3, hh3⟩ : ∃ q, q = nw h2 := ⟨_, rfl⟩
  have k3 : ∀ F L S, i_newarr 1 48 F L (.int 48 :: S) h2 = F L (.ref 59 :: S) h3 := fun F L S => by rw [hh3]; exact k_newarr s2.1 s2.2.1 (by decide)
  have s3 : Nu [(57, 0, 58)] 60 h h3 := by rw [hh3]; exact Nu.made z s2 (by omega) (by decide)
  obtain ⟨h4, hh4⟩ : ∃ q, q = sR h3 57 1 (some 59) := ⟨_, rfl⟩
  have k4 : ∀ F L S, i_putR 5 1 F L (.ref 59 :: .ref 57 :: S) h3 = F L S h4 := fun F L S => by rw [hh4]; exact k_putR s3.1 (by decide)
  have s4 : Nu [(57, 1, 59), (57, 0, 58)] 60 h h4 := by rw [hh4]; exact s3.set1 57 1 59
  obtain ⟨h5, hh5⟩ : ∃ q, q = nw h4 := ⟨_, rfl⟩
  have k5 : ∀ F L S, i_newarr 1 48 F L (.int 48 :: S) h4 = F L (.ref 60 :: S) h5 := fun F L S => by rw [hh5]; exact k_newarr s4.1 s4.2.1 (by decide)
  have s5 : Nu [(57, 1, 59), (57, 0, 58)] 61 h h5 := by rw [hh5]; exact Nu.made z s4 (by omega) (by decide)
  obtain ⟨h6, hh6⟩ : ∃ q, q = sR h5 57 2 (some 60) := ⟨_, rfl⟩
  have k6 : ∀ F L S, i_putR 5 2 F L (.ref 60 :: .ref 57 :: S) h5 = F L S h6 := fun F L S => by rw [hh6]; exact k_putR s5.1 (by decide)
  have s6 : Nu [(57, 2, 60), (57, 1, 59), (57, 0, 58)] 61 h h6 := by rw [hh6]; exact s5.set1 57 2 60
  obtain ⟨h7, hh7⟩ : ∃ q, q = nw h6 := ⟨_, rfl⟩
  have k7 : ∀ F L S, i_newarr 1 48 F L (.int 48 :: S) h6 = F L (.ref 61 :: S) h7 := fun F L S => by rw [hh7]; exact k_newarr s6.1 s6.2.1 (by decide)
  have s7 : Nu [(57, 2, 60), (57, 1, 59), (57, 0, 58)] 62 h h7 := by rw [hh7]; exact Nu.made z s6 (by omega) (by decide)
  obtain ⟨h8, hh8⟩ : ∃ q, q = sR h7 57 8 (some 61) := ⟨_, rfl⟩
  have k8 : ∀ F L S, i_putR 5 8 F L (.ref 61 :: .ref 57 :: S) h7 = F L S h8 := fun F L S => by rw [hh8]; exact k_putR s7.1 (by decide)
  have s8 : Nu [(57, 8, 61), (57, 2, 60), (57, 1, 59), (57, 0, 58)] 62 h h8 := by rw [hh8]; exact s7.set1 57 8 61
  obtain ⟨h9, hh9⟩ : ∃ q, q = nw h8 := ⟨_, rfl⟩
  have k9 : ∀ F L S, i_newarr 1 48 F L (.int 48 :: S) h8 = F L (.ref 62 :: S) h9 := fun F L S => by rw [hh9]; exact k_newarr s8.1 s8.2.1 (by decide)
  have s9 : Nu [(57, 8, 61), (57, 2, 60), (57, 1, 59), (57, 0, 58)] 63 h h9 := by rw [hh9]; exact Nu.made z s8 (by omega) (by decide)
  obtain ⟨h10, hh10⟩ : ∃ q, q = sR h9 57 9 (some 62) := ⟨_, rfl⟩
  have k10 : ∀ F L S, i_putR 5 9 F L (.ref 62 :: .ref 57 :: S) h9 = F L S h10 := fun F L S => by rw [hh10]; exact k_putR s9.1 (by decide)
  have s10 : Nu [(57, 9, 62), (57, 8, 61), (57, 2, 60), (57, 1, 59), (57, 0, 58)] 63 h h10 := by rw [hh10]; exact s9.set1 57 9 62
  refine ⟨h10, ?_, s10⟩
  rw [u_X5_init]
  simp only [e_X5_init_0, r_aload_0, r_aload_1, r_aload_2, r_push, r_objInit, r_dup_r, r_callI_0, r_callI_1, r_callI_2, r_aft_n, r_return, cs_nil, cs_int, cs_ref, Nat.reduceAdd, Nat.reduceLeDiff, if_true, Nat.add_zero, k1, k2, k3, k4, k5, k6, k7, k8, k9, k10]
set_option maxHeartbeats 2000000 in
theorem mk_X8_56_8_51 {h : AH} (z : Zc 57 h) : ∃ h', mX8_init [.ref 56, .ref 8, .ref 51] h = some (.inl none, h') ∧ Nu [(56, 9, 51), (56, 12, 8), (56, 11, 71), (56, 10, 70), (56, 7, 69), (56, 6, 68), (56, 5, 67), (56, 4, 66), (56, 3, 65), (56, 2, 64), (56, 1, 63), (56, 0, 57), (57, 9, 62), (57, 8, 61), (57, 2, 60), (57, 1, 59), (57, 0, 58)] 72 h h' := by
  have s0 := Nu.refl z
  obtain ⟨h1, hh1⟩ : ∃ q, q = nw h := ⟨_, rfl⟩
  have k1 : ∀ F L S, i_new 5 F L S h = F L (.ref 57 :: S) h1 := fun F L S => by rw [hh1]; exact k_new s0.1 s0.2.1 (by decide)
  have s1 : Nu [] 58 h h1 := by rw [hh1]; exact Nu.made z s0 (by omega) (by decide)
  obtain ⟨h2, k2, t2⟩ := mk_X5_57 (s1.zc z (by omega) (by decide))
  have s2 : Nu [(57, 9, 62), (57, 8, 61), (57, 2, 60), (57, 1, 59), (57, 0, 58)] 63 h h2 := s1.trans t2
  obtain ⟨h3, hh3⟩ : ∃ q, q = sR h2 56 0 (some 57) := ⟨_, rfl⟩
  have k3 : ∀ F L S, i_putR 8 0 F L (.ref 57 :: .ref 56 :: S) h2 = F L S h3 := fun F L S => by rw [hh3]; exact k_putR s2.1 (by decide)
  have s3 : Nu [(56, 0, 57), (57, 9, 62), (57, 8, 61), (57, 2, 60), (57, 1, 59), (57, 0, 58)] 63 h h3 := by rw [hh3]; exact s2.set1 56 0 57
  obtain ⟨h4, hh4⟩ : ∃ q, q = nw h3 := ⟨_, rfl⟩
  have k4 : ∀ F L S, i_newarr 1 5 F L (.int 5 :: S) h3 = F L (.ref 63 :: S) h4 := fun F L S => by rw [hh4]; exact k_newarr s3.1 s3.2.1 (by decide)
  have s4 : Nu [(56, 0, 57), (57, 9, 62), (57, 8, 61), (57, 2, 60), (57, 1, 59), (57, 0, 58)] 64 h h4 := by rw [hh4]; exact Nu.made z s3 (by omega) (by decide)
  obtain ⟨h5, hh5⟩ : ∃ q, q = sR h4 56 1 (some 63) := ⟨_, rfl⟩
  have k5 : ∀ F L S, i_putR 8 1 F L (.ref 63 :: .ref 56 :: S) h4 = F L S h5 := fun F L S => by rw [hh5]; exact k_putR s4.1 (by decide)
  have s5 : Nu [(56, 1, 63), (56, 0, 57), (57, 9, 62), (57, 8, 61), (57, 2, 60), (57, 1, 59), (57, 0, 58)] 64 h h5 := by rw [hh5]; exact s4.set1 56 1 63
  obtain ⟨h6, hh6⟩ : ∃ q, q = nw h5 := ⟨_, rfl⟩
  have k6 : ∀ F L S, i_newarr 1 5 F L (.int 5 :: S) h5 = F L (.ref 64 :: S) h6 := fun F L S => by rw [hh6]; exact k_newarr s5.1 s5.2.1 (by decide)
  have s6 : Nu [(56, 1, 63), (56, 0, 57), (57, 9, 62), (57, 8, 61), (57, 2, 60), (57, 1, 59), (57, 0, 58)] 65 h h6 := by rw [hh6]; exact Nu.made z s5 (by omega) (by decide)
  obtain ⟨h7, hh7⟩ : ∃ q, q = sR h6 56 2 (some 64) := ⟨_, rfl⟩
  have k7 : ∀ F L S, i_putR 8 2 F L (.ref 64 :: .ref 56 :: S) h6 = F L S h7 := fun F L S => by rw [hh7]; exact k_putR s6.1 (by decide)
  have s7 : Nu [(56, 2, 64), (56, 1, 63), (56, 0, 57), (57, 9, 62), (57, 8, 61), (57, 2, 60), (57, 1, 59), (57, 0, 58)] 65 h h7 := by rw [hh7]; exact s6.set1 56 2 64
  obtain ⟨h8, hh8⟩ : ∃ q, q = nw h7 := ⟨_, rfl⟩
  have k8 : ∀ F L S, i_newarr 1 5 F L (.int 5 :: S) h7 = F L (.ref 65 :: S) h8 := fun F L S => by rw [hh8]; exact k_newarr s7.1 s7.2.1 (by decide)
  have s8 : Nu [(56, 2, 64), (56, 1, 63), (56, 0, 57), (57, 9, 62), (57, 8, 61), (57, 2, 60), (57, 1, 59), (57, 0, 58)] 66 h h8 := by rw [hh8]; exact Nu.made z s7 (by omega) (by decide)
  obtain ⟨h9, hh9⟩ : ∃ q, q = sR h8 56 3 (some 65) := ⟨_, rfl⟩
  have k9 : ∀ F L S, i_putR 8 3 F L (.ref 65 :: .ref 56 :: S) h8 = F L S h9 := fun F L S => by rw [hh9]; exact k_putR s8.1 (by decide)
  have s9 : Nu [(56, 3, 65), (56, 2, 64), (56, 1, 63), (56, 0, 57), (57, 9, 62), (57, 8, 61), (57, 2, 60), (57, 1, 59), (57, 0, 58)] 66 h h9 := by rw [hh9]; exact s8.set1 56 3 65
  obtain ⟨h10, hh10⟩ : ∃ q, q = nw h9 := ⟨_, rfl⟩
  have k10 : ∀ F L S, i_newarr 1 5 F L (.int 5 :: S) h9 = F L (.ref 66 :: S) h10 := fun F L S => by rw [hh10]; exact k_newarr s9.1 s9.2.1 (by decide)
  have s10 : Nu [(56, 3, 65), (56, 2, 64), (56, 1, 63), (56, 0, 57), (57, 9, 62), (57, 8, 61), (57, 2, 60), (57, 1, 59), (57, 0, 58)] 67 h h10 := by rw [hh10]; exact Nu.made z s9 (by omega) (by decide)
  obtain ⟨h11, hh11⟩ : ∃ q, q = sR h10 56 4 (some 66) := ⟨_, rfl⟩
  have k11 : ∀ F L S, i_putR 8 4 F L (.ref 66 :: .ref 56 :: S) h10 = F L S h11 := fun F L S => by rw [hh11]; exact k_putR s10.1 (by decide)
  have s11 : Nu [(56, 4, 66), (56, 3, 65), (56, 2, 64), (56, 1, 63), (56, 0, 57), (57, 9, 62), (57, 8, 61), (57, 2, 60), (57, 1, 59), (57, 0, 58)] 67 h h11 := by rw [hh11]; exact s10.set1 56 4 66
  obtain ⟨h12, hh12⟩ : ∃ q, q = nw h11 := ⟨_, rfl⟩
  have k12 : ∀ F L S, i_newarr 1 5 F L (.int 5 :: S) h11 = F L (.ref 67 :: S) h12 := fun F L S => by rw [hh12]; exact k_newarr s11.1 s11.2.1 (by decide)
  have s12 : Nu [(56, 4, 66), (56, 3, 65), (56, 2, 64), (56, 1, 63), (56, 0, 57), (57, 9, 62), (57, 8, 61), (57, 2, 60), (57, 1, 59), (57, 0, 58)] 68 h h12 := by rw [hh12]; exact Nu.made z s11 (by omega) (by decide)
  obtain ⟨h13, hh13⟩ : ∃ q, q = sR h12 56 5 (some 67) := ⟨_, rfl⟩
  have k13 : ∀ F L S, i_putR 8 5 F L (.ref 67 :: .ref 56 :: S) h12 = F L S h13 := fun F L S => by rw [hh13]; exact k_putR s12.1 (by decide)
  have s13 : Nu [(56, 5, 67), (56, 4, 66), (56, 3, 65), (56, 2, 64), (56, 1, 63), (56, 0, 57), (57, 9, 62), (57, 8, 61), (57, 2, 60), (57, 1, 59), (57, 0, 58)] 68 h h13 := by rw [hh13]; exact s12.set1 56 5 67
  obtain ⟨h14, hh14⟩ : ∃ q, q = nw h13 := ⟨_, rfl⟩
  have k14 : ∀ F L S, i_newarr 1 5 F L (.int 5 :: S) h13 = F L (.ref 68 :: S) h14 := fun F L S => by rw [hh14]; exact k_newarr s13.1 s13.2.1 (by decide)
  have s14 : Nu [(56, 5, 67), (56, 4, 66), (56, 3, 65), (56, 2, 64), (56, 1, 63), (56, 0, 57), (57, 9, 62), (57, 8, 61), (57, 2, 60), (57, 1, 59), (57, 0, 58)] 69 h h14 := by rw [hh14]; exact Nu.made z s13 (by omega) (by decide)
  obtain ⟨h15, hh15⟩ : ∃ q, q = sR h14 56 6 (some 68) := ⟨_, rfl⟩
  have k15 : ∀ F L S, i_putR 8 6 F L (.ref 68 :: .ref 56 :: S) h14 = F L S h15 := fun F L S => by rw [hh15]; exact k_putR s14.1 (by decide)
  have s15 : Nu [(56, 6, 68), (56, 5, 67), (56, 4, 66), (56, 3, 65), (56, 2, 64), (56, 1, 63), (56, 0, 57), (57, 9, 62), (57, 8, 61), (57, 2, 60), (57, 1, 59), (57, 0, 58)] 69 h h15 := by rw [hh15]; exact s14.set1 56 6 68
  obtain ⟨h16, hh16⟩ : ∃ q, q = nw h15 := ⟨_, rfl⟩
  have k16 : ∀ F L S, i_newarr 1 48 F L (.int 48 :: S) h15 = F L (.ref 69 :: S) h16 := fun F L S => by rw [hh16]; exact k_newarr s15.1 s15.2.1 (by decide)
  have s16 : Nu [(56, 6, 68), (56, 5, 67), (56, 4, 66), (56, 3, 65), (56, 2, 64), (56, 1, 63), (56, 0, 57), (57, 9, 62), (57, 8, 61), (57, 2, 60), (57, 1, 59), (57, 0, 58)] 70 h h16 := by rw [hh16]; exact Nu.made z s15 (by omega) (by decide)
  obtain ⟨h17, hh17⟩ : ∃ q, q = sR h16 56 7 (some 69) := ⟨_, rfl⟩
  have k17 : ∀ F L S, i_putR 8 7 F L (.ref 69 :: .ref 56 :: S) h16 = F L S h17 := fun F L S => by rw [hh17]; exact k_putR s16.1 (by decide)
  have s17 : Nu [(56, 7, 69), (56, 6, 68), (56, 5, 67), (56, 4, 66), (56, 3, 65), (56, 2, 64), (56, 1, 63), (56, 0, 57), (57, 9, 62), (57, 8, 61), (57, 2, 60), (57, 1, 59), (57, 0, 58)] 70 h h17 := by rw [hh17]; exact s16.set1 56 7 69
  obtain ⟨h18, hh18⟩ : ∃ q, q = nw h17 := ⟨_, rfl⟩
  have k18 : ∀ F L S, i_newarr 1 53 F L (.int 53 :: S) h17 = F L (.ref 70 :: S) h18 := fun F L S => by rw [hh18]; exact k_newarr s17.1 s17.2.1 (by decide)
  have s18 : Nu [(56, 7, 69), (56, 6, 68), (56, 5, 67), (56, 4, 66), (56, 3, 65), (56, 2, 64), (56, 1, 63), (56, 0, 57), (57, 9, 62), (57, 8, 61), (57, 2, 60), (57, 1, 59), (57, 0, 58)] 71 h h18 := by rw [hh18]; exact Nu.made z s17 (by omega) (by decide)
  obtain ⟨h19, hh19⟩ : ∃ q, q = sR h18 56 10 (some 70) := ⟨_, rfl⟩
  have k19 : ∀ F L S, i_putR 8 10 F L (.ref 70 :: .ref 56 :: S) h18 = F L S h19 := fun F L S => by rw [hh19]; exact k_putR s18.1 (by decide)
  have s19 : Nu [(56, 10, 70), (56, 7, 69), (56, 6, 68), (56, 5, 67), (56, 4, 66), (56, 3, 65), (56, 2, 64), (56, 1, 63), (56, 0, 57), (57, 9, 62), (57, 8, 61), (57, 2, 60), (57, 1, 59), (57, 0, 58)] 71 h h19 := by rw [hh19]; exact s18.set1 56 10 70
  obtain ⟨h20, hh20⟩ : ∃ q, q = nw h19 := ⟨_, rfl⟩
  have k20 : ∀ F L S, i_newarr 1 48 F L (.int 48 :: S) h19 = F L (.ref 71 :: S) h20 := fun F L S => by rw [hh20]; exact k_newarr s19.1 s19.2.1 (by decide)
  have s20 : Nu [(56, 10, 70), (56, 7, 69), (56, 6, 68), (56, 5, 67), (56, 4, 66), (56, 3, 65), (56, 2, 64), (56, 1, 63), (56, 0, 57), (57, 9, 62), (57, 8, 61), (57, 2, 60), (57, 1, 59), (57, 0, 58)] 72 h h20 := by rw [hh20]; exact Nu.made z s19 (by omega) (by decide)
  obtain ⟨h21, hh21⟩ : ∃ q, q = sR h20 56 11 (some 71) := ⟨_, rfl⟩
  have k21 : ∀ F L S, i_putR 8 11 F L (.ref 71 :: .ref 56 :: S) h20 = F L S h21 := fun F L S => by rw [hh21]; exact k_putR s20.1 (by decide)
  have s21 : Nu [(56, 11, 71), (56, 10, 70), (56, 7, 69), (56, 6, 68), (56, 5, 67), (56, 4, 66), (56, 3, 65), (56, 2, 64), (56, 1, 63), (56, 0, 57), (57, 9, 62), (57, 8, 61), (57, 2, 60), (57, 1, 59), (57, 0, 58)] 72 h h21 := by rw [hh21]; exact s20.set1 56 11 71
  obtain ⟨h22, hh22⟩ : ∃ q, q = sR h21 56 12 (some 8) := ⟨_, rfl⟩
  have k22 : ∀ F L S, i_putR 8 12 F L (.ref 8 :: .ref 56 :: S) h21 = F L S h22 := fun F L S => by rw [hh22]; exact k_putR s21.1 (by decide)
  have s22 : Nu [(56, 12, 8), (56, 11, 71), (56, 10, 70), (56, 7, 69), (56, 6, 68), (56, 5, 67), (56, 4, 66), (56, 3, 65), (56, 2, 64), (56, 1, 63), (56, 0, 57), (57, 9, 62), (57, 8, 61), (57, 2, 60), (57, 1, 59), (57, 0, 58)] 72 h h22 := by rw [hh22]; exact s21.set1 56 12 8
  obtain ⟨h23, hh23⟩ : ∃ q, q = sR h22 56 9 (some 51) := ⟨_, rfl⟩
  have k23 : ∀ F L S, i_putR 8 9 F L (.ref 51 :: .ref 56 :: S) h22 = F L S h23 := fun F L S => by rw [hh23]; exact k_putR s22.1 (by decide)
  have s23 : Nu [(56, 9, 51), (56, 12, 8), (56, 11, 71), (56, 10, 70), (56, 7, 69), (56, 6, 68), (56, 5, 67), (56, 4, 66), (56, 3, 65), (56, 2, 64), (56, 1, 63), (56, 0, 57), (57, 9, 62), (57, 8, 61), (57, 2, 60), (57, 1, 59), (57, 0, 58)] 72 h h23 := by rw [hh23]; exact s22.set1 56 9 51
  refine ⟨h23, ?_, s23⟩
  rw [u_X8_init]
  simp only [e_X8_init_0, e_X8_init_44, e_X8_init_88, r_aload_0, r_aload_1, r_aload_2, r_push, r_objInit, r_dup_r, r_callI_0, r_callI_1, r_callI_2, r_aft_n, r_return, cs_nil, cs_int, cs_ref, Nat.reduceAdd, Nat.reduceLeDiff, if_true, Nat.add_zero, k1, k2, k3, k4, k5, k6, k7, k8, k9, k10, k11, k12, k13, k14, k15, k16, k17, k18, k19, k20, k21, k22, k23]
set_option maxHeartbeats 2000000 in
theorem mk_X5_73 {h : AH} (z : Zc 74 h) : ∃ h', mX5_init [.ref 73] h = some (.inl none, h') ∧ Nu [(73, 9, 78), (73, 8, 77), (73, 2, 76), (73, 1, 75), (73, 0, 74)] 79 h h' := by
  have s0 := Nu.refl z
  obtain ⟨h1, hh1⟩ : ∃ q, q = nw h := ⟨_, rfl⟩
  have k1 : ∀ F L S, i_newarr 1 48 F L (.int 48 :: S) h = F L (.ref 74 :: S) h1 := fun F L S => by rw [hh1]; exact k_newarr s0.1 s0.2.1 (by decide)
  have s1 : Nu [] 75 h h1 := by rw [hh1]; exact Nu.made z s0 (by omega) (by decide)
  obtain ⟨h2, hh2⟩ : ∃ q, q = sR h1 73 0 (some 74) := ⟨_, rfl⟩
  have k2 : ∀ F L S, i_putR 5 0 F L (.ref 74 :: .ref 73 :: S) h1 = F L S h2 := fun F L S => by rw [hh2]; exact k_putR s1.1 (by decide)
  have s2 : Nu [(73, 0, 74)] 75 h h2 := by rw [hh2]; exact s1.set1 73 0 74
  obtain ⟨h3, hh3⟩ : ∃ q, q = nw h2 := ⟨_, rfl⟩
  have k3 : ∀ F L S, i_newarr 1 48 F L (.int 48 :: S) h2 = F L (.ref 75 :: S) h3 := fun F L S => by rw [hh3]; exact k_newarr s2.1 s2.2.1 (by decide)
  have s3 : Nu [(73, 0, 74)] 76 h h3 := by rw [hh3]; exact Nu.made z s2 (by omega) (by decide)
  obtain ⟨h4, hh4⟩ : ∃ q, q = sR h3 73 1 (some 75) := ⟨_, rfl⟩
  have k4 : ∀ F L S, i_putR 5 1 F L (.ref 75 :: .ref 73 :: S) h3 = F L S h4 := fun F L S => by rw [hh4]; exact k_putR s3.1 (by decide)
  have s4 : Nu [(73, 1, 75), (73, 0, 74)] 76 h h4 := by rw [hh4]; exact s3.set1 73 1 75
  obtain ⟨h5, hh5⟩ : ∃ q, q = nw h4 := ⟨_, rfl⟩
  have k5 : ∀ F L S, i_newarr 1 48 F L (.int 48 :: S) h4 = F L (.ref 76 :: S) h5 := fun F L S => by rw [hh5]; exact k_newarr s4.1 s4.2.1 (by decide)
  have s5 : Nu [(73, 1, 75), (73, 0, 74)] 77 h h5 := by rw [hh5]; exact Nu.made z s4 (by omega) (by decide)
  obtain ⟨h6, hh6⟩ : ∃ q, q = sR h5 73 2 (some 76) := ⟨_, rfl⟩
  have k6 : ∀ F L S, i_putR 5 2 F L (.ref 76 :: .ref 73 :: S) h5 = F L S h6 := fun F L S => by rw [hh6]; exact k_putR s5.1 (by decide)
  have s6 : Nu [(73, 2, 76), (73, 1, 75), (73, 0, 74)] 77 h h6 := by rw [hh6]; exact s5.set1 73 2 76
  obtain ⟨h7, hh7⟩ : ∃ q, q = nw h6 := ⟨_, rfl⟩
  have k7 : ∀ F L S, i_newarr 1 48 F L (.int 48 :: S) h6 = F L (.ref 77 :: S) h7 := fun F L S => by rw [hh7]; exact k_newarr s6.1 s6.2.1 (by decide)
  have s7 : Nu [(73, 2, 76), (73, 1, 75), (73, 0, 74)] 78 h h7 := by rw [hh7]; exact Nu.made z s6 (by omega) (by decide)
  obtain ⟨h8, hh8⟩ : ∃ q, q = sR h7 73 8 (some 77) := ⟨_, rfl⟩
  have k8 : ∀ F L S, i_putR 5 8 F L (.ref 77 :: .ref 73 :: S) h7 = F L S h8 := fun F L S => by rw [hh8]; exact k_putR s7.1 (by decide)
  have s8 : Nu [(73, 8, 77), (73, 2, 76), (73, 1, 75), (73, 0, 74)] 78 h h8 := by rw [hh8]; exact s7.set1 73 8 77
  obtain ⟨h9, hh9⟩ : ∃ q, q = nw h8 := ⟨_, rfl⟩
  have k9 : ∀ F L S, i_newarr 1 48 F L (.int 48 :: S) h8 = F L (.ref 78 :: S) h9 := fun F L S => by rw [hh9]; exact k_newarr s8.1 s8.2.1 (by decide)
  have s9 : Nu [(73, 8, 77), (73, 2, 76), (73, 1, 75), (73, 0, 74)] 79 h h9 := by rw [hh9]; exact Nu.made z s8 (by omega) (by decide)
  obtain ⟨h10, hh10⟩ : ∃ q, q = sR h9 73 9 (some 78) := ⟨_, rfl⟩
  have k10 : ∀ F L S, i_putR 5 9 F L (.ref 78 :: .ref 73 :: S) h9 = F L S h10 := fun F L S => by rw [hh10]; exact k_putR s9.1 (by decide)
  have s10 : Nu [(73, 9, 78), (73, 8, 77), (73, 2, 76), (73, 1, 75), (73, 0, 74)] 79 h h10 := by rw [hh10]; exact s9.set1 73 9 78
  refine ⟨h10, ?_, s10⟩
  rw [u_X5_init]
  simp only [e_X5_init_0, r_aload_0, r_aload_1, r_aload_2, r_push, r_objInit, r_dup_r, r_callI_0, r_callI_1, r_callI_2, r_aft_n, r_return, cs_nil, cs_int, cs_ref, Nat.reduceAdd, Nat.reduceLeDiff, if_true, Nat.add_zero, k1, k2, k3, k4, k5, k6, k7, k8, k9, k10]
set_option maxHeartbeats 2000000 in
theorem mk_X8_72_8_51 {h : AH} (z : Zc 73 h) : ∃ h', mX8_init [.ref 72, .ref 8, .ref 51] h = some (.inl none, h') ∧ Nu [(72, 9, 51), (72, 12, 8), (72, 11, 87), (72, 10, 86), (72, 7, 85), (72, 6, 84), (72, 5, 83), (72, 4, 82), (72, 3, 81), (72, 2, 80), (72, 1, 79), (72, 0, 73), (73, 9, 78), (73, 8, 77), (73, 2, 76), (73, 1, 75), (73, 0, 74)] 88 h h' := by
  have s0 := Nu.refl z
  obtain ⟨h1, hh1⟩ : ∃ q, q = nw h := ⟨_, rfl⟩
  have k1 : ∀ F L S, i_new 5 F L S h = F L (.ref 73 :: S) h1 := fun F L S => by rw [hh1]; exact k_new s0.1 s0.2.1 (by decide)
  have s1 : Nu [] 74 h h1 := by rw [hh1]; exact Nu.made z s0 (by omega) (by decide)
  obtain ⟨h2, k2, t2⟩ := mk_X5_73 (s1.zc z (by omega) (by decide))
  have s2 : Nu [(73, 9, 78), (73, 8, 77), (73, 2, 76), (73, 1, 75), (73, 0, 74)] 79 h h2 := s1.trans t2
  obtain ⟨h3, hh3⟩ : ∃ q, q = sR h2 72 0 (some 73) := ⟨_, rfl⟩
  have k3 : ∀ F L S, i_putR 8 0 F L (.ref 73 :: .ref 72 :: S) h2 = F L S h3 := fun F L S => by rw [hh3]; exact k_putR s2.1 (by decide)
  have s3 : Nu [(72, 0, 73), (73, 9, 78), (73, 8, 77), (73, 2, 76), (73, 1, 75), (73, 0, 74)] 79 h h3 := by rw [hh3]; exact s2.set1 72 0 73
  obtain ⟨h4, hh4⟩ : ∃ q, q = nw h3 := ⟨_, rfl⟩
  have k4 : ∀ F L S, i_newarr 1 5 F L (.int 5 :: S) h3 = F L (.ref 79 :: S) h4 := fun F L S => by rw [hh4]; exact k_newarr s3.1 s3.2.1 (by decide)
  have s4 : Nu [(72, 0, 73), (73, 9, 78), (73, 8, 77), (73, 2, 76), (73, 1, 75), (73, 0, 74)] 80 h h4 := by rw [hh4]; exact Nu.made z s3 (by omega) (by decide)
  obtain ⟨h5, hh5⟩ : ∃ q, q = sR h4 72 1 (some 79) := ⟨_, rfl⟩
  have k5 : ∀ F L S, i_putR 8 1 F L (.ref 79 :: .ref 72 :: S) h4 = F L S h5 := fun F L S => by rw [hh5]; exact k_putR s4.1 (by decide)
  have s5 : Nu [(72, 1, 79), (72, 0, 73), (73, 9, 78), (73, 8, 77), (73, 2, 76), (73, 1, 75), (73, 0, 74)] 80 h h5 := by rw [hh5]; exact s4.set1 72 1 79
  obtain ⟨h6, hh6⟩ : ∃ q, q = nw h5 := ⟨_, rfl⟩
  have k6 : ∀ F L S, i_newarr 1 5 F L (.int 5 :: S) h5 = F L (.ref 80 :: S) h6 := fun F L S => by rw [hh6]; exact k_newarr s5.1 s5.2.1 (by decide)
  have s6 : Nu [(72, 1, 79), (72, 0, 73), (73, 9, 78), (73, 8, 77), (73, 2, 76), (73, 1, 75), (73, 0, 74)] 81 h h6 := by rw [hh6]; exact Nu.made z s5 (by omega) (by decide)
  obtain ⟨h7, hh7⟩ : ∃ q, q = sR h6 72 2 (some 80) := ⟨_, rfl⟩
  have k7 : ∀ F L S, i_putR 8 2 F L (.ref 80 :: .ref 72 :: S) h6 = F L S h7 := fun F L S => by rw [hh7]; exact k_putR s6.1 (by decide)
  have s7 : Nu [(72, 2, 80), (72, 1, 79), (72, 0, 73), (73, 9, 78), (73, 8, 77), (73, 2, 76), (73, 1, 75), (73, 0, 74)] 81 h h7 := by rw [hh7]; exact s6.set1 72 2 80
  obtain ⟨h8, hh8⟩ : ∃ q, q = nw h7 := ⟨_, rfl⟩
  have k8 : ∀ F L S, i_newarr 1 5 F L (.int 5 :: S) h7 = F L (.ref 81 :: S) h8 := fun F L S => by rw [hh8]; exact k_newarr s7.1 s7.2.1 (by decide)
  have s8 : Nu [(72, 2, 80), (72, 1, 79), (72, 0, 73), (73, 9, 78), (73, 8, 77), (73, 2, 76), (73, 1, 75), (73, 0, 74)] 82 h h8 := by rw [hh8]; exact Nu.made z s7 (by omega) (by decide)
  obtain ⟨h9, hh9⟩ : ∃ q, q = sR h8 72 3 (some 81) := ⟨_, rfl⟩
  have k9 : ∀ F L S, i_putR 8 3 F L (.ref 81 :: .ref 72 :: S) h8 = F L S h9 := fun F L S => by rw [hh9]; exact k_putR s8.1 (by decide)
  have s9 : Nu [(72, 3, 81), (72, 2, 80), (72, 1, 79), (72, 0, 73), (73, 9, 78), (73, 8, 77), (73, 2, 76), (73, 1, 75), (73, 0, 74)] 82 h h9 := by rw [hh9]; exact s8.set1 72 3 81
  obtain ⟨h10, hh10⟩ : ∃ q, q = nw h9 := ⟨_, rfl⟩
  have k10 : ∀ F L S, i_newarr 1 5 F L (.int 5 :: S) h9 = F L (.ref 82 :: S) h10 := fun F L S => by rw [hh10]; exact k_newarr s9.1 s9.2.1 (by decide)
  have s10 : Nu [(72, 3, 81), (72, 2, 80), (72, 1, 79), (72, 0, 73), (73, 9, 78), (73, 8, 77), (73, 2, 76), (73, 1, 75), (73, 0, 74)] 83 h h10 := by rw [hh10]; exact Nu.made z s9 (by omega) (by decide)
  obtain ⟨h11, hh11⟩ : ∃ q, q = sR h10 72 4 (some 82) := ⟨_, rfl⟩
  have k11 : ∀ F L S, i_putR 8 4 F L (.ref 82 :: .ref 72 :: S) h10 = F L S h11 := fun F L S => by rw [hh11]; exact k_putR s10.1 (by decide)
  have s11 : Nu [(72, 4, 82), (72, 3, 81), (72, 2, 80), (72, 1, 79), (72, 0, 73), (73, 9, 78), (73, 8, 77), (73, 2, 76), (73, 1, 75), (73, 0, 74)] 83 h h11 := by rw [hh11]; exact s10.set1 72 4 82
  obtain ⟨h12, hh12⟩ : ∃ q, q = nw h11 := ⟨_, rfl⟩
  have k12 : ∀ F L S, i_newarr 1 5 F L (.int 5 :: S) h11 = F L (.ref 83 :: S) h12 := fun F L S => by rw [hh12]; exact k_newarr s11.1 s11.2.1 (by decide)
  have s12 : Nu [(72, 4, 82), (72, 3, 81), (72, 2, 80), (72, 1, 79), (72, 0, 73), (73, 9, 78), (73, 8, 77), (73, 2, 76), (73, 1, 75), (73, 0, 74)] 84 h h12 := by rw [hh12]; exact Nu.made z s11 (by omega) (by decide)
  obtain ⟨h13, hh13⟩ : ∃ q, q = sR h12 72 5 (some 83) := ⟨_, rfl⟩
  have k13 : ∀ F L S, i_putR 8 5 F L (.ref 83 :: .ref 72 :: S) h12 = F L S h13 := fun F L S => by rw [hh13]; exact k_putR s12.1 (by decide)
  have s13 : Nu [(72, 5, 83), (72, 4, 82), (72, 3, 81), (72, 2, 80), (72, 1, 79), (72, 0, 73), (73, 9, 78), (73, 8, 77), (73, 2, 76), (73, 1, 75), (73, 0, 74)] 84 h h13 := by rw [hh13]; exact s12.set1 72 5 83
  obtain ⟨h14, hh14⟩ : ∃ q, q = nw h13 := ⟨_, rfl⟩
  have k14 : ∀ F L S, i_newarr 1 5 F L (.int 5 :: S) h13 = F L (.ref 84 :: S) h14 := fun F L S => by rw [hh14]; exact k_newarr s13.1 s13.2.1 (by decide)
  have s14 : Nu [(72, 5, 83), (72, 4, 82), (72, 3, 81), (72, 2, 80), (72, 1, 79), (72, 0, 73), (73, 9, 78), (73, 8, 77), (73, 2, 76), (73, 1, 75), (73, 0, 74)] 85 h h14 := by rw [hh14]; exact Nu.made z s13 (by omega) (by decide)
  obtain ⟨h15, hh15⟩ : ∃ q, q = sR h14 72 6 (some 84) := ⟨_, rfl⟩
  have k15 : ∀ F L S, i_putR 8 6 F L (.ref 84 :: .ref 72 :: S) h14 = F L S h15 := fun F L S => by rw [hh15]; exact k_putR s14.1 (by decide)
  have s15 : Nu [(72, 6, 84), (72, 5, 83), (72, 4, 82), (72, 3, 81), (72, 2, 80), (72, 1, 79), (72, 0, 73), (73, 9, 78), (73, 8, 77), (73, 2, 76), (73, 1, 75), (73, 0, 74)] 85 h h15 := by rw [hh15]; exact s14.set1 72 6 84
  obtain ⟨h16, hh16⟩ : ∃ q, q = nw h15 := ⟨_, rfl⟩
  have k16 : ∀ F L S, i_newarr 1 48 F L (.int 48 :: S) h15 = F L (.ref 85 :: S) h16 := fun F L S => by rw [hh16]; exact k_newarr s15.1 s15.2.1 (by decide)
  have s16 : Nu [(72, 6, 84), (72, 5, 83), (72, 4, 82), (72, 3, 81), (72, 2, 80), (72, 1, 79), (72, 0, 73), (73, 9, 78), (73, 8, 77), (73, 2, 76), (73, 1, 75), (73, 0, 74)] 86 h h16 := by rw [hh16]; exact Nu.made z s15 (by omega) (by decide)
  obtain ⟨h17, hh17⟩ : ∃ q, q = sR h16 72 7 (some 85) := ⟨_, rfl⟩
  have k17 : ∀ F L S, i_putR 8 7 F L (.ref 85 :: .ref 72 :: S) h16 = F L S h17 := fun F L S => by rw [hh17]; exact k_putR s16.1 (by decide)
  have s17 : Nu [(72, 7, 85), (72, 6, 84), (72, 5, 83), (72, 4, 82), (72, 3, 81), (72, 2, 80), (72, 1, 79), (72, 0, 73), (73, 9, 78), (73, 8, 77), (73, 2, 76), (73, 1, 75), (73, 0, 74)] 86 h h17 := by rw [hh17]; exact s16.set1 72 7 85
  obtain ⟨h18, hh18⟩ : ∃ q, q = nw h17 := ⟨_, rfl⟩
  have k18 : ∀ F L S, i_newarr 1 53 F L (.int 53 :: S) h17 = F L (.ref 86 :: S) h18 := fun F L S => by rw [hh18]; exact k_newarr s17.1 s17.2.1 (by decide)
  have s18 : Nu [(72, 7, 85), (72, 6, 84), (72, 5, 83), (72, 4, 82), (72, 3, 81), (72, 2, 80), (72, 1, 79), (72, 0, 73), (73, 9, 78), (73, 8, 77), (73, 2, 76), (73, 1, 75), (73, 0, 74)] 87 h h18 := by rw [hh18]; exact Nu.made z s17 (by omega) (by decide)
  obtain ⟨h19, hh19⟩ : ∃ q, q = sR h18 72 10 (some 86) := ⟨_, rfl⟩
  have k19 : ∀ F L S, i_putR 8 10 F L (.ref 86 :: .ref 72 :: S) h18 = F L S h19 := fun F L S => by rw [hh19]; exact k_putR s18.1 (by decide)
  have s19 : Nu [(72, 10, 86), (72, 7, 85), (72, 6, 84), (72, 5, 83), (72, 4, 82), (72, 3, 81), (72, 2, 80), (72, 1, 79), (72, 0, 73), (73, 9, 78), (73, 8, 77), (73, 2, 76), (73, 1, 75), (73, 0, 74)] 87 h h19 := by rw [hh19]; exact s18.set1 72 10 86
  obtain ⟨h20, hh20⟩ : ∃ q, q = nw h19 := ⟨_, rfl⟩
  have k20 : ∀ F L S, i_newarr 1 48 F L (.int 48 :: S) h19 = F L (.ref 87 :: S) h20 := fun F L S => by rw [hh20]; exact k_newarr s19.1 s19.2.1 (by decide)
  have s20 : Nu [(72, 10, 86), (72, 7, 85), (72, 6, 84), (72, 5, 83), (72, 4, 82), (72, 3, 81), (72, 2, 80), (72, 1, 79), (72, 0, 73), (73, 9, 78), (73, 8, 77), (73, 2, 76), (73, 1, 75), (73, 0, 74)] 88 h h20 := by rw [hh20]; exact Nu.made z s19 (by omega) (by decide)
  obtain ⟨h21, hh21⟩ : ∃ q, q = sR h20 72 11 (some 87) := ⟨_, rfl⟩
  have k21 : ∀ F L S, i_putR 8 11 F L (.ref 87 :: .ref 72 :: S) h20 = F L S h21 := fun F L S => by rw [hh21]; exact k_putR s20.1 (by decide)
  have s21 : Nu [(72, 11, 87), (72, 10, 86), (72, 7, 85), (72, 6, 84), (72, 5, 83), (72, 4, 82), (72, 3, 81), (72, 2, 80), (72, 1, 79), (72, 0, 73), (73, 9, 78), (73, 8, 77), (73, 2, 76), (73, 1, 75), (73, 0, 74)] 88 h h21 := by rw [hh21]; exact s20.set1 72 11 87
  obtain ⟨h22, hh22⟩ : ∃ q, q = sR h21 72 12 (some 8) := ⟨_, rfl⟩
  have k22 : ∀ F L S, i_putR 8 12 F L (.ref 8 :: .ref 72 :: S) h21 = F L S h22 := fun F L S => by rw [hh22]; exact k_putR s21.1 (by decide)
  have s22 : Nu [(72, 12, 8), (72, 11, 87), (72, 10, 86), (72, 7, 85), (72, 6, 84), (72, 5, 83), (72, 4, 82), (72, 3, 81), (72, 2, 80), (72, 1, 79), (72, 0, 73), (73, 9, 78), (73, 8, 77), (73, 2, 76), (73, 1, 75), (73, 0, 74)] 88 h h22 := by rw [hh22]; exact s21.set1 72 12 8
  obtain ⟨h23, hh23⟩ : ∃ q, q = sR h22 72 9 (some 51) := ⟨_, rfl⟩
  have k23 : ∀ F L S, i_putR 8 9 F L (.ref 51 :: .ref 72 :: S) h22 = F L S h23 := fun F L S => by rw [hh23]; exact k_putR s22.1 (by decide)
  have s23 : Nu [(72, 9, 51), (72, 12, 8), (72, 11, 87), (72, 10, 86), (72, 7, 85), (72, 6, 84), (72, 5, 83), (72, 4, 82), (72, 3, 81), (72, 2, 80), (72, 1, 79), (72, 0, 73), (73, 9, 78), (73, 8, 77), (73, 2, 76), (73, 1, 75), (73, 0, 74)] 88 h h23 := by rw [hh23]; exact s22.set1 72 9 51
  refine ⟨h23, ?_, s23⟩
  rw [u_X8_init]
  simp only [e_X8_init_0, e_X8_init_44, e_X8_init_88, r_aload_0, r_aload_1, r_aload_2, r_push, r_objInit, r_dup_r, r_callI_0, r_callI_1, r_callI_2, r_aft_n, r_return, cs_nil, cs_int, cs_ref, Nat.reduceAdd, Nat.reduceLeDiff, if_true, Nat.add_zero, k1, k2, k3, k4, k5, k6, k7, k8, k9, k10, k11, k12, k13, k14, k15, k16, k17, k18, k19, k20, k21, k22, k23]
set_option maxHeartbeats 2000000 in
theorem mk_X6_88_72 {h : AH} (z : Zc 89 h) : ∃ h', mX6_init [.ref 88, .ref 72] h = some (.inl none, h') ∧ Nu [(88, 2, 72)] 89 h h' := by
  have s0 := Nu.refl z
  obtain ⟨h1, hh1⟩ : ∃ q, q = sR h 88 2 (some 72) := ⟨_, rfl⟩
  have k1 : ∀ F L S, i_putR 6 2 F L (.ref 72 :: .ref 88 :: S) h = F L S h1 := fun F L S => by rw [hh1]; exact k_putR s0.1 (by decide)
  have s1 : Nu [(88, 2, 72)] 89 h h1 := by rw [hh1]; exact s0.set1 88 2 72
  refine ⟨h1, ?_, s1⟩
  rw [u_X6_init]
  simp only [e_X6_init_0, r_aload_0, r_aload_1, r_aload_2, r_push, r_objInit, r_dup_r, r_callI_0, r_callI_1, r_callI_2, r_aft_n, r_return, cs_nil, cs_int, cs_ref, Nat.reduceAdd, Nat.reduceLeDiff, if_true, Nat.add_zero, k1]
