/-! the planner's first cells -/
set_option maxHeartbeats 2000000 in
theorem st_A {h : AH} (z : Zc 1 h) : ∃ h', mX11_init [.ref 0] h = i_new 0 (i_dup (i_callI 0 mX0_init (i_putR 10 8 (i_aload 0 (i_new 0 (i_dup fX11_init_51)))))) [some (.ref 0)] [.ref 0] h' ∧ Nu [(0, 2, 6), (6, 1, 7), (0, 1, 2), (2, 2, 5), (2, 1, 4), (2, 0, 3), (0, 0, 1)] 8 h h' := by
  have s0 := Nu.refl z
  obtain ⟨h1, hh1⟩ : ∃ q, q = nw h := ⟨_, rfl⟩
  have k1 : ∀ F L S, i_newarr 2 1000 F L (.int 1000 :: S) h = F L (.ref 1 :: S) h1 := fun F L S => by rw [hh1]; exact k_newarr s0.1 s0.2.1 (by decide)
  have s1 : Nu [] 2 h h1 := by rw [hh1]; exact Nu.made z s0 (by omega) (by decide)
  obtain ⟨h2, hh2⟩ : ∃ q, q = sR h1 0 0 (some 1) := ⟨_, rfl⟩
  have k2 : ∀ F L S, i_putR 10 0 F L (.ref 1 :: .ref 0 :: S) h1 = F L S h2 := fun F L S => by rw [hh2]; exact k_putR s1.1 (by decide)
  have s2 : Nu [(0, 0, 1)] 2 h h2 := by rw [hh2]; exact s1.set1 0 0 1
  obtain ⟨h3, hh3⟩ : ∃ q, q = nw h2 := ⟨_, rfl⟩
  have k3 : ∀ F L S, i_new 9 F L S h2 = F L (.ref 2 :: S) h3 := fun F L S => by rw [hh3]; exact k_new s2.1 s2.2.1 (by decide)
  have s3 : Nu [(0, 0, 1)] 3 h h3 := by rw [hh3]; exact Nu.made z s2 (by omega) (by decide)
  obtain ⟨h4, k4, t4⟩ := mk_X10_2 (s3.zc z (by omega) (by decide))
  have s4 := s3.trans t4
  obtain ⟨h5, hh5⟩ : ∃ q, q = sR h4 0 1 (some 2) := ⟨_, rfl⟩
  have k5 : ∀ F L S, i_putR 10 1 F L (.ref 2 :: .ref 0 :: S) h4 = F L S h5 := fun F L S => by rw [hh5]; exact k_putR s4.1 (by decide)
  have s5 := s4.set1 0 1 2
  rw [← hh5] at s5
  obtain ⟨h6, hh6⟩ : ∃ q, q = nw h5 := ⟨_, rfl⟩
  have k6 : ∀ F L S, i_new 4 F L S h5 = F L (.ref 6 :: S) h6 := fun F L S => by rw [hh6]; exact k_new s5.1 s5.2.1 (by decide)
  have s6 := Nu.made z s5 (by omega) (by decide)
  rw [← hh6] at s6
  obtain ⟨h7, k7, t7⟩ := mk_X4_6 (s6.zc z (by omega) (by decide))
  have s7 := s6.trans t7
  obtain ⟨h8, hh8⟩ : ∃ q, q = sR h7 0 2 (some 6) := ⟨_, rfl⟩
  have k8 : ∀ F L S, i_putR 10 2 F L (.ref 6 :: .ref 0 :: S) h7 = F L S h8 := fun F L S => by rw [hh8]; exact k_putR s7.1 (by decide)
  have s8 := s7.set1 0 2 6
  rw [← hh8] at s8
  refine ⟨h8, ?_, s8⟩
  rw [u_X11_init]
  simp only [e_X11_init_0, r_aload_0, r_push, r_objInit, r_dup_r, r_callI_0, r_aft_n, r_return, cs_nil, cs_int, cs_ref, Nat.reduceAdd, Nat.reduceLeDiff, if_true, Nat.add_zero, k1, k2, k3, k4, k5, k6, k7, k8]
