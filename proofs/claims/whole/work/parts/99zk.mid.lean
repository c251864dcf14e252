/-! the planner's further cells, and the reference's -/
def At (l : List (Nat × Nat × Nat)) (a k : Nat) : Option Nat := (l.find? (fun q => q.1 == a && q.2.1 == k)).map (fun q => q.2.2)
set_option maxHeartbeats 2000000 in
theorem Nu.at {l : List (Nat × Nat × Nat)} {m : Nat} {h h' : AH} (q : Nu l m h h') (a k : Nat) : gR h' a k = (At l a k).or (gR h a k) := by
  rw [q.2.2.2]
  unfold At
  cases l.find? (fun q => q.1 == a && q.2.1 == k) <;> rfl
set_option maxHeartbeats 2000000 in
theorem Nu.get {l : List (Nat × Nat × Nat)} {m : Nat} {h h' : AH} (q : Nu l m h h') {a k v : Nat} (e : At l a k = some v) : gR h' a k = some v := by
  rw [q.at, e]; rfl
set_option maxHeartbeats 2000000 in
theorem Nu.old {l : List (Nat × Nat × Nat)} {m : Nat} {h h' : AH} (q : Nu l m h h') {a k : Nat} (e : At l a k = none) : gR h' a k = gR h a k := by
  rw [q.at, e]; rfl
set_option maxHeartbeats 2000000 in
theorem Nu.setI {l : List (Nat × Nat × Nat)} {m : Nat} {h h' : AH} (q : Nu l m h h') (a k : Nat) (x : Int32) : Nu l m (sI h a k x) (sI h' a k x) := by
  obtain ⟨q1, q2, q3, q4⟩ := q
  refine ⟨q1, q2, fun b j => ⟨?_, (q3 b j).2⟩, fun b j => q4 b j⟩
  rw [gI_sI, gI_sI, (q3 b j).1]
set_option maxHeartbeats 2000000 in
theorem Zc.setI {n : Nat} {h : AH} (z : Zc n h) {a : Nat} (ha : a < n) (k : Nat) (x : Int32) : Zc n (sI h a k x) :=
  ⟨z.1, z.2.1, fun b j hb => ⟨(gI_ne (by omega)).trans (z.2.2 b j hb).1, (z.2.2 b j hb).2⟩⟩
set_option maxHeartbeats 2000000 in
theorem k_getR {m ci k i v : Nat} {F : Fn} {L : Lc} {S : List Value} {h : AH} (e1 : gN h = m) (e2 : gR h i k = some v) (c : sh i = (0, ci) ∧ i < m) : i_getR ci k F L (.ref i :: S) h = F L (.ref v :: S) h := by
  rw [r_getR, if_pos ⟨c.1, by rw [e1]; exact c.2⟩, e2]; rfl
set_option maxHeartbeats 2000000 in
theorem k_putI {m ci k i : Nat} {x : Int32} {F : Fn} {L : Lc} {S : List Value} {h : AH} (e1 : gN h = m) (c : sh i = (0, ci) ∧ i < m) : i_putI ci k F L (.int x :: .ref i :: S) h = F L S (sI h i k x) := by
  rw [r_putI, if_pos ⟨c.1, by rw [e1]; exact c.2⟩]
set_option maxHeartbeats 2000000 in
theorem k_ias {m i j : Nat} {x y : Int32} {F : Fn} {L : Lc} {S : List Value} {h : AH} (e1 : gN h = m) (c : (sh i).1 = 1 ∧ i < m ∧ ¬ x < 0 ∧ x.toNatClampNeg < (sh i).2 ∧ x.toNatClampNeg = j) : i_iastore F L (.int y :: .int x :: .ref i :: S) h = F L S (sI h i j y) := by
  rw [r_iastore, if_pos ⟨c.1, by rw [e1]; exact c.2.1, c.2.2.1, c.2.2.2.1⟩, c.2.2.2.2]
def lC : List (Nat × Nat × Nat) := [(0, 7, 88), (88, 2, 72), (0, 6, 72), (72, 9, 51), (72, 12, 8), (72, 11, 87), (72, 10, 86), (72, 7, 85), (72, 6, 84), (72, 5, 83), (72, 4, 82), (72, 3, 81), (72, 2, 80), (72, 1, 79), (72, 0, 73), (73, 9, 78), (73, 8, 77), (73, 2, 76), (73, 1, 75), (73, 0, 74), (0, 5, 56), (56, 9, 51), (56, 12, 8), (56, 11, 71), (56, 10, 70), (56, 7, 69), (56, 6, 68), (56, 5, 67), (56, 4, 66), (56, 3, 65), (56, 2, 64), (56, 1, 63), (56, 0, 57), (57, 9, 62), (57, 8, 61), (57, 2, 60), (57, 1, 59), (57, 0, 58), (0, 4, 51), (51, 0, 8), (51, 4, 55), (51, 3, 54), (51, 2, 53), (51, 1, 52), (0, 3, 50), (50, 3, 29), (50, 2, 2)]
def KC : Fn := (i_aload 0 (i_push (.int (0)) (i_putI 10 11 (i_aload 0 (i_push (.int (-1)) (i_putI 10 12 (i_aload 0 (i_new 1 (i_dup (i_aload 0 (i_getR 10 1 (i_aload 0 (i_getR 10 9 (i_callI 2 mX1_init (i_putR 10 3 (i_aload 0 (i_new 2 (i_dup (i_aload 0 (i_getR 10 8 (i_callI 1 mX2_init (i_putR 10 4 fX11_init_101))))))))))))))))))))))
set_option maxHeartbeats 2000000 in
theorem KC_of : fX11_init_51 = i_callI 0 mX0_init (i_putR 10 9 KC) := rfl
set_option maxHeartbeats 2000000 in
theorem e_KC (L : Lc) (S : List Value) (h : AH) : KC L S h = (i_aload 0 (i_push (.int (0)) (i_putI 10 11 (i_aload 0 (i_push (.int (-1)) (i_putI 10 12 (i_aload 0 (i_new 1 (i_dup (i_aload 0 (i_getR 10 1 (i_aload 0 (i_getR 10 9 (i_callI 2 mX1_init (i_putR 10 3 (i_aload 0 (i_new 2 (i_dup (i_aload 0 (i_getR 10 8 (i_callI 1 mX2_init (i_putR 10 4 fX11_init_101)))))))))))))))))))))) L S h := rfl
set_option maxHeartbeats 2000000 in
theorem st_C {h : AH} (z : Zc 50 h) (r1 : gR h 0 1 = some 2) (r8 : gR h 0 8 = some 8) (r9 : gR h 0 9 = some 29) : ∃ h', KC [some (.ref 0)] [] h = i_callV 10 0 mX11_serveLoadedBrigade i_return [some (.ref 0)] [.ref 0] h' ∧ Nu lC 89 (sI (sI h 0 11 (0)) 0 12 (-1)) h' := by
  have s0 := Nu.refl z
  obtain ⟨b1, hb1⟩ : ∃ q, q = sI h 0 11 (0) := ⟨_, rfl⟩
  obtain ⟨h1, hh1⟩ : ∃ q, q = sI h 0 11 (0) := ⟨_, rfl⟩
  have k1 : ∀ F L S, i_putI 10 11 F L (.int (0) :: .ref 0 :: S) h = F L S h1 := fun F L S => by rw [hh1]; exact k_putI s0.1 (by decide)
  have s1 : Nu [] 50 b1 h1 := by rw [hh1, hb1]; exact s0.setI 0 11 (0)
  have z1 : Zc 50 b1 := by rw [hb1]; exact z.setI (by omega) 11 (0)
  obtain ⟨b2, hb2⟩ : ∃ q, q = sI b1 0 12 (-1) := ⟨_, rfl⟩
  obtain ⟨h2, hh2⟩ : ∃ q, q = sI h1 0 12 (-1) := ⟨_, rfl⟩
  have k2 : ∀ F L S, i_putI 10 12 F L (.int (-1) :: .ref 0 :: S) h1 = F L S h2 := fun F L S => by rw [hh2]; exact k_putI s1.1 (by decide)
  have s2 : Nu [] 50 b2 h2 := by rw [hh2, hb2]; exact s1.setI 0 12 (-1)
  have z2 : Zc 50 b2 := by rw [hb2]; exact z1.setI (by omega) 12 (-1)
  obtain ⟨h3, hh3⟩ : ∃ q, q = nw h2 := ⟨_, rfl⟩
  have k3 : ∀ F L S, i_new 1 F L S h2 = F L (.ref 50 :: S) h3 := fun F L S => by rw [hh3]; exact k_new s2.1 s2.2.1 (by decide)
  have s3 : Nu [] 51 b2 h3 := by rw [hh3]; exact Nu.made z2 s2 (by omega) (by decide)
  have k4 : ∀ F L S, i_getR 10 1 F L (.ref 0 :: S) h3 = F L (.ref 2 :: S) h3 := fun F L S => k_getR s3.1 ((s3.old (by decide)).trans (by rw [hb2, hb1]; exact r1)) (by decide)
  have s4 := s3
  have k5 : ∀ F L S, i_getR 10 9 F L (.ref 0 :: S) h3 = F L (.ref 29 :: S) h3 := fun F L S => k_getR s4.1 ((s4.old (by decide)).trans (by rw [hb2, hb1]; exact r9)) (by decide)
  have s5 := s4
  obtain ⟨h6, k6, t6⟩ := mk_X1_50_2_29 (s5.zc z2 (by omega) (by decide))
  have s6 : Nu [(50, 3, 29), (50, 2, 2)] 51 b2 h6 := s5.trans t6
  obtain ⟨h7, hh7⟩ : ∃ q, q = sR h6 0 3 (some 50) := ⟨_, rfl⟩
  have k7 : ∀ F L S, i_putR 10 3 F L (.ref 50 :: .ref 0 :: S) h6 = F L S h7 := fun F L S => by rw [hh7]; exact k_putR s6.1 (by decide)
  have s7 : Nu [(0, 3, 50), (50, 3, 29), (50, 2, 2)] 51 b2 h7 := by rw [hh7]; exact s6.set1 0 3 50
  obtain ⟨h8, hh8⟩ : ∃ q, q = nw h7 := ⟨_, rfl⟩
  have k8 : ∀ F L S, i_new 2 F L S h7 = F L (.ref 51 :: S) h8 := fun F L S => by rw [hh8]; exact k_new s7.1 s7.2.1 (by decide)
  have s8 : Nu [(0, 3, 50), (50, 3, 29), (50, 2, 2)] 52 b2 h8 := by rw [hh8]; exact Nu.made z2 s7 (by omega) (by decide)
  have k9 : ∀ F L S, i_getR 10 8 F L (.ref 0 :: S) h8 = F L (.ref 8 :: S) h8 := fun F L S => k_getR s8.1 ((s8.old (by decide)).trans (by rw [hb2, hb1]; exact r8)) (by decide)
  have s9 := s8
  obtain ⟨h10, k10, t10⟩ := mk_X2_51_8 (s9.zc z2 (by omega) (by decide))
  have s10 : Nu [(51, 0, 8), (51, 4, 55), (51, 3, 54), (51, 2, 53), (51, 1, 52), (0, 3, 50), (50, 3, 29), (50, 2, 2)] 56 b2 h10 := s9.trans t10
  obtain ⟨h11, hh11⟩ : ∃ q, q = sR h10 0 4 (some 51) := ⟨_, rfl⟩
  have k11 : ∀ F L S, i_putR 10 4 F L (.ref 51 :: .ref 0 :: S) h10 = F L S h11 := fun F L S => by rw [hh11]; exact k_putR s10.1 (by decide)
  have s11 : Nu [(0, 4, 51), (51, 0, 8), (51, 4, 55), (51, 3, 54), (51, 2, 53), (51, 1, 52), (0, 3, 50), (50, 3, 29), (50, 2, 2)] 56 b2 h11 := by rw [hh11]; exact s10.set1 0 4 51
  obtain ⟨h12, hh12⟩ : ∃ q, q = nw h11 := ⟨_, rfl⟩
  have k12 : ∀ F L S, i_new 8 F L S h11 = F L (.ref 56 :: S) h12 := fun F L S => by rw [hh12]; exact k_new s11.1 s11.2.1 (by decide)
  have s12 : Nu [(0, 4, 51), (51, 0, 8), (51, 4, 55), (51, 3, 54), (51, 2, 53), (51, 1, 52), (0, 3, 50), (50, 3, 29), (50, 2, 2)] 57 b2 h12 := by rw [hh12]; exact Nu.made z2 s11 (by omega) (by decide)
  have k13 : ∀ F L S, i_getR 10 8 F L (.ref 0 :: S) h12 = F L (.ref 8 :: S) h12 := fun F L S => k_getR s12.1 ((s12.old (by decide)).trans (by rw [hb2, hb1]; exact r8)) (by decide)
  have s13 := s12
  have k14 : ∀ F L S, i_getR 10 4 F L (.ref 0 :: S) h12 = F L (.ref 51 :: S) h12 := fun F L S => k_getR s13.1 (s13.get (by decide)) (by decide)
  have s14 := s13
  obtain ⟨h15, k15, t15⟩ := mk_X8_56_8_51 (s14.zc z2 (by omega) (by decide))
  have s15 : Nu [(56, 9, 51), (56, 12, 8), (56, 11, 71), (56, 10, 70), (56, 7, 69), (56, 6, 68), (56, 5, 67), (56, 4, 66), (56, 3, 65), (56, 2, 64), (56, 1, 63), (56, 0, 57), (57, 9, 62), (57, 8, 61), (57, 2, 60), (57, 1, 59), (57, 0, 58), (0, 4, 51), (51, 0, 8), (51, 4, 55), (51, 3, 54), (51, 2, 53), (51, 1, 52), (0, 3, 50), (50, 3, 29), (50, 2, 2)] 72 b2 h15 := s14.trans t15
  obtain ⟨h16, hh16⟩ : ∃ q, q = sR h15 0 5 (some 56) := ⟨_, rfl⟩
  have k16 : ∀ F L S, i_putR 10 5 F L (.ref 56 :: .ref 0 :: S) h15 = F L S h16 := fun F L S => by rw [hh16]; exact k_putR s15.1 (by decide)
  have s16 : Nu [(0, 5, 56), (56, 9, 51), (56, 12, 8), (56, 11, 71), (56, 10, 70), (56, 7, 69), (56, 6, 68), (56, 5, 67), (56, 4, 66), (56, 3, 65), (56, 2, 64), (56, 1, 63), (56, 0, 57), (57, 9, 62), (57, 8, 61), (57, 2, 60), (57, 1, 59), (57, 0, 58), (0, 4, 51), (51, 0, 8), (51, 4, 55), (51, 3, 54), (51, 2, 53), (51, 1, 52), (0, 3, 50), (50, 3, 29), (50, 2, 2)] 72 b2 h16 := by rw [hh16]; exact s15.set1 0 5 56
  obtain ⟨h17, hh17⟩ : ∃ q, q = nw h16 := ⟨_, rfl⟩
  have k17 : ∀ F L S, i_new 8 F L S h16 = F L (.ref 72 :: S) h17 := fun F L S => by rw [hh17]; exact k_new s16.1 s16.2.1 (by decide)
  have s17 : Nu [(0, 5, 56), (56, 9, 51), (56, 12, 8), (56, 11, 71), (56, 10, 70), (56, 7, 69), (56, 6, 68), (56, 5, 67), (56, 4, 66), (56, 3, 65), (56, 2, 64), (56, 1, 63), (56, 0, 57), (57, 9, 62), (57, 8, 61), (57, 2, 60), (57, 1, 59), (57, 0, 58), (0, 4, 51), (51, 0, 8), (51, 4, 55), (51, 3, 54), (51, 2, 53), (51, 1, 52), (0, 3, 50), (50, 3, 29), (50, 2, 2)] 73 b2 h17 := by rw [hh17]; exact Nu.made z2 s16 (by omega) (by decide)
  have k18 : ∀ F L S, i_getR 10 8 F L (.ref 0 :: S) h17 = F L (.ref 8 :: S) h17 := fun F L S => k_getR s17.1 ((s17.old (by decide)).trans (by rw [hb2, hb1]; exact r8)) (by decide)
  have s18 := s17
  have k19 : ∀ F L S, i_getR 10 4 F L (.ref 0 :: S) h17 = F L (.ref 51 :: S) h17 := fun F L S => k_getR s18.1 (s18.get (by decide)) (by decide)
  have s19 := s18
  obtain ⟨h20, k20, t20⟩ := mk_X8_72_8_51 (s19.zc z2 (by omega) (by decide))
  have s20 : Nu [(72, 9, 51), (72, 12, 8), (72, 11, 87), (72, 10, 86), (72, 7, 85), (72, 6, 84), (72, 5, 83), (72, 4, 82), (72, 3, 81), (72, 2, 80), (72, 1, 79), (72, 0, 73), (73, 9, 78), (73, 8, 77), (73, 2, 76), (73, 1, 75), (73, 0, 74), (0, 5, 56), (56, 9, 51), (56, 12, 8), (56, 11, 71), (56, 10, 70), (56, 7, 69), (56, 6, 68), (56, 5, 67), (56, 4, 66), (56, 3, 65), (56, 2, 64), (56, 1, 63), (56, 0, 57), (57, 9, 62), (57, 8, 61), (57, 2, 60), (57, 1, 59), (57, 0, 58), (0, 4, 51), (51, 0, 8), (51, 4, 55), (51, 3, 54), (51, 2, 53), (51, 1, 52), (0, 3, 50), (50, 3, 29), (50, 2, 2)] 88 b2 h20 := s19.trans t20
  obtain ⟨h21, hh21⟩ : ∃ q, q = sR h20 0 6 (some 72) := ⟨_, rfl⟩
  have k21 : ∀ F L S, i_putR 10 6 F L (.ref 72 :: .ref 0 :: S) h20 = F L S h21 := fun F L S => by rw [hh21]; exact k_putR s20.1 (by decide)
  have s21 : Nu [(0, 6, 72), (72, 9, 51), (72, 12, 8), (72, 11, 87), (72, 10, 86), (72, 7, 85), (72, 6, 84), (72, 5, 83), (72, 4, 82), (72, 3, 81), (72, 2, 80), (72, 1, 79), (72, 0, 73), (73, 9, 78), (73, 8, 77), (73, 2, 76), (73, 1, 75), (73, 0, 74), (0, 5, 56), (56, 9, 51), (56, 12, 8), (56, 11, 71), (56, 10, 70), (56, 7, 69), (56, 6, 68), (56, 5, 67), (56, 4, 66), (56, 3, 65), (56, 2, 64), (56, 1, 63), (56, 0, 57), (57, 9, 62), (57, 8, 61), (57, 2, 60), (57, 1, 59), (57, 0, 58), (0, 4, 51), (51, 0, 8), (51, 4, 55), (51, 3, 54), (51, 2, 53), (51, 1, 52), (0, 3, 50), (50, 3, 29), (50, 2, 2)] 88 b2 h21 := by rw [hh21]; exact s20.set1 0 6 72
  obtain ⟨h22, hh22⟩ : ∃ q, q = nw h21 := ⟨_, rfl⟩
  have k22 : ∀ F L S, i_new 6 F L S h21 = F L (.ref 88 :: S) h22 := fun F L S => by rw [hh22]; exact k_new s21.1 s21.2.1 (by decide)
  have s22 : Nu [(0, 6, 72), (72, 9, 51), (72, 12, 8), (72, 11, 87), (72, 10, 86), (72, 7, 85), (72, 6, 84), (72, 5, 83), (72, 4, 82), (72, 3, 81), (72, 2, 80), (72, 1, 79), (72, 0, 73), (73, 9, 78), (73, 8, 77), (73, 2, 76), (73, 1, 75), (73, 0, 74), (0, 5, 56), (56, 9, 51), (56, 12, 8), (56, 11, 71), (56, 10, 70), (56, 7, 69), (56, 6, 68), (56, 5, 67), (56, 4, 66), (56, 3, 65), (56, 2, 64), (56, 1, 63), (56, 0, 57), (57, 9, 62), (57, 8, 61), (57, 2, 60), (57, 1, 59), (57, 0, 58), (0, 4, 51), (51, 0, 8), (51, 4, 55), (51, 3, 54), (51, 2, 53), (51, 1, 52), (0, 3, 50), (50, 3, 29), (50, 2, 2)] 89 b2 h22 := by rw [hh22]; exact Nu.made z2 s21 (by omega) (by decide)
  have k23 : ∀ F L S, i_getR 10 6 F L (.ref 0 :: S) h22 = F L (.ref 72 :: S) h22 := fun F L S => k_getR s22.1 (s22.get (by decide)) (by decide)
  have s23 := s22
  obtain ⟨h24, k24, t24⟩ := mk_X6_88_72 (s23.zc z2 (by omega) (by decide))
  have s24 : Nu [(88, 2, 72), (0, 6, 72), (72, 9, 51), (72, 12, 8), (72, 11, 87), (72, 10, 86), (72, 7, 85), (72, 6, 84), (72, 5, 83), (72, 4, 82), (72, 3, 81), (72, 2, 80), (72, 1, 79), (72, 0, 73), (73, 9, 78), (73, 8, 77), (73, 2, 76), (73, 1, 75), (73, 0, 74), (0, 5, 56), (56, 9, 51), (56, 12, 8), (56, 11, 71), (56, 10, 70), (56, 7, 69), (56, 6, 68), (56, 5, 67), (56, 4, 66), (56, 3, 65), (56, 2, 64), (56, 1, 63), (56, 0, 57), (57, 9, 62), (57, 8, 61), (57, 2, 60), (57, 1, 59), (57, 0, 58), (0, 4, 51), (51, 0, 8), (51, 4, 55), (51, 3, 54), (51, 2, 53), (51, 1, 52), (0, 3, 50), (50, 3, 29), (50, 2, 2)] 89 b2 h24 := s23.trans t24
  obtain ⟨h25, hh25⟩ : ∃ q, q = sR h24 0 7 (some 88) := ⟨_, rfl⟩
  have k25 : ∀ F L S, i_putR 10 7 F L (.ref 88 :: .ref 0 :: S) h24 = F L S h25 := fun F L S => by rw [hh25]; exact k_putR s24.1 (by decide)
  have s25 : Nu [(0, 7, 88), (88, 2, 72), (0, 6, 72), (72, 9, 51), (72, 12, 8), (72, 11, 87), (72, 10, 86), (72, 7, 85), (72, 6, 84), (72, 5, 83), (72, 4, 82), (72, 3, 81), (72, 2, 80), (72, 1, 79), (72, 0, 73), (73, 9, 78), (73, 8, 77), (73, 2, 76), (73, 1, 75), (73, 0, 74), (0, 5, 56), (56, 9, 51), (56, 12, 8), (56, 11, 71), (56, 10, 70), (56, 7, 69), (56, 6, 68), (56, 5, 67), (56, 4, 66), (56, 3, 65), (56, 2, 64), (56, 1, 63), (56, 0, 57), (57, 9, 62), (57, 8, 61), (57, 2, 60), (57, 1, 59), (57, 0, 58), (0, 4, 51), (51, 0, 8), (51, 4, 55), (51, 3, 54), (51, 2, 53), (51, 1, 52), (0, 3, 50), (50, 3, 29), (50, 2, 2)] 89 b2 h25 := by rw [hh25]; exact s24.set1 0 7 88
  rw [hb2, hb1] at s25
  refine ⟨h25, ?_, s25⟩
  rw [e_KC]
  simp only [e_X11_init_101, e_X11_init_151, r_aload_0, r_push, r_objInit, r_dup_r, r_callI_0, r_callI_1, r_callI_2, r_aft_n, r_return, cs_nil, cs_int, cs_ref, Nat.reduceAdd, Nat.reduceLeDiff, if_true, Nat.add_zero, k1, k2, k3, k4, k5, k6, k7, k8, k9, k10, k11, k12, k13, k14, k15, k16, k17, k18, k19, k20, k21, k22, k23, k24, k25]
def l12 : List (Nat × Nat × Nat) := [(89, 85, 132), (89, 82, 131), (89, 81, 130), (89, 76, 129), (89, 71, 128), (89, 70, 127), (89, 69, 126), (89, 68, 125), (89, 67, 124), (89, 66, 123), (89, 65, 122), (89, 64, 121), (89, 63, 120), (89, 62, 119), (89, 61, 118), (89, 57, 117), (89, 56, 116), (89, 54, 115), (89, 53, 114), (89, 36, 113), (89, 35, 112), (89, 32, 111), (89, 31, 110), (89, 30, 109), (89, 29, 108), (89, 28, 107), (89, 27, 106), (89, 26, 105), (89, 25, 104), (89, 24, 103), (89, 23, 102), (89, 22, 101), (89, 21, 100), (89, 20, 99), (89, 19, 98), (89, 18, 97), (89, 17, 96), (89, 16, 95), (89, 15, 94), (89, 14, 93), (89, 13, 92), (89, 12, 91), (89, 11, 90)]
set_option maxHeartbeats 2000000 in
theorem mk_X12 {h : AH} (z : Zc 90 h) : ∃ h', mX12_init [.ref 89] h = i_callV 11 0 mX12_clear (i_aload 0 (i_callV 11 0 mX12_settle i_return)) [some (.ref 89)] [.ref 89] h' ∧ Nu l12 133 (sI (sI (sI (sI (sI (sI h 89 39 (-1)) 132 0 (1)) 132 1 (10)) 132 2 (100)) 132 3 (1000)) 132 4 (10000)) h' := by
  have s0 := Nu.refl z
  obtain ⟨h1, hh1⟩ : ∃ q, q = nw h := ⟨_, rfl⟩
  have k1 : ∀ F L S, i_newarr 3 12 F L (.int 12 :: S) h = F L (.ref 90 :: S) h1 := fun F L S => by rw [hh1]; exact k_newarr s0.1 s0.2.1 (by decide)
  have s1 : Nu [] 91 h h1 := by rw [hh1]; exact Nu.made z s0 (by omega) (by decide)
  obtain ⟨h2, hh2⟩ : ∃ q, q = sR h1 89 11 (some 90) := ⟨_, rfl⟩
  have k2 : ∀ F L S, i_putR 11 11 F L (.ref 90 :: .ref 89 :: S) h1 = F L S h2 := fun F L S => by rw [hh2]; exact k_putR s1.1 (by decide)
  have s2 : Nu [(89, 11, 90)] 91 h h2 := by rw [hh2]; exact s1.set1 89 11 90
  obtain ⟨h3, hh3⟩ : ∃ q, q = nw h2 := ⟨_, rfl⟩
  have k3 : ∀ F L S, i_newarr 1 20 F L (.int 20 :: S) h2 = F L (.ref 91 :: S) h3 := fun F L S => by rw [hh3]; exact k_newarr s2.1 s2.2.1 (by decide)
  have s3 : Nu [(89, 11, 90)] 92 h h3 := by rw [hh3]; exact Nu.made z s2 (by omega) (by decide)
  obtain ⟨h4, hh4⟩ : ∃ q, q = sR h3 89 12 (some 91) := ⟨_, rfl⟩
  have k4 : ∀ F L S, i_putR 11 12 F L (.ref 91 :: .ref 89 :: S) h3 = F L S h4 := fun F L S => by rw [hh4]; exact k_putR s3.1 (by decide)
  have s4 : Nu [(89, 12, 91), (89, 11, 90)] 92 h h4 := by rw [hh4]; exact s3.set1 89 12 91
  obtain ⟨h5, hh5⟩ : ∃ q, q = nw h4 := ⟨_, rfl⟩
  have k5 : ∀ F L S, i_newarr 1 20 F L (.int 20 :: S) h4 = F L (.ref 92 :: S) h5 := fun F L S => by rw [hh5]; exact k_newarr s4.1 s4.2.1 (by decide)
  have s5 : Nu [(89, 12, 91), (89, 11, 90)] 93 h h5 := by rw [hh5]; exact Nu.made z s4 (by omega) (by decide)
  obtain ⟨h6, hh6⟩ : ∃ q, q = sR h5 89 13 (some 92) := ⟨_, rfl⟩
  have k6 : ∀ F L S, i_putR 11 13 F L (.ref 92 :: .ref 89 :: S) h5 = F L S h6 := fun F L S => by rw [hh6]; exact k_putR s5.1 (by decide)
  have s6 : Nu [(89, 13, 92), (89, 12, 91), (89, 11, 90)] 93 h h6 := by rw [hh6]; exact s5.set1 89 13 92
  obtain ⟨h7, hh7⟩ : ∃ q, q = nw h6 := ⟨_, rfl⟩
  have k7 : ∀ F L S, i_newarr 1 20 F L (.int 20 :: S) h6 = F L (.ref 93 :: S) h7 := fun F L S => by rw [hh7]; exact k_newarr s6.1 s6.2.1 (by decide)
  have s7 : Nu [(89, 13, 92), (89, 12, 91), (89, 11, 90)] 94 h h7 := by rw [hh7]; exact Nu.made z s6 (by omega) (by decide)
  obtain ⟨h8, hh8⟩ : ∃ q, q = sR h7 89 14 (some 93) := ⟨_, rfl⟩
  have k8 : ∀ F L S, i_putR 11 14 F L (.ref 93 :: .ref 89 :: S) h7 = F L S h8 := fun F L S => by rw [hh8]; exact k_putR s7.1 (by decide)
  have s8 : Nu [(89, 14, 93), (89, 13, 92), (89, 12, 91), (89, 11, 90)] 94 h h8 := by rw [hh8]; exact s7.set1 89 14 93
  obtain ⟨h9, hh9⟩ : ∃ q, q = nw h8 := ⟨_, rfl⟩
  have k9 : ∀ F L S, i_newarr 3 6 F L (.int 6 :: S) h8 = F L (.ref 94 :: S) h9 := fun F L S => by rw [hh9]; exact k_newarr s8.1 s8.2.1 (by decide)
  have s9 : Nu [(89, 14, 93), (89, 13, 92), (89, 12, 91), (89, 11, 90)] 95 h h9 := by rw [hh9]; exact Nu.made z s8 (by omega) (by decide)
  obtain ⟨h10, hh10⟩ : ∃ q, q = sR h9 89 15 (some 94) := ⟨_, rfl⟩
  have k10 : ∀ F L S, i_putR 11 15 F L (.ref 94 :: .ref 89 :: S) h9 = F L S h10 := fun F L S => by rw [hh10]; exact k_putR s9.1 (by decide)
  have s10 : Nu [(89, 15, 94), (89, 14, 93), (89, 13, 92), (89, 12, 91), (89, 11, 90)] 95 h h10 := by rw [hh10]; exact s9.set1 89 15 94
  obtain ⟨h11, hh11⟩ : ∃ q, q = nw h10 := ⟨_, rfl⟩
  have k11 : ∀ F L S, i_newarr 1 6 F L (.int 6 :: S) h10 = F L (.ref 95 :: S) h11 := fun F L S => by rw [hh11]; exact k_newarr s10.1 s10.2.1 (by decide)
  have s11 : Nu [(89, 15, 94), (89, 14, 93), (89, 13, 92), (89, 12, 91), (89, 11, 90)] 96 h h11 := by rw [hh11]; exact Nu.made z s10 (by omega) (by decide)
  obtain ⟨h12, hh12⟩ : ∃ q, q = sR h11 89 16 (some 95) := ⟨_, rfl⟩
  have k12 : ∀ F L S, i_putR 11 16 F L (.ref 95 :: .ref 89 :: S) h11 = F L S h12 := fun F L S => by rw [hh12]; exact k_putR s11.1 (by decide)
  have s12 : Nu [(89, 16, 95), (89, 15, 94), (89, 14, 93), (89, 13, 92), (89, 12, 91), (89, 11, 90)] 96 h h12 := by rw [hh12]; exact s11.set1 89 16 95
  obtain ⟨h13, hh13⟩ : ∃ q, q = nw h12 := ⟨_, rfl⟩
  have k13 : ∀ F L S, i_newarr 3 10 F L (.int 10 :: S) h12 = F L (.ref 96 :: S) h13 := fun F L S => by rw [hh13]; exact k_newarr s12.1 s12.2.1 (by decide)
  have s13 : Nu [(89, 16, 95), (89, 15, 94), (89, 14, 93), (89, 13, 92), (89, 12, 91), (89, 11, 90)] 97 h h13 := by rw [hh13]; exact Nu.made z s12 (by omega) (by decide)
  obtain ⟨h14, hh14⟩ : ∃ q, q = sR h13 89 17 (some 96) := ⟨_, rfl⟩
  have k14 : ∀ F L S, i_putR 11 17 F L (.ref 96 :: .ref 89 :: S) h13 = F L S h14 := fun F L S => by rw [hh14]; exact k_putR s13.1 (by decide)
  have s14 : Nu [(89, 17, 96), (89, 16, 95), (89, 15, 94), (89, 14, 93), (89, 13, 92), (89, 12, 91), (89, 11, 90)] 97 h h14 := by rw [hh14]; exact s13.set1 89 17 96
  obtain ⟨h15, hh15⟩ : ∃ q, q = nw h14 := ⟨_, rfl⟩
  have k15 : ∀ F L S, i_newarr 1 10 F L (.int 10 :: S) h14 = F L (.ref 97 :: S) h15 := fun F L S => by rw [hh15]; exact k_newarr s14.1 s14.2.1 (by decide)
  have s15 : Nu [(89, 17, 96), (89, 16, 95), (89, 15, 94), (89, 14, 93), (89, 13, 92), (89, 12, 91), (89, 11, 90)] 98 h h15 := by rw [hh15]; exact Nu.made z s14 (by omega) (by decide)
  obtain ⟨h16, hh16⟩ : ∃ q, q = sR h15 89 18 (some 97) := ⟨_, rfl⟩
  have k16 : ∀ F L S, i_putR 11 18 F L (.ref 97 :: .ref 89 :: S) h15 = F L S h16 := fun F L S => by rw [hh16]; exact k_putR s15.1 (by decide)
  have s16 : Nu [(89, 18, 97), (89, 17, 96), (89, 16, 95), (89, 15, 94), (89, 14, 93), (89, 13, 92), (89, 12, 91), (89, 11, 90)] 98 h h16 := by rw [hh16]; exact s15.set1 89 18 97
  obtain ⟨h17, hh17⟩ : ∃ q, q = nw h16 := ⟨_, rfl⟩
  have k17 : ∀ F L S, i_newarr 1 10 F L (.int 10 :: S) h16 = F L (.ref 98 :: S) h17 := fun F L S => by rw [hh17]; exact k_newarr s16.1 s16.2.1 (by decide)
  have s17 : Nu [(89, 18, 97), (89, 17, 96), (89, 16, 95), (89, 15, 94), (89, 14, 93), (89, 13, 92), (89, 12, 91), (89, 11, 90)] 99 h h17 := by rw [hh17]; exact Nu.made z s16 (by omega) (by decide)
  obtain ⟨h18, hh18⟩ : ∃ q, q = sR h17 89 19 (some 98) := ⟨_, rfl⟩
  have k18 : ∀ F L S, i_putR 11 19 F L (.ref 98 :: .ref 89 :: S) h17 = F L S h18 := fun F L S => by rw [hh18]; exact k_putR s17.1 (by decide)
  have s18 : Nu [(89, 19, 98), (89, 18, 97), (89, 17, 96), (89, 16, 95), (89, 15, 94), (89, 14, 93), (89, 13, 92), (89, 12, 91), (89, 11, 90)] 99 h h18 := by rw [hh18]; exact s17.set1 89 19 98
  obtain ⟨h19, hh19⟩ : ∃ q, q = nw h18 := ⟨_, rfl⟩
  have k19 : ∀ F L S, i_newarr 1 12 F L (.int 12 :: S) h18 = F L (.ref 99 :: S) h19 := fun F L S => by rw [hh19]; exact k_newarr s18.1 s18.2.1 (by decide)
  have s19 : Nu [(89, 19, 98), (89, 18, 97), (89, 17, 96), (89, 16, 95), (89, 15, 94), (89, 14, 93), (89, 13, 92), (89, 12, 91), (89, 11, 90)] 100 h h19 := by rw [hh19]; exact Nu.made z s18 (by omega) (by decide)
  obtain ⟨h20, hh20⟩ : ∃ q, q = sR h19 89 20 (some 99) := ⟨_, rfl⟩
  have k20 : ∀ F L S, i_putR 11 20 F L (.ref 99 :: .ref 89 :: S) h19 = F L S h20 := fun F L S => by rw [hh20]; exact k_putR s19.1 (by decide)
  have s20 : Nu [(89, 20, 99), (89, 19, 98), (89, 18, 97), (89, 17, 96), (89, 16, 95), (89, 15, 94), (89, 14, 93), (89, 13, 92), (89, 12, 91), (89, 11, 90)] 100 h h20 := by rw [hh20]; exact s19.set1 89 20 99
  obtain ⟨h21, hh21⟩ : ∃ q, q = nw h20 := ⟨_, rfl⟩
  have k21 : ∀ F L S, i_newarr 1 12 F L (.int 12 :: S) h20 = F L (.ref 100 :: S) h21 := fun F L S => by rw [hh21]; exact k_newarr s20.1 s20.2.1 (by decide)
  have s21 : Nu [(89, 20, 99), (89, 19, 98), (89, 18, 97), (89, 17, 96), (89, 16, 95), (89, 15, 94), (89, 14, 93), (89, 13, 92), (89, 12, 91), (89, 11, 90)] 101 h h21 := by rw [hh21]; exact Nu.made z s20 (by omega) (by decide)
  obtain ⟨h22, hh22⟩ : ∃ q, q = sR h21 89 21 (some 100) := ⟨_, rfl⟩
  have k22 : ∀ F L S, i_putR 11 21 F L (.ref 100 :: .ref 89 :: S) h21 = F L S h22 := fun F L S => by rw [hh22]; exact k_putR s21.1 (by decide)
  have s22 : Nu [(89, 21, 100), (89, 20, 99), (89, 19, 98), (89, 18, 97), (89, 17, 96), (89, 16, 95), (89, 15, 94), (89, 14, 93), (89, 13, 92), (89, 12, 91), (89, 11, 90)] 101 h h22 := by rw [hh22]; exact s21.set1 89 21 100
  obtain ⟨h23, hh23⟩ : ∃ q, q = nw h22 := ⟨_, rfl⟩
  have k23 : ∀ F L S, i_newarr 1 12 F L (.int 12 :: S) h22 = F L (.ref 101 :: S) h23 := fun F L S => by rw [hh23]; exact k_newarr s22.1 s22.2.1 (by decide)
  have s23 : Nu [(89, 21, 100), (89, 20, 99), (89, 19, 98), (89, 18, 97), (89, 17, 96), (89, 16, 95), (89, 15, 94), (89, 14, 93), (89, 13, 92), (89, 12, 91), (89, 11, 90)] 102 h h23 := by rw [hh23]; exact Nu.made z s22 (by omega) (by decide)
  obtain ⟨h24, hh24⟩ : ∃ q, q = sR h23 89 22 (some 101) := ⟨_, rfl⟩
  have k24 : ∀ F L S, i_putR 11 22 F L (.ref 101 :: .ref 89 :: S) h23 = F L S h24 := fun F L S => by rw [hh24]; exact k_putR s23.1 (by decide)
  have s24 : Nu [(89, 22, 101), (89, 21, 100), (89, 20, 99), (89, 19, 98), (89, 18, 97), (89, 17, 96), (89, 16, 95), (89, 15, 94), (89, 14, 93), (89, 13, 92), (89, 12, 91), (89, 11, 90)] 102 h h24 := by rw [hh24]; exact s23.set1 89 22 101
  obtain ⟨h25, hh25⟩ : ∃ q, q = nw h24 := ⟨_, rfl⟩
  have k25 : ∀ F L S, i_newarr 3 5 F L (.int 5 :: S) h24 = F L (.ref 102 :: S) h25 := fun F L S => by rw [hh25]; exact k_newarr s24.1 s24.2.1 (by decide)
  have s25 : Nu [(89, 22, 101), (89, 21, 100), (89, 20, 99), (89, 19, 98), (89, 18, 97), (89, 17, 96), (89, 16, 95), (89, 15, 94), (89, 14, 93), (89, 13, 92), (89, 12, 91), (89, 11, 90)] 103 h h25 := by rw [hh25]; exact Nu.made z s24 (by omega) (by decide)
  obtain ⟨h26, hh26⟩ : ∃ q, q = sR h25 89 23 (some 102) := ⟨_, rfl⟩
  have k26 : ∀ F L S, i_putR 11 23 F L (.ref 102 :: .ref 89 :: S) h25 = F L S h26 := fun F L S => by rw [hh26]; exact k_putR s25.1 (by decide)
  have s26 : Nu [(89, 23, 102), (89, 22, 101), (89, 21, 100), (89, 20, 99), (89, 19, 98), (89, 18, 97), (89, 17, 96), (89, 16, 95), (89, 15, 94), (89, 14, 93), (89, 13, 92), (89, 12, 91), (89, 11, 90)] 103 h h26 := by rw [hh26]; exact s25.set1 89 23 102
  obtain ⟨h27, hh27⟩ : ∃ q, q = nw h26 := ⟨_, rfl⟩
  have k27 : ∀ F L S, i_newarr 1 5 F L (.int 5 :: S) h26 = F L (.ref 103 :: S) h27 := fun F L S => by rw [hh27]; exact k_newarr s26.1 s26.2.1 (by decide)
  have s27 : Nu [(89, 23, 102), (89, 22, 101), (89, 21, 100), (89, 20, 99), (89, 19, 98), (89, 18, 97), (89, 17, 96), (89, 16, 95), (89, 15, 94), (89, 14, 93), (89, 13, 92), (89, 12, 91), (89, 11, 90)] 104 h h27 := by rw [hh27]; exact Nu.made z s26 (by omega) (by decide)
  obtain ⟨h28, hh28⟩ : ∃ q, q = sR h27 89 24 (some 103) := ⟨_, rfl⟩
  have k28 : ∀ F L S, i_putR 11 24 F L (.ref 103 :: .ref 89 :: S) h27 = F L S h28 := fun F L S => by rw [hh28]; exact k_putR s27.1 (by decide)
  have s28 : Nu [(89, 24, 103), (89, 23, 102), (89, 22, 101), (89, 21, 100), (89, 20, 99), (89, 19, 98), (89, 18, 97), (89, 17, 96), (89, 16, 95), (89, 15, 94), (89, 14, 93), (89, 13, 92), (89, 12, 91), (89, 11, 90)] 104 h h28 := by rw [hh28]; exact s27.set1 89 24 103
  obtain ⟨h29, hh29⟩ : ∃ q, q = nw h28 := ⟨_, rfl⟩
  have k29 : ∀ F L S, i_newarr 1 5 F L (.int 5 :: S) h28 = F L (.ref 104 :: S) h29 := fun F L S => by rw [hh29]; exact k_newarr s28.1 s28.2.1 (by decide)
  have s29 : Nu [(89, 24, 103), (89, 23, 102), (89, 22, 101), (89, 21, 100), (89, 20, 99), (89, 19, 98), (89, 18, 97), (89, 17, 96), (89, 16, 95), (89, 15, 94), (89, 14, 93), (89, 13, 92), (89, 12, 91), (89, 11, 90)] 105 h h29 := by rw [hh29]; exact Nu.made z s28 (by omega) (by decide)
  obtain ⟨h30, hh30⟩ : ∃ q, q = sR h29 89 25 (some 104) := ⟨_, rfl⟩
  have k30 : ∀ F L S, i_putR 11 25 F L (.ref 104 :: .ref 89 :: S) h29 = F L S h30 := fun F L S => by rw [hh30]; exact k_putR s29.1 (by decide)
  have s30 : Nu [(89, 25, 104), (89, 24, 103), (89, 23, 102), (89, 22, 101), (89, 21, 100), (89, 20, 99), (89, 19, 98), (89, 18, 97), (89, 17, 96), (89, 16, 95), (89, 15, 94), (89, 14, 93), (89, 13, 92), (89, 12, 91), (89, 11, 90)] 105 h h30 := by rw [hh30]; exact s29.set1 89 25 104
  obtain ⟨h31, hh31⟩ : ∃ q, q = nw h30 := ⟨_, rfl⟩
  have k31 : ∀ F L S, i_newarr 1 15 F L (.int 15 :: S) h30 = F L (.ref 105 :: S) h31 := fun F L S => by rw [hh31]; exact k_newarr s30.1 s30.2.1 (by decide)
  have s31 : Nu [(89, 25, 104), (89, 24, 103), (89, 23, 102), (89, 22, 101), (89, 21, 100), (89, 20, 99), (89, 19, 98), (89, 18, 97), (89, 17, 96), (89, 16, 95), (89, 15, 94), (89, 14, 93), (89, 13, 92), (89, 12, 91), (89, 11, 90)] 106 h h31 := by rw [hh31]; exact Nu.made z s30 (by omega) (by decide)
  obtain ⟨h32, hh32⟩ : ∃ q, q = sR h31 89 26 (some 105) := ⟨_, rfl⟩
  have k32 : ∀ F L S, i_putR 11 26 F L (.ref 105 :: .ref 89 :: S) h31 = F L S h32 := fun F L S => by rw [hh32]; exact k_putR s31.1 (by decide)
  have s32 : Nu [(89, 26, 105), (89, 25, 104), (89, 24, 103), (89, 23, 102), (89, 22, 101), (89, 21, 100), (89, 20, 99), (89, 19, 98), (89, 18, 97), (89, 17, 96), (89, 16, 95), (89, 15, 94), (89, 14, 93), (89, 13, 92), (89, 12, 91), (89, 11, 90)] 106 h h32 := by rw [hh32]; exact s31.set1 89 26 105
  obtain ⟨h33, hh33⟩ : ∃ q, q = nw h32 := ⟨_, rfl⟩
  have k33 : ∀ F L S, i_newarr 1 5 F L (.int 5 :: S) h32 = F L (.ref 106 :: S) h33 := fun F L S => by rw [hh33]; exact k_newarr s32.1 s32.2.1 (by decide)
  have s33 : Nu [(89, 26, 105), (89, 25, 104), (89, 24, 103), (89, 23, 102), (89, 22, 101), (89, 21, 100), (89, 20, 99), (89, 19, 98), (89, 18, 97), (89, 17, 96), (89, 16, 95), (89, 15, 94), (89, 14, 93), (89, 13, 92), (89, 12, 91), (89, 11, 90)] 107 h h33 := by rw [hh33]; exact Nu.made z s32 (by omega) (by decide)
  obtain ⟨h34, hh34⟩ : ∃ q, q = sR h33 89 27 (some 106) := ⟨_, rfl⟩
  have k34 : ∀ F L S, i_putR 11 27 F L (.ref 106 :: .ref 89 :: S) h33 = F L S h34 := fun F L S => by rw [hh34]; exact k_putR s33.1 (by decide)
  have s34 : Nu [(89, 27, 106), (89, 26, 105), (89, 25, 104), (89, 24, 103), (89, 23, 102), (89, 22, 101), (89, 21, 100), (89, 20, 99), (89, 19, 98), (89, 18, 97), (89, 17, 96), (89, 16, 95), (89, 15, 94), (89, 14, 93), (89, 13, 92), (89, 12, 91), (89, 11, 90)] 107 h h34 := by rw [hh34]; exact s33.set1 89 27 106
  obtain ⟨h35, hh35⟩ : ∃ q, q = nw h34 := ⟨_, rfl⟩
  have k35 : ∀ F L S, i_newarr 1 5 F L (.int 5 :: S) h34 = F L (.ref 107 :: S) h35 := fun F L S => by rw [hh35]; exact k_newarr s34.1 s34.2.1 (by decide)
  have s35 : Nu [(89, 27, 106), (89, 26, 105), (89, 25, 104), (89, 24, 103), (89, 23, 102), (89, 22, 101), (89, 21, 100), (89, 20, 99), (89, 19, 98), (89, 18, 97), (89, 17, 96), (89, 16, 95), (89, 15, 94), (89, 14, 93), (89, 13, 92), (89, 12, 91), (89, 11, 90)] 108 h h35 := by rw [hh35]; exact Nu.made z s34 (by omega) (by decide)
  obtain ⟨h36, hh36⟩ : ∃ q, q = sR h35 89 28 (some 107) := ⟨_, rfl⟩
  have k36 : ∀ F L S, i_putR 11 28 F L (.ref 107 :: .ref 89 :: S) h35 = F L S h36 := fun F L S => by rw [hh36]; exact k_putR s35.1 (by decide)
  have s36 : Nu [(89, 28, 107), (89, 27, 106), (89, 26, 105), (89, 25, 104), (89, 24, 103), (89, 23, 102), (89, 22, 101), (89, 21, 100), (89, 20, 99), (89, 19, 98), (89, 18, 97), (89, 17, 96), (89, 16, 95), (89, 15, 94), (89, 14, 93), (89, 13, 92), (89, 12, 91), (89, 11, 90)] 108 h h36 := by rw [hh36]; exact s35.set1 89 28 107
  obtain ⟨h37, hh37⟩ : ∃ q, q = nw h36 := ⟨_, rfl⟩
  have k37 : ∀ F L S, i_newarr 1 5 F L (.int 5 :: S) h36 = F L (.ref 108 :: S) h37 := fun F L S => by rw [hh37]; exact k_newarr s36.1 s36.2.1 (by decide)
  have s37 : Nu [(89, 28, 107), (89, 27, 106), (89, 26, 105), (89, 25, 104), (89, 24, 103), (89, 23, 102), (89, 22, 101), (89, 21, 100), (89, 20, 99), (89, 19, 98), (89, 18, 97), (89, 17, 96), (89, 16, 95), (89, 15, 94), (89, 14, 93), (89, 13, 92), (89, 12, 91), (89, 11, 90)] 109 h h37 := by rw [hh37]; exact Nu.made z s36 (by omega) (by decide)
  obtain ⟨h38, hh38⟩ : ∃ q, q = sR h37 89 29 (some 108) := ⟨_, rfl⟩
  have k38 : ∀ F L S, i_putR 11 29 F L (.ref 108 :: .ref 89 :: S) h37 = F L S h38 := fun F L S => by rw [hh38]; exact k_putR s37.1 (by decide)
  have s38 : Nu [(89, 29, 108), (89, 28, 107), (89, 27, 106), (89, 26, 105), (89, 25, 104), (89, 24, 103), (89, 23, 102), (89, 22, 101), (89, 21, 100), (89, 20, 99), (89, 19, 98), (89, 18, 97), (89, 17, 96), (89, 16, 95), (89, 15, 94), (89, 14, 93), (89, 13, 92), (89, 12, 91), (89, 11, 90)] 109 h h38 := by rw [hh38]; exact s37.set1 89 29 108
  obtain ⟨h39, hh39⟩ : ∃ q, q = nw h38 := ⟨_, rfl⟩
  have k39 : ∀ F L S, i_newarr 1 5 F L (.int 5 :: S) h38 = F L (.ref 109 :: S) h39 := fun F L S => by rw [hh39]; exact k_newarr s38.1 s38.2.1 (by decide)
  have s39 : Nu [(89, 29, 108), (89, 28, 107), (89, 27, 106), (89, 26, 105), (89, 25, 104), (89, 24, 103), (89, 23, 102), (89, 22, 101), (89, 21, 100), (89, 20, 99), (89, 19, 98), (89, 18, 97), (89, 17, 96), (89, 16, 95), (89, 15, 94), (89, 14, 93), (89, 13, 92), (89, 12, 91), (89, 11, 90)] 110 h h39 := by rw [hh39]; exact Nu.made z s38 (by omega) (by decide)
  obtain ⟨h40, hh40⟩ : ∃ q, q = sR h39 89 30 (some 109) := ⟨_, rfl⟩
  have k40 : ∀ F L S, i_putR 11 30 F L (.ref 109 :: .ref 89 :: S) h39 = F L S h40 := fun F L S => by rw [hh40]; exact k_putR s39.1 (by decide)
  have s40 : Nu [(89, 30, 109), (89, 29, 108), (89, 28, 107), (89, 27, 106), (89, 26, 105), (89, 25, 104), (89, 24, 103), (89, 23, 102), (89, 22, 101), (89, 21, 100), (89, 20, 99), (89, 19, 98), (89, 18, 97), (89, 17, 96), (89, 16, 95), (89, 15, 94), (89, 14, 93), (89, 13, 92), (89, 12, 91), (89, 11, 90)] 110 h h40 := by rw [hh40]; exact s39.set1 89 30 109
  obtain ⟨h41, hh41⟩ : ∃ q, q = nw h40 := ⟨_, rfl⟩
  have k41 : ∀ F L S, i_newarr 1 220 F L (.int 220 :: S) h40 = F L (.ref 110 :: S) h41 := fun F L S => by rw [hh41]; exact k_newarr s40.1 s40.2.1 (by decide)
  have s41 : Nu [(89, 30, 109), (89, 29, 108), (89, 28, 107), (89, 27, 106), (89, 26, 105), (89, 25, 104), (89, 24, 103), (89, 23, 102), (89, 22, 101), (89, 21, 100), (89, 20, 99), (89, 19, 98), (89, 18, 97), (89, 17, 96), (89, 16, 95), (89, 15, 94), (89, 14, 93), (89, 13, 92), (89, 12, 91), (89, 11, 90)] 111 h h41 := by rw [hh41]; exact Nu.made z s40 (by omega) (by decide)
  obtain ⟨h42, hh42⟩ : ∃ q, q = sR h41 89 31 (some 110) := ⟨_, rfl⟩
  have k42 : ∀ F L S, i_putR 11 31 F L (.ref 110 :: .ref 89 :: S) h41 = F L S h42 := fun F L S => by rw [hh42]; exact k_putR s41.1 (by decide)
  have s42 : Nu [(89, 31, 110), (89, 30, 109), (89, 29, 108), (89, 28, 107), (89, 27, 106), (89, 26, 105), (89, 25, 104), (89, 24, 103), (89, 23, 102), (89, 22, 101), (89, 21, 100), (89, 20, 99), (89, 19, 98), (89, 18, 97), (89, 17, 96), (89, 16, 95), (89, 15, 94), (89, 14, 93), (89, 13, 92), (89, 12, 91), (89, 11, 90)] 111 h h42 := by rw [hh42]; exact s41.set1 89 31 110
  obtain ⟨h43, hh43⟩ : ∃ q, q = nw h42 := ⟨_, rfl⟩
  have k43 : ∀ F L S, i_newarr 3 33 F L (.int 33 :: S) h42 = F L (.ref 111 :: S) h43 := fun F L S => by rw [hh43]; exact k_newarr s42.1 s42.2.1 (by decide)
  have s43 : Nu [(89, 31, 110), (89, 30, 109), (89, 29, 108), (89, 28, 107), (89, 27, 106), (89, 26, 105), (89, 25, 104), (89, 24, 103), (89, 23, 102), (89, 22, 101), (89, 21, 100), (89, 20, 99), (89, 19, 98), (89, 18, 97), (89, 17, 96), (89, 16, 95), (89, 15, 94), (89, 14, 93), (89, 13, 92), (89, 12, 91), (89, 11, 90)] 112 h h43 := by rw [hh43]; exact Nu.made z s42 (by omega) (by decide)
  obtain ⟨h44, hh44⟩ : ∃ q, q = sR h43 89 32 (some 111) := ⟨_, rfl⟩
  have k44 : ∀ F L S, i_putR 11 32 F L (.ref 111 :: .ref 89 :: S) h43 = F L S h44 := fun F L S => by rw [hh44]; exact k_putR s43.1 (by decide)
  have s44 : Nu [(89, 32, 111), (89, 31, 110), (89, 30, 109), (89, 29, 108), (89, 28, 107), (89, 27, 106), (89, 26, 105), (89, 25, 104), (89, 24, 103), (89, 23, 102), (89, 22, 101), (89, 21, 100), (89, 20, 99), (89, 19, 98), (89, 18, 97), (89, 17, 96), (89, 16, 95), (89, 15, 94), (89, 14, 93), (89, 13, 92), (89, 12, 91), (89, 11, 90)] 112 h h44 := by rw [hh44]; exact s43.set1 89 32 111
  obtain ⟨h45, hh45⟩ : ∃ q, q = nw h44 := ⟨_, rfl⟩
  have k45 : ∀ F L S, i_newarr 1 10 F L (.int 10 :: S) h44 = F L (.ref 112 :: S) h45 := fun F L S => by rw [hh45]; exact k_newarr s44.1 s44.2.1 (by decide)
  have s45 : Nu [(89, 32, 111), (89, 31, 110), (89, 30, 109), (89, 29, 108), (89, 28, 107), (89, 27, 106), (89, 26, 105), (89, 25, 104), (89, 24, 103), (89, 23, 102), (89, 22, 101), (89, 21, 100), (89, 20, 99), (89, 19, 98), (89, 18, 97), (89, 17, 96), (89, 16, 95), (89, 15, 94), (89, 14, 93), (89, 13, 92), (89, 12, 91), (89, 11, 90)] 113 h h45 := by rw [hh45]; exact Nu.made z s44 (by omega) (by decide)
  obtain ⟨h46, hh46⟩ : ∃ q, q = sR h45 89 35 (some 112) := ⟨_, rfl⟩
  have k46 : ∀ F L S, i_putR 11 35 F L (.ref 112 :: .ref 89 :: S) h45 = F L S h46 := fun F L S => by rw [hh46]; exact k_putR s45.1 (by decide)
  have s46 : Nu [(89, 35, 112), (89, 32, 111), (89, 31, 110), (89, 30, 109), (89, 29, 108), (89, 28, 107), (89, 27, 106), (89, 26, 105), (89, 25, 104), (89, 24, 103), (89, 23, 102), (89, 22, 101), (89, 21, 100), (89, 20, 99), (89, 19, 98), (89, 18, 97), (89, 17, 96), (89, 16, 95), (89, 15, 94), (89, 14, 93), (89, 13, 92), (89, 12, 91), (89, 11, 90)] 113 h h46 := by rw [hh46]; exact s45.set1 89 35 112
  obtain ⟨h47, hh47⟩ : ∃ q, q = nw h46 := ⟨_, rfl⟩
  have k47 : ∀ F L S, i_newarr 1 1000 F L (.int 1000 :: S) h46 = F L (.ref 113 :: S) h47 := fun F L S => by rw [hh47]; exact k_newarr s46.1 s46.2.1 (by decide)
  have s47 : Nu [(89, 35, 112), (89, 32, 111), (89, 31, 110), (89, 30, 109), (89, 29, 108), (89, 28, 107), (89, 27, 106), (89, 26, 105), (89, 25, 104), (89, 24, 103), (89, 23, 102), (89, 22, 101), (89, 21, 100), (89, 20, 99), (89, 19, 98), (89, 18, 97), (89, 17, 96), (89, 16, 95), (89, 15, 94), (89, 14, 93), (89, 13, 92), (89, 12, 91), (89, 11, 90)] 114 h h47 := by rw [hh47]; exact Nu.made z s46 (by omega) (by decide)
  obtain ⟨h48, hh48⟩ : ∃ q, q = sR h47 89 36 (some 113) := ⟨_, rfl⟩
  have k48 : ∀ F L S, i_putR 11 36 F L (.ref 113 :: .ref 89 :: S) h47 = F L S h48 := fun F L S => by rw [hh48]; exact k_putR s47.1 (by decide)
  have s48 : Nu [(89, 36, 113), (89, 35, 112), (89, 32, 111), (89, 31, 110), (89, 30, 109), (89, 29, 108), (89, 28, 107), (89, 27, 106), (89, 26, 105), (89, 25, 104), (89, 24, 103), (89, 23, 102), (89, 22, 101), (89, 21, 100), (89, 20, 99), (89, 19, 98), (89, 18, 97), (89, 17, 96), (89, 16, 95), (89, 15, 94), (89, 14, 93), (89, 13, 92), (89, 12, 91), (89, 11, 90)] 114 h h48 := by rw [hh48]; exact s47.set1 89 36 113
  obtain ⟨b1, hb1⟩ : ∃ q, q = sI h 89 39 (-1) := ⟨_, rfl⟩
  obtain ⟨h49, hh49⟩ : ∃ q, q = sI h48 89 39 (-1) := ⟨_, rfl⟩
  have k49 : ∀ F L S, i_putI 11 39 F L (.int (-1) :: .ref 89 :: S) h48 = F L S h49 := fun F L S => by rw [hh49]; exact k_putI s48.1 (by decide)
  have s49 : Nu [(89, 36, 113), (89, 35, 112), (89, 32, 111), (89, 31, 110), (89, 30, 109), (89, 29, 108), (89, 28, 107), (89, 27, 106), (89, 26, 105), (89, 25, 104), (89, 24, 103), (89, 23, 102), (89, 22, 101), (89, 21, 100), (89, 20, 99), (89, 19, 98), (89, 18, 97), (89, 17, 96), (89, 16, 95), (89, 15, 94), (89, 14, 93), (89, 13, 92), (89, 12, 91), (89, 11, 90)] 114 b1 h49 := by rw [hh49, hb1]; exact s48.setI 89 39 (-1)
  have z1 : Zc 90 b1 := by rw [hb1]; exact z.setI (by omega) 39 (-1)
  obtain ⟨h50, hh50⟩ : ∃ q, q = nw h49 := ⟨_, rfl⟩
  have k50 : ∀ F L S, i_newarr 1 144 F L (.int 144 :: S) h49 = F L (.ref 114 :: S) h50 := fun F L S => by rw [hh50]; exact k_newarr s49.1 s49.2.1 (by decide)
  have s50 : Nu [(89, 36, 113), (89, 35, 112), (89, 32, 111), (89, 31, 110), (89, 30, 109), (89, 29, 108), (89, 28, 107), (89, 27, 106), (89, 26, 105), (89, 25, 104), (89, 24, 103), (89, 23, 102), (89, 22, 101), (89, 21, 100), (89, 20, 99), (89, 19, 98), (89, 18, 97), (89, 17, 96), (89, 16, 95), (89, 15, 94), (89, 14, 93), (89, 13, 92), (89, 12, 91), (89, 11, 90)] 115 b1 h50 := by rw [hh50]; exact Nu.made z1 s49 (by omega) (by decide)
  obtain ⟨h51, hh51⟩ : ∃ q, q = sR h50 89 53 (some 114) := ⟨_, rfl⟩
  have k51 : ∀ F L S, i_putR 11 53 F L (.ref 114 :: .ref 89 :: S) h50 = F L S h51 := fun F L S => by rw [hh51]; exact k_putR s50.1 (by decide)
  have s51 : Nu [(89, 53, 114), (89, 36, 113), (89, 35, 112), (89, 32, 111), (89, 31, 110), (89, 30, 109), (89, 29, 108), (89, 28, 107), (89, 27, 106), (89, 26, 105), (89, 25, 104), (89, 24, 103), (89, 23, 102), (89, 22, 101), (89, 21, 100), (89, 20, 99), (89, 19, 98), (89, 18, 97), (89, 17, 96), (89, 16, 95), (89, 15, 94), (89, 14, 93), (89, 13, 92), (89, 12, 91), (89, 11, 90)] 115 b1 h51 := by rw [hh51]; exact s50.set1 89 53 114
  obtain ⟨h52, hh52⟩ : ∃ q, q = nw h51 := ⟨_, rfl⟩
  have k52 : ∀ F L S, i_newarr 1 1024 F L (.int 1024 :: S) h51 = F L (.ref 115 :: S) h52 := fun F L S => by rw [hh52]; exact k_newarr s51.1 s51.2.1 (by decide)
  have s52 : Nu [(89, 53, 114), (89, 36, 113), (89, 35, 112), (89, 32, 111), (89, 31, 110), (89, 30, 109), (89, 29, 108), (89, 28, 107), (89, 27, 106), (89, 26, 105), (89, 25, 104), (89, 24, 103), (89, 23, 102), (89, 22, 101), (89, 21, 100), (89, 20, 99), (89, 19, 98), (89, 18, 97), (89, 17, 96), (89, 16, 95), (89, 15, 94), (89, 14, 93), (89, 13, 92), (89, 12, 91), (89, 11, 90)] 116 b1 h52 := by rw [hh52]; exact Nu.made z1 s51 (by omega) (by decide)
  obtain ⟨h53, hh53⟩ : ∃ q, q = sR h52 89 54 (some 115) := ⟨_, rfl⟩
  have k53 : ∀ F L S, i_putR 11 54 F L (.ref 115 :: .ref 89 :: S) h52 = F L S h53 := fun F L S => by rw [hh53]; exact k_putR s52.1 (by decide)
  have s53 : Nu [(89, 54, 115), (89, 53, 114), (89, 36, 113), (89, 35, 112), (89, 32, 111), (89, 31, 110), (89, 30, 109), (89, 29, 108), (89, 28, 107), (89, 27, 106), (89, 26, 105), (89, 25, 104), (89, 24, 103), (89, 23, 102), (89, 22, 101), (89, 21, 100), (89, 20, 99), (89, 19, 98), (89, 18, 97), (89, 17, 96), (89, 16, 95), (89, 15, 94), (89, 14, 93), (89, 13, 92), (89, 12, 91), (89, 11, 90)] 116 b1 h53 := by rw [hh53]; exact s52.set1 89 54 115
  obtain ⟨h54, hh54⟩ : ∃ q, q = nw h53 := ⟨_, rfl⟩
  have k54 : ∀ F L S, i_newarr 1 10 F L (.int 10 :: S) h53 = F L (.ref 116 :: S) h54 := fun F L S => by rw [hh54]; exact k_newarr s53.1 s53.2.1 (by decide)
  have s54 : Nu [(89, 54, 115), (89, 53, 114), (89, 36, 113), (89, 35, 112), (89, 32, 111), (89, 31, 110), (89, 30, 109), (89, 29, 108), (89, 28, 107), (89, 27, 106), (89, 26, 105), (89, 25, 104), (89, 24, 103), (89, 23, 102), (89, 22, 101), (89, 21, 100), (89, 20, 99), (89, 19, 98), (89, 18, 97), (89, 17, 96), (89, 16, 95), (89, 15, 94), (89, 14, 93), (89, 13, 92), (89, 12, 91), (89, 11, 90)] 117 b1 h54 := by rw [hh54]; exact Nu.made z1 s53 (by omega) (by decide)
  obtain ⟨h55, hh55⟩ : ∃ q, q = sR h54 89 56 (some 116) := ⟨_, rfl⟩
  have k55 : ∀ F L S, i_putR 11 56 F L (.ref 116 :: .ref 89 :: S) h54 = F L S h55 := fun F L S => by rw [hh55]; exact k_putR s54.1 (by decide)
  have s55 : Nu [(89, 56, 116), (89, 54, 115), (89, 53, 114), (89, 36, 113), (89, 35, 112), (89, 32, 111), (89, 31, 110), (89, 30, 109), (89, 29, 108), (89, 28, 107), (89, 27, 106), (89, 26, 105), (89, 25, 104), (89, 24, 103), (89, 23, 102), (89, 22, 101), (89, 21, 100), (89, 20, 99), (89, 19, 98), (89, 18, 97), (89, 17, 96), (89, 16, 95), (89, 15, 94), (89, 14, 93), (89, 13, 92), (89, 12, 91), (89, 11, 90)] 117 b1 h55 := by rw [hh55]; exact s54.set1 89 56 116
  obtain ⟨h56, hh56⟩ : ∃ q, q = nw h55 := ⟨_, rfl⟩
  have k56 : ∀ F L S, i_newarr 1 6 F L (.int 6 :: S) h55 = F L (.ref 117 :: S) h56 := fun F L S => by rw [hh56]; exact k_newarr s55.1 s55.2.1 (by decide)
  have s56 : Nu [(89, 56, 116), (89, 54, 115), (89, 53, 114), (89, 36, 113), (89, 35, 112), (89, 32, 111), (89, 31, 110), (89, 30, 109), (89, 29, 108), (89, 28, 107), (89, 27, 106), (89, 26, 105), (89, 25, 104), (89, 24, 103), (89, 23, 102), (89, 22, 101), (89, 21, 100), (89, 20, 99), (89, 19, 98), (89, 18, 97), (89, 17, 96), (89, 16, 95), (89, 15, 94), (89, 14, 93), (89, 13, 92), (89, 12, 91), (89, 11, 90)] 118 b1 h56 := by rw [hh56]; exact Nu.made z1 s55 (by omega) (by decide)
  obtain ⟨h57, hh57⟩ : ∃ q, q = sR h56 89 57 (some 117) := ⟨_, rfl⟩
  have k57 : ∀ F L S, i_putR 11 57 F L (.ref 117 :: .ref 89 :: S) h56 = F L S h57 := fun F L S => by rw [hh57]; exact k_putR s56.1 (by decide)
  have s57 : Nu [(89, 57, 117), (89, 56, 116), (89, 54, 115), (89, 53, 114), (89, 36, 113), (89, 35, 112), (89, 32, 111), (89, 31, 110), (89, 30, 109), (89, 29, 108), (89, 28, 107), (89, 27, 106), (89, 26, 105), (89, 25, 104), (89, 24, 103), (89, 23, 102), (89, 22, 101), (89, 21, 100), (89, 20, 99), (89, 19, 98), (89, 18, 97), (89, 17, 96), (89, 16, 95), (89, 15, 94), (89, 14, 93), (89, 13, 92), (89, 12, 91), (89, 11, 90)] 118 b1 h57 := by rw [hh57]; exact s56.set1 89 57 117
  obtain ⟨h58, hh58⟩ : ∃ q, q = nw h57 := ⟨_, rfl⟩
  have k58 : ∀ F L S, i_newarr 1 5 F L (.int 5 :: S) h57 = F L (.ref 118 :: S) h58 := fun F L S => by rw [hh58]; exact k_newarr s57.1 s57.2.1 (by decide)
  have s58 : Nu [(89, 57, 117), (89, 56, 116), (89, 54, 115), (89, 53, 114), (89, 36, 113), (89, 35, 112), (89, 32, 111), (89, 31, 110), (89, 30, 109), (89, 29, 108), (89, 28, 107), (89, 27, 106), (89, 26, 105), (89, 25, 104), (89, 24, 103), (89, 23, 102), (89, 22, 101), (89, 21, 100), (89, 20, 99), (89, 19, 98), (89, 18, 97), (89, 17, 96), (89, 16, 95), (89, 15, 94), (89, 14, 93), (89, 13, 92), (89, 12, 91), (89, 11, 90)] 119 b1 h58 := by rw [hh58]; exact Nu.made z1 s57 (by omega) (by decide)
  obtain ⟨h59, hh59⟩ : ∃ q, q = sR h58 89 61 (some 118) := ⟨_, rfl⟩
  have k59 : ∀ F L S, i_putR 11 61 F L (.ref 118 :: .ref 89 :: S) h58 = F L S h59 := fun F L S => by rw [hh59]; exact k_putR s58.1 (by decide)
  have s59 : Nu [(89, 61, 118), (89, 57, 117), (89, 56, 116), (89, 54, 115), (89, 53, 114), (89, 36, 113), (89, 35, 112), (89, 32, 111), (89, 31, 110), (89, 30, 109), (89, 29, 108), (89, 28, 107), (89, 27, 106), (89, 26, 105), (89, 25, 104), (89, 24, 103), (89, 23, 102), (89, 22, 101), (89, 21, 100), (89, 20, 99), (89, 19, 98), (89, 18, 97), (89, 17, 96), (89, 16, 95), (89, 15, 94), (89, 14, 93), (89, 13, 92), (89, 12, 91), (89, 11, 90)] 119 b1 h59 := by rw [hh59]; exact s58.set1 89 61 118
  obtain ⟨h60, hh60⟩ : ∃ q, q = nw h59 := ⟨_, rfl⟩
  have k60 : ∀ F L S, i_newarr 1 5 F L (.int 5 :: S) h59 = F L (.ref 119 :: S) h60 := fun F L S => by rw [hh60]; exact k_newarr s59.1 s59.2.1 (by decide)
  have s60 : Nu [(89, 61, 118), (89, 57, 117), (89, 56, 116), (89, 54, 115), (89, 53, 114), (89, 36, 113), (89, 35, 112), (89, 32, 111), (89, 31, 110), (89, 30, 109), (89, 29, 108), (89, 28, 107), (89, 27, 106), (89, 26, 105), (89, 25, 104), (89, 24, 103), (89, 23, 102), (89, 22, 101), (89, 21, 100), (89, 20, 99), (89, 19, 98), (89, 18, 97), (89, 17, 96), (89, 16, 95), (89, 15, 94), (89, 14, 93), (89, 13, 92), (89, 12, 91), (89, 11, 90)] 120 b1 h60 := by rw [hh60]; exact Nu.made z1 s59 (by omega) (by decide)
  obtain ⟨h61, hh61⟩ : ∃ q, q = sR h60 89 62 (some 119) := ⟨_, rfl⟩
  have k61 : ∀ F L S, i_putR 11 62 F L (.ref 119 :: .ref 89 :: S) h60 = F L S h61 := fun F L S => by rw [hh61]; exact k_putR s60.1 (by decide)
  have s61 : Nu [(89, 62, 119), (89, 61, 118), (89, 57, 117), (89, 56, 116), (89, 54, 115), (89, 53, 114), (89, 36, 113), (89, 35, 112), (89, 32, 111), (89, 31, 110), (89, 30, 109), (89, 29, 108), (89, 28, 107), (89, 27, 106), (89, 26, 105), (89, 25, 104), (89, 24, 103), (89, 23, 102), (89, 22, 101), (89, 21, 100), (89, 20, 99), (89, 19, 98), (89, 18, 97), (89, 17, 96), (89, 16, 95), (89, 15, 94), (89, 14, 93), (89, 13, 92), (89, 12, 91), (89, 11, 90)] 120 b1 h61 := by rw [hh61]; exact s60.set1 89 62 119
  obtain ⟨h62, hh62⟩ : ∃ q, q = nw h61 := ⟨_, rfl⟩
  have k62 : ∀ F L S, i_newarr 1 5 F L (.int 5 :: S) h61 = F L (.ref 120 :: S) h62 := fun F L S => by rw [hh62]; exact k_newarr s61.1 s61.2.1 (by decide)
  have s62 : Nu [(89, 62, 119), (89, 61, 118), (89, 57, 117), (89, 56, 116), (89, 54, 115), (89, 53, 114), (89, 36, 113), (89, 35, 112), (89, 32, 111), (89, 31, 110), (89, 30, 109), (89, 29, 108), (89, 28, 107), (89, 27, 106), (89, 26, 105), (89, 25, 104), (89, 24, 103), (89, 23, 102), (89, 22, 101), (89, 21, 100), (89, 20, 99), (89, 19, 98), (89, 18, 97), (89, 17, 96), (89, 16, 95), (89, 15, 94), (89, 14, 93), (89, 13, 92), (89, 12, 91), (89, 11, 90)] 121 b1 h62 := by rw [hh62]; exact Nu.made z1 s61 (by omega) (by decide)
  obtain ⟨h63, hh63⟩ : ∃ q, q = sR h62 89 63 (some 120) := ⟨_, rfl⟩
  have k63 : ∀ F L S, i_putR 11 63 F L (.ref 120 :: .ref 89 :: S) h62 = F L S h63 := fun F L S => by rw [hh63]; exact k_putR s62.1 (by decide)
  have s63 : Nu [(89, 63, 120), (89, 62, 119), (89, 61, 118), (89, 57, 117), (89, 56, 116), (89, 54, 115), (89, 53, 114), (89, 36, 113), (89, 35, 112), (89, 32, 111), (89, 31, 110), (89, 30, 109), (89, 29, 108), (89, 28, 107), (89, 27, 106), (89, 26, 105), (89, 25, 104), (89, 24, 103), (89, 23, 102), (89, 22, 101), (89, 21, 100), (89, 20, 99), (89, 19, 98), (89, 18, 97), (89, 17, 96), (89, 16, 95), (89, 15, 94), (89, 14, 93), (89, 13, 92), (89, 12, 91), (89, 11, 90)] 121 b1 h63 := by rw [hh63]; exact s62.set1 89 63 120
  obtain ⟨h64, hh64⟩ : ∃ q, q = nw h63 := ⟨_, rfl⟩
  have k64 : ∀ F L S, i_newarr 1 5 F L (.int 5 :: S) h63 = F L (.ref 121 :: S) h64 := fun F L S => by rw [hh64]; exact k_newarr s63.1 s63.2.1 (by decide)
  have s64 : Nu [(89, 63, 120), (89, 62, 119), (89, 61, 118), (89, 57, 117), (89, 56, 116), (89, 54, 115), (89, 53, 114), (89, 36, 113), (89, 35, 112), (89, 32, 111), (89, 31, 110), (89, 30, 109), (89, 29, 108), (89, 28, 107), (89, 27, 106), (89, 26, 105), (89, 25, 104), (89, 24, 103), (89, 23, 102), (89, 22, 101), (89, 21, 100), (89, 20, 99), (89, 19, 98), (89, 18, 97), (89, 17, 96), (89, 16, 95), (89, 15, 94), (89, 14, 93), (89, 13, 92), (89, 12, 91), (89, 11, 90)] 122 b1 h64 := by rw [hh64]; exact Nu.made z1 s63 (by omega) (by decide)
  obtain ⟨h65, hh65⟩ : ∃ q, q = sR h64 89 64 (some 121) := ⟨_, rfl⟩
  have k65 : ∀ F L S, i_putR 11 64 F L (.ref 121 :: .ref 89 :: S) h64 = F L S h65 := fun F L S => by rw [hh65]; exact k_putR s64.1 (by decide)
  have s65 : Nu [(89, 64, 121), (89, 63, 120), (89, 62, 119), (89, 61, 118), (89, 57, 117), (89, 56, 116), (89, 54, 115), (89, 53, 114), (89, 36, 113), (89, 35, 112), (89, 32, 111), (89, 31, 110), (89, 30, 109), (89, 29, 108), (89, 28, 107), (89, 27, 106), (89, 26, 105), (89, 25, 104), (89, 24, 103), (89, 23, 102), (89, 22, 101), (89, 21, 100), (89, 20, 99), (89, 19, 98), (89, 18, 97), (89, 17, 96), (89, 16, 95), (89, 15, 94), (89, 14, 93), (89, 13, 92), (89, 12, 91), (89, 11, 90)] 122 b1 h65 := by rw [hh65]; exact s64.set1 89 64 121
  obtain ⟨h66, hh66⟩ : ∃ q, q = nw h65 := ⟨_, rfl⟩
  have k66 : ∀ F L S, i_newarr 1 5 F L (.int 5 :: S) h65 = F L (.ref 122 :: S) h66 := fun F L S => by rw [hh66]; exact k_newarr s65.1 s65.2.1 (by decide)
  have s66 : Nu [(89, 64, 121), (89, 63, 120), (89, 62, 119), (89, 61, 118), (89, 57, 117), (89, 56, 116), (89, 54, 115), (89, 53, 114), (89, 36, 113), (89, 35, 112), (89, 32, 111), (89, 31, 110), (89, 30, 109), (89, 29, 108), (89, 28, 107), (89, 27, 106), (89, 26, 105), (89, 25, 104), (89, 24, 103), (89, 23, 102), (89, 22, 101), (89, 21, 100), (89, 20, 99), (89, 19, 98), (89, 18, 97), (89, 17, 96), (89, 16, 95), (89, 15, 94), (89, 14, 93), (89, 13, 92), (89, 12, 91), (89, 11, 90)] 123 b1 h66 := by rw [hh66]; exact Nu.made z1 s65 (by omega) (by decide)
  obtain ⟨h67, hh67⟩ : ∃ q, q = sR h66 89 65 (some 122) := ⟨_, rfl⟩
  have k67 : ∀ F L S, i_putR 11 65 F L (.ref 122 :: .ref 89 :: S) h66 = F L S h67 := fun F L S => by rw [hh67]; exact k_putR s66.1 (by decide)
  have s67 : Nu [(89, 65, 122), (89, 64, 121), (89, 63, 120), (89, 62, 119), (89, 61, 118), (89, 57, 117), (89, 56, 116), (89, 54, 115), (89, 53, 114), (89, 36, 113), (89, 35, 112), (89, 32, 111), (89, 31, 110), (89, 30, 109), (89, 29, 108), (89, 28, 107), (89, 27, 106), (89, 26, 105), (89, 25, 104), (89, 24, 103), (89, 23, 102), (89, 22, 101), (89, 21, 100), (89, 20, 99), (89, 19, 98), (89, 18, 97), (89, 17, 96), (89, 16, 95), (89, 15, 94), (89, 14, 93), (89, 13, 92), (89, 12, 91), (89, 11, 90)] 123 b1 h67 := by rw [hh67]; exact s66.set1 89 65 122
  obtain ⟨h68, hh68⟩ : ∃ q, q = nw h67 := ⟨_, rfl⟩
  have k68 : ∀ F L S, i_newarr 1 10 F L (.int 10 :: S) h67 = F L (.ref 123 :: S) h68 := fun F L S => by rw [hh68]; exact k_newarr s67.1 s67.2.1 (by decide)
  have s68 : Nu [(89, 65, 122), (89, 64, 121), (89, 63, 120), (89, 62, 119), (89, 61, 118), (89, 57, 117), (89, 56, 116), (89, 54, 115), (89, 53, 114), (89, 36, 113), (89, 35, 112), (89, 32, 111), (89, 31, 110), (89, 30, 109), (89, 29, 108), (89, 28, 107), (89, 27, 106), (89, 26, 105), (89, 25, 104), (89, 24, 103), (89, 23, 102), (89, 22, 101), (89, 21, 100), (89, 20, 99), (89, 19, 98), (89, 18, 97), (89, 17, 96), (89, 16, 95), (89, 15, 94), (89, 14, 93), (89, 13, 92), (89, 12, 91), (89, 11, 90)] 124 b1 h68 := by rw [hh68]; exact Nu.made z1 s67 (by omega) (by decide)
  obtain ⟨h69, hh69⟩ : ∃ q, q = sR h68 89 66 (some 123) := ⟨_, rfl⟩
  have k69 : ∀ F L S, i_putR 11 66 F L (.ref 123 :: .ref 89 :: S) h68 = F L S h69 := fun F L S => by rw [hh69]; exact k_putR s68.1 (by decide)
  have s69 : Nu [(89, 66, 123), (89, 65, 122), (89, 64, 121), (89, 63, 120), (89, 62, 119), (89, 61, 118), (89, 57, 117), (89, 56, 116), (89, 54, 115), (89, 53, 114), (89, 36, 113), (89, 35, 112), (89, 32, 111), (89, 31, 110), (89, 30, 109), (89, 29, 108), (89, 28, 107), (89, 27, 106), (89, 26, 105), (89, 25, 104), (89, 24, 103), (89, 23, 102), (89, 22, 101), (89, 21, 100), (89, 20, 99), (89, 19, 98), (89, 18, 97), (89, 17, 96), (89, 16, 95), (89, 15, 94), (89, 14, 93), (89, 13, 92), (89, 12, 91), (89, 11, 90)] 124 b1 h69 := by rw [hh69]; exact s68.set1 89 66 123
  obtain ⟨h70, hh70⟩ : ∃ q, q = nw h69 := ⟨_, rfl⟩
  have k70 : ∀ F L S, i_newarr 1 48 F L (.int 48 :: S) h69 = F L (.ref 124 :: S) h70 := fun F L S => by rw [hh70]; exact k_newarr s69.1 s69.2.1 (by decide)
  have s70 : Nu [(89, 66, 123), (89, 65, 122), (89, 64, 121), (89, 63, 120), (89, 62, 119), (89, 61, 118), (89, 57, 117), (89, 56, 116), (89, 54, 115), (89, 53, 114), (89, 36, 113), (89, 35, 112), (89, 32, 111), (89, 31, 110), (89, 30, 109), (89, 29, 108), (89, 28, 107), (89, 27, 106), (89, 26, 105), (89, 25, 104), (89, 24, 103), (89, 23, 102), (89, 22, 101), (89, 21, 100), (89, 20, 99), (89, 19, 98), (89, 18, 97), (89, 17, 96), (89, 16, 95), (89, 15, 94), (89, 14, 93), (89, 13, 92), (89, 12, 91), (89, 11, 90)] 125 b1 h70 := by rw [hh70]; exact Nu.made z1 s69 (by omega) (by decide)
  obtain ⟨h71, hh71⟩ : ∃ q, q = sR h70 89 67 (some 124) := ⟨_, rfl⟩
  have k71 : ∀ F L S, i_putR 11 67 F L (.ref 124 :: .ref 89 :: S) h70 = F L S h71 := fun F L S => by rw [hh71]; exact k_putR s70.1 (by decide)
  have s71 : Nu [(89, 67, 124), (89, 66, 123), (89, 65, 122), (89, 64, 121), (89, 63, 120), (89, 62, 119), (89, 61, 118), (89, 57, 117), (89, 56, 116), (89, 54, 115), (89, 53, 114), (89, 36, 113), (89, 35, 112), (89, 32, 111), (89, 31, 110), (89, 30, 109), (89, 29, 108), (89, 28, 107), (89, 27, 106), (89, 26, 105), (89, 25, 104), (89, 24, 103), (89, 23, 102), (89, 22, 101), (89, 21, 100), (89, 20, 99), (89, 19, 98), (89, 18, 97), (89, 17, 96), (89, 16, 95), (89, 15, 94), (89, 14, 93), (89, 13, 92), (89, 12, 91), (89, 11, 90)] 125 b1 h71 := by rw [hh71]; exact s70.set1 89 67 124
  obtain ⟨h72, hh72⟩ : ∃ q, q = nw h71 := ⟨_, rfl⟩
  have k72 : ∀ F L S, i_newarr 1 48 F L (.int 48 :: S) h71 = F L (.ref 125 :: S) h72 := fun F L S => by rw [hh72]; exact k_newarr s71.1 s71.2.1 (by decide)
  have s72 : Nu [(89, 67, 124), (89, 66, 123), (89, 65, 122), (89, 64, 121), (89, 63, 120), (89, 62, 119), (89, 61, 118), (89, 57, 117), (89, 56, 116), (89, 54, 115), (89, 53, 114), (89, 36, 113), (89, 35, 112), (89, 32, 111), (89, 31, 110), (89, 30, 109), (89, 29, 108), (89, 28, 107), (89, 27, 106), (89, 26, 105), (89, 25, 104), (89, 24, 103), (89, 23, 102), (89, 22, 101), (89, 21, 100), (89, 20, 99), (89, 19, 98), (89, 18, 97), (89, 17, 96), (89, 16, 95), (89, 15, 94), (89, 14, 93), (89, 13, 92), (89, 12, 91), (89, 11, 90)] 126 b1 h72 := by rw [hh72]; exact Nu.made z1 s71 (by omega) (by decide)
  obtain ⟨h73, hh73⟩ : ∃ q, q = sR h72 89 68 (some 125) := ⟨_, rfl⟩
  have k73 : ∀ F L S, i_putR 11 68 F L (.ref 125 :: .ref 89 :: S) h72 = F L S h73 := fun F L S => by rw [hh73]; exact k_putR s72.1 (by decide)
  have s73 : Nu [(89, 68, 125), (89, 67, 124), (89, 66, 123), (89, 65, 122), (89, 64, 121), (89, 63, 120), (89, 62, 119), (89, 61, 118), (89, 57, 117), (89, 56, 116), (89, 54, 115), (89, 53, 114), (89, 36, 113), (89, 35, 112), (89, 32, 111), (89, 31, 110), (89, 30, 109), (89, 29, 108), (89, 28, 107), (89, 27, 106), (89, 26, 105), (89, 25, 104), (89, 24, 103), (89, 23, 102), (89, 22, 101), (89, 21, 100), (89, 20, 99), (89, 19, 98), (89, 18, 97), (89, 17, 96), (89, 16, 95), (89, 15, 94), (89, 14, 93), (89, 13, 92), (89, 12, 91), (89, 11, 90)] 126 b1 h73 := by rw [hh73]; exact s72.set1 89 68 125
  obtain ⟨h74, hh74⟩ : ∃ q, q = nw h73 := ⟨_, rfl⟩
  have k74 : ∀ F L S, i_newarr 1 48 F L (.int 48 :: S) h73 = F L (.ref 126 :: S) h74 := fun F L S => by rw [hh74]; exact k_newarr s73.1 s73.2.1 (by decide)
  have s74 : Nu [(89, 68, 125), (89, 67, 124), (89, 66, 123), (89, 65, 122), (89, 64, 121), (89, 63, 120), (89, 62, 119), (89, 61, 118), (89, 57, 117), (89, 56, 116), (89, 54, 115), (89, 53, 114), (89, 36, 113), (89, 35, 112), (89, 32, 111), (89, 31, 110), (89, 30, 109), (89, 29, 108), (89, 28, 107), (89, 27, 106), (89, 26, 105), (89, 25, 104), (89, 24, 103), (89, 23, 102), (89, 22, 101), (89, 21, 100), (89, 20, 99), (89, 19, 98), (89, 18, 97), (89, 17, 96), (89, 16, 95), (89, 15, 94), (89, 14, 93), (89, 13, 92), (89, 12, 91), (89, 11, 90)] 127 b1 h74 := by rw [hh74]; exact Nu.made z1 s73 (by omega) (by decide)
  obtain ⟨h75, hh75⟩ : ∃ q, q = sR h74 89 69 (some 126) := ⟨_, rfl⟩
  have k75 : ∀ F L S, i_putR 11 69 F L (.ref 126 :: .ref 89 :: S) h74 = F L S h75 := fun F L S => by rw [hh75]; exact k_putR s74.1 (by decide)
  have s75 : Nu [(89, 69, 126), (89, 68, 125), (89, 67, 124), (89, 66, 123), (89, 65, 122), (89, 64, 121), (89, 63, 120), (89, 62, 119), (89, 61, 118), (89, 57, 117), (89, 56, 116), (89, 54, 115), (89, 53, 114), (89, 36, 113), (89, 35, 112), (89, 32, 111), (89, 31, 110), (89, 30, 109), (89, 29, 108), (89, 28, 107), (89, 27, 106), (89, 26, 105), (89, 25, 104), (89, 24, 103), (89, 23, 102), (89, 22, 101), (89, 21, 100), (89, 20, 99), (89, 19, 98), (89, 18, 97), (89, 17, 96), (89, 16, 95), (89, 15, 94), (89, 14, 93), (89, 13, 92), (89, 12, 91), (89, 11, 90)] 127 b1 h75 := by rw [hh75]; exact s74.set1 89 69 126
  obtain ⟨h76, hh76⟩ : ∃ q, q = nw h75 := ⟨_, rfl⟩
  have k76 : ∀ F L S, i_newarr 1 48 F L (.int 48 :: S) h75 = F L (.ref 127 :: S) h76 := fun F L S => by rw [hh76]; exact k_newarr s75.1 s75.2.1 (by decide)
  have s76 : Nu [(89, 69, 126), (89, 68, 125), (89, 67, 124), (89, 66, 123), (89, 65, 122), (89, 64, 121), (89, 63, 120), (89, 62, 119), (89, 61, 118), (89, 57, 117), (89, 56, 116), (89, 54, 115), (89, 53, 114), (89, 36, 113), (89, 35, 112), (89, 32, 111), (89, 31, 110), (89, 30, 109), (89, 29, 108), (89, 28, 107), (89, 27, 106), (89, 26, 105), (89, 25, 104), (89, 24, 103), (89, 23, 102), (89, 22, 101), (89, 21, 100), (89, 20, 99), (89, 19, 98), (89, 18, 97), (89, 17, 96), (89, 16, 95), (89, 15, 94), (89, 14, 93), (89, 13, 92), (89, 12, 91), (89, 11, 90)] 128 b1 h76 := by rw [hh76]; exact Nu.made z1 s75 (by omega) (by decide)
  obtain ⟨h77, hh77⟩ : ∃ q, q = sR h76 89 70 (some 127) := ⟨_, rfl⟩
  have k77 : ∀ F L S, i_putR 11 70 F L (.ref 127 :: .ref 89 :: S) h76 = F L S h77 := fun F L S => by rw [hh77]; exact k_putR s76.1 (by decide)
  have s77 : Nu [(89, 70, 127), (89, 69, 126), (89, 68, 125), (89, 67, 124), (89, 66, 123), (89, 65, 122), (89, 64, 121), (89, 63, 120), (89, 62, 119), (89, 61, 118), (89, 57, 117), (89, 56, 116), (89, 54, 115), (89, 53, 114), (89, 36, 113), (89, 35, 112), (89, 32, 111), (89, 31, 110), (89, 30, 109), (89, 29, 108), (89, 28, 107), (89, 27, 106), (89, 26, 105), (89, 25, 104), (89, 24, 103), (89, 23, 102), (89, 22, 101), (89, 21, 100), (89, 20, 99), (89, 19, 98), (89, 18, 97), (89, 17, 96), (89, 16, 95), (89, 15, 94), (89, 14, 93), (89, 13, 92), (89, 12, 91), (89, 11, 90)] 128 b1 h77 := by rw [hh77]; exact s76.set1 89 70 127
  obtain ⟨h78, hh78⟩ : ∃ q, q = nw h77 := ⟨_, rfl⟩
  have k78 : ∀ F L S, i_newarr 1 64 F L (.int 64 :: S) h77 = F L (.ref 128 :: S) h78 := fun F L S => by rw [hh78]; exact k_newarr s77.1 s77.2.1 (by decide)
  have s78 : Nu [(89, 70, 127), (89, 69, 126), (89, 68, 125), (89, 67, 124), (89, 66, 123), (89, 65, 122), (89, 64, 121), (89, 63, 120), (89, 62, 119), (89, 61, 118), (89, 57, 117), (89, 56, 116), (89, 54, 115), (89, 53, 114), (89, 36, 113), (89, 35, 112), (89, 32, 111), (89, 31, 110), (89, 30, 109), (89, 29, 108), (89, 28, 107), (89, 27, 106), (89, 26, 105), (89, 25, 104), (89, 24, 103), (89, 23, 102), (89, 22, 101), (89, 21, 100), (89, 20, 99), (89, 19, 98), (89, 18, 97), (89, 17, 96), (89, 16, 95), (89, 15, 94), (89, 14, 93), (89, 13, 92), (89, 12, 91), (89, 11, 90)] 129 b1 h78 := by rw [hh78]; exact Nu.made z1 s77 (by omega) (by decide)
  obtain ⟨h79, hh79⟩ : ∃ q, q = sR h78 89 71 (some 128) := ⟨_, rfl⟩
  have k79 : ∀ F L S, i_putR 11 71 F L (.ref 128 :: .ref 89 :: S) h78 = F L S h79 := fun F L S => by rw [hh79]; exact k_putR s78.1 (by decide)
  have s79 : Nu [(89, 71, 128), (89, 70, 127), (89, 69, 126), (89, 68, 125), (89, 67, 124), (89, 66, 123), (89, 65, 122), (89, 64, 121), (89, 63, 120), (89, 62, 119), (89, 61, 118), (89, 57, 117), (89, 56, 116), (89, 54, 115), (89, 53, 114), (89, 36, 113), (89, 35, 112), (89, 32, 111), (89, 31, 110), (89, 30, 109), (89, 29, 108), (89, 28, 107), (89, 27, 106), (89, 26, 105), (89, 25, 104), (89, 24, 103), (89, 23, 102), (89, 22, 101), (89, 21, 100), (89, 20, 99), (89, 19, 98), (89, 18, 97), (89, 17, 96), (89, 16, 95), (89, 15, 94), (89, 14, 93), (89, 13, 92), (89, 12, 91), (89, 11, 90)] 129 b1 h79 := by rw [hh79]; exact s78.set1 89 71 128
  obtain ⟨h80, hh80⟩ : ∃ q, q = nw h79 := ⟨_, rfl⟩
  have k80 : ∀ F L S, i_newarr 1 40 F L (.int 40 :: S) h79 = F L (.ref 129 :: S) h80 := fun F L S => by rw [hh80]; exact k_newarr s79.1 s79.2.1 (by decide)
  have s80 : Nu [(89, 71, 128), (89, 70, 127), (89, 69, 126), (89, 68, 125), (89, 67, 124), (89, 66, 123), (89, 65, 122), (89, 64, 121), (89, 63, 120), (89, 62, 119), (89, 61, 118), (89, 57, 117), (89, 56, 116), (89, 54, 115), (89, 53, 114), (89, 36, 113), (89, 35, 112), (89, 32, 111), (89, 31, 110), (89, 30, 109), (89, 29, 108), (89, 28, 107), (89, 27, 106), (89, 26, 105), (89, 25, 104), (89, 24, 103), (89, 23, 102), (89, 22, 101), (89, 21, 100), (89, 20, 99), (89, 19, 98), (89, 18, 97), (89, 17, 96), (89, 16, 95), (89, 15, 94), (89, 14, 93), (89, 13, 92), (89, 12, 91), (89, 11, 90)] 130 b1 h80 := by rw [hh80]; exact Nu.made z1 s79 (by omega) (by decide)
  obtain ⟨h81, hh81⟩ : ∃ q, q = sR h80 89 76 (some 129) := ⟨_, rfl⟩
  have k81 : ∀ F L S, i_putR 11 76 F L (.ref 129 :: .ref 89 :: S) h80 = F L S h81 := fun F L S => by rw [hh81]; exact k_putR s80.1 (by decide)
  have s81 : Nu [(89, 76, 129), (89, 71, 128), (89, 70, 127), (89, 69, 126), (89, 68, 125), (89, 67, 124), (89, 66, 123), (89, 65, 122), (89, 64, 121), (89, 63, 120), (89, 62, 119), (89, 61, 118), (89, 57, 117), (89, 56, 116), (89, 54, 115), (89, 53, 114), (89, 36, 113), (89, 35, 112), (89, 32, 111), (89, 31, 110), (89, 30, 109), (89, 29, 108), (89, 28, 107), (89, 27, 106), (89, 26, 105), (89, 25, 104), (89, 24, 103), (89, 23, 102), (89, 22, 101), (89, 21, 100), (89, 20, 99), (89, 19, 98), (89, 18, 97), (89, 17, 96), (89, 16, 95), (89, 15, 94), (89, 14, 93), (89, 13, 92), (89, 12, 91), (89, 11, 90)] 130 b1 h81 := by rw [hh81]; exact s80.set1 89 76 129
  obtain ⟨h82, hh82⟩ : ∃ q, q = nw h81 := ⟨_, rfl⟩
  have k82 : ∀ F L S, i_newarr 1 5 F L (.int 5 :: S) h81 = F L (.ref 130 :: S) h82 := fun F L S => by rw [hh82]; exact k_newarr s81.1 s81.2.1 (by decide)
  have s82 : Nu [(89, 76, 129), (89, 71, 128), (89, 70, 127), (89, 69, 126), (89, 68, 125), (89, 67, 124), (89, 66, 123), (89, 65, 122), (89, 64, 121), (89, 63, 120), (89, 62, 119), (89, 61, 118), (89, 57, 117), (89, 56, 116), (89, 54, 115), (89, 53, 114), (89, 36, 113), (89, 35, 112), (89, 32, 111), (89, 31, 110), (89, 30, 109), (89, 29, 108), (89, 28, 107), (89, 27, 106), (89, 26, 105), (89, 25, 104), (89, 24, 103), (89, 23, 102), (89, 22, 101), (89, 21, 100), (89, 20, 99), (89, 19, 98), (89, 18, 97), (89, 17, 96), (89, 16, 95), (89, 15, 94), (89, 14, 93), (89, 13, 92), (89, 12, 91), (89, 11, 90)] 131 b1 h82 := by rw [hh82]; exact Nu.made z1 s81 (by omega) (by decide)
  obtain ⟨h83, hh83⟩ : ∃ q, q = sR h82 89 81 (some 130) := ⟨_, rfl⟩
  have k83 : ∀ F L S, i_putR 11 81 F L (.ref 130 :: .ref 89 :: S) h82 = F L S h83 := fun F L S => by rw [hh83]; exact k_putR s82.1 (by decide)
  have s83 : Nu [(89, 81, 130), (89, 76, 129), (89, 71, 128), (89, 70, 127), (89, 69, 126), (89, 68, 125), (89, 67, 124), (89, 66, 123), (89, 65, 122), (89, 64, 121), (89, 63, 120), (89, 62, 119), (89, 61, 118), (89, 57, 117), (89, 56, 116), (89, 54, 115), (89, 53, 114), (89, 36, 113), (89, 35, 112), (89, 32, 111), (89, 31, 110), (89, 30, 109), (89, 29, 108), (89, 28, 107), (89, 27, 106), (89, 26, 105), (89, 25, 104), (89, 24, 103), (89, 23, 102), (89, 22, 101), (89, 21, 100), (89, 20, 99), (89, 19, 98), (89, 18, 97), (89, 17, 96), (89, 16, 95), (89, 15, 94), (89, 14, 93), (89, 13, 92), (89, 12, 91), (89, 11, 90)] 131 b1 h83 := by rw [hh83]; exact s82.set1 89 81 130
  obtain ⟨h84, hh84⟩ : ∃ q, q = nw h83 := ⟨_, rfl⟩
  have k84 : ∀ F L S, i_newarr 1 5 F L (.int 5 :: S) h83 = F L (.ref 131 :: S) h84 := fun F L S => by rw [hh84]; exact k_newarr s83.1 s83.2.1 (by decide)
  have s84 : Nu [(89, 81, 130), (89, 76, 129), (89, 71, 128), (89, 70, 127), (89, 69, 126), (89, 68, 125), (89, 67, 124), (89, 66, 123), (89, 65, 122), (89, 64, 121), (89, 63, 120), (89, 62, 119), (89, 61, 118), (89, 57, 117), (89, 56, 116), (89, 54, 115), (89, 53, 114), (89, 36, 113), (89, 35, 112), (89, 32, 111), (89, 31, 110), (89, 30, 109), (89, 29, 108), (89, 28, 107), (89, 27, 106), (89, 26, 105), (89, 25, 104), (89, 24, 103), (89, 23, 102), (89, 22, 101), (89, 21, 100), (89, 20, 99), (89, 19, 98), (89, 18, 97), (89, 17, 96), (89, 16, 95), (89, 15, 94), (89, 14, 93), (89, 13, 92), (89, 12, 91), (89, 11, 90)] 132 b1 h84 := by rw [hh84]; exact Nu.made z1 s83 (by omega) (by decide)
  obtain ⟨h85, hh85⟩ : ∃ q, q = sR h84 89 82 (some 131) := ⟨_, rfl⟩
  have k85 : ∀ F L S, i_putR 11 82 F L (.ref 131 :: .ref 89 :: S) h84 = F L S h85 := fun F L S => by rw [hh85]; exact k_putR s84.1 (by decide)
  have s85 : Nu [(89, 82, 131), (89, 81, 130), (89, 76, 129), (89, 71, 128), (89, 70, 127), (89, 69, 126), (89, 68, 125), (89, 67, 124), (89, 66, 123), (89, 65, 122), (89, 64, 121), (89, 63, 120), (89, 62, 119), (89, 61, 118), (89, 57, 117), (89, 56, 116), (89, 54, 115), (89, 53, 114), (89, 36, 113), (89, 35, 112), (89, 32, 111), (89, 31, 110), (89, 30, 109), (89, 29, 108), (89, 28, 107), (89, 27, 106), (89, 26, 105), (89, 25, 104), (89, 24, 103), (89, 23, 102), (89, 22, 101), (89, 21, 100), (89, 20, 99), (89, 19, 98), (89, 18, 97), (89, 17, 96), (89, 16, 95), (89, 15, 94), (89, 14, 93), (89, 13, 92), (89, 12, 91), (89, 11, 90)] 132 b1 h85 := by rw [hh85]; exact s84.set1 89 82 131
  obtain ⟨h86, hh86⟩ : ∃ q, q = nw h85 := ⟨_, rfl⟩
  have k86 : ∀ F L S, i_newarr 1 5 F L (.int 5 :: S) h85 = F L (.ref 132 :: S) h86 := fun F L S => by rw [hh86]; exact k_newarr s85.1 s85.2.1 (by decide)
  have s86 : Nu [(89, 82, 131), (89, 81, 130), (89, 76, 129), (89, 71, 128), (89, 70, 127), (89, 69, 126), (89, 68, 125), (89, 67, 124), (89, 66, 123), (89, 65, 122), (89, 64, 121), (89, 63, 120), (89, 62, 119), (89, 61, 118), (89, 57, 117), (89, 56, 116), (89, 54, 115), (89, 53, 114), (89, 36, 113), (89, 35, 112), (89, 32, 111), (89, 31, 110), (89, 30, 109), (89, 29, 108), (89, 28, 107), (89, 27, 106), (89, 26, 105), (89, 25, 104), (89, 24, 103), (89, 23, 102), (89, 22, 101), (89, 21, 100), (89, 20, 99), (89, 19, 98), (89, 18, 97), (89, 17, 96), (89, 16, 95), (89, 15, 94), (89, 14, 93), (89, 13, 92), (89, 12, 91), (89, 11, 90)] 133 b1 h86 := by rw [hh86]; exact Nu.made z1 s85 (by omega) (by decide)
  obtain ⟨b2, hb2⟩ : ∃ q, q = sI b1 132 0 (1) := ⟨_, rfl⟩
  obtain ⟨h87, hh87⟩ : ∃ q, q = sI h86 132 0 (1) := ⟨_, rfl⟩
  have k87 : ∀ F L S, i_iastore F L (.int (1) :: .int (0) :: .ref 132 :: S) h86 = F L S h87 := fun F L S => by rw [hh87]; exact k_ias s86.1 (by decide)
  have s87 : Nu [(89, 82, 131), (89, 81, 130), (89, 76, 129), (89, 71, 128), (89, 70, 127), (89, 69, 126), (89, 68, 125), (89, 67, 124), (89, 66, 123), (89, 65, 122), (89, 64, 121), (89, 63, 120), (89, 62, 119), (89, 61, 118), (89, 57, 117), (89, 56, 116), (89, 54, 115), (89, 53, 114), (89, 36, 113), (89, 35, 112), (89, 32, 111), (89, 31, 110), (89, 30, 109), (89, 29, 108), (89, 28, 107), (89, 27, 106), (89, 26, 105), (89, 25, 104), (89, 24, 103), (89, 23, 102), (89, 22, 101), (89, 21, 100), (89, 20, 99), (89, 19, 98), (89, 18, 97), (89, 17, 96), (89, 16, 95), (89, 15, 94), (89, 14, 93), (89, 13, 92), (89, 12, 91), (89, 11, 90)] 133 b2 h87 := by rw [hh87, hb2]; exact s86.setI 132 0 (1)
  obtain ⟨b3, hb3⟩ : ∃ q, q = sI b2 132 1 (10) := ⟨_, rfl⟩
  obtain ⟨h88, hh88⟩ : ∃ q, q = sI h87 132 1 (10) := ⟨_, rfl⟩
  have k88 : ∀ F L S, i_iastore F L (.int (10) :: .int (1) :: .ref 132 :: S) h87 = F L S h88 := fun F L S => by rw [hh88]; exact k_ias s87.1 (by decide)
  have s88 : Nu [(89, 82, 131), (89, 81, 130), (89, 76, 129), (89, 71, 128), (89, 70, 127), (89, 69, 126), (89, 68, 125), (89, 67, 124), (89, 66, 123), (89, 65, 122), (89, 64, 121), (89, 63, 120), (89, 62, 119), (89, 61, 118), (89, 57, 117), (89, 56, 116), (89, 54, 115), (89, 53, 114), (89, 36, 113), (89, 35, 112), (89, 32, 111), (89, 31, 110), (89, 30, 109), (89, 29, 108), (89, 28, 107), (89, 27, 106), (89, 26, 105), (89, 25, 104), (89, 24, 103), (89, 23, 102), (89, 22, 101), (89, 21, 100), (89, 20, 99), (89, 19, 98), (89, 18, 97), (89, 17, 96), (89, 16, 95), (89, 15, 94), (89, 14, 93), (89, 13, 92), (89, 12, 91), (89, 11, 90)] 133 b3 h88 := by rw [hh88, hb3]; exact s87.setI 132 1 (10)
  obtain ⟨b4, hb4⟩ : ∃ q, q = sI b3 132 2 (100) := ⟨_, rfl⟩
  obtain ⟨h89, hh89⟩ : ∃ q, q = sI h88 132 2 (100) := ⟨_, rfl⟩
  have k89 : ∀ F L S, i_iastore F L (.int (100) :: .int (2) :: .ref 132 :: S) h88 = F L S h89 := fun F L S => by rw [hh89]; exact k_ias s88.1 (by decide)
  have s89 : Nu [(89, 82, 131), (89, 81, 130), (89, 76, 129), (89, 71, 128), (89, 70, 127), (89, 69, 126), (89, 68, 125), (89, 67, 124), (89, 66, 123), (89, 65, 122), (89, 64, 121), (89, 63, 120), (89, 62, 119), (89, 61, 118), (89, 57, 117), (89, 56, 116), (89, 54, 115), (89, 53, 114), (89, 36, 113), (89, 35, 112), (89, 32, 111), (89, 31, 110), (89, 30, 109), (89, 29, 108), (89, 28, 107), (89, 27, 106), (89, 26, 105), (89, 25, 104), (89, 24, 103), (89, 23, 102), (89, 22, 101), (89, 21, 100), (89, 20, 99), (89, 19, 98), (89, 18, 97), (89, 17, 96), (89, 16, 95), (89, 15, 94), (89, 14, 93), (89, 13, 92), (89, 12, 91), (89, 11, 90)] 133 b4 h89 := by rw [hh89, hb4]; exact s88.setI 132 2 (100)
  obtain ⟨b5, hb5⟩ : ∃ q, q = sI b4 132 3 (1000) := ⟨_, rfl⟩
  obtain ⟨h90, hh90⟩ : ∃ q, q = sI h89 132 3 (1000) := ⟨_, rfl⟩
  have k90 : ∀ F L S, i_iastore F L (.int (1000) :: .int (3) :: .ref 132 :: S) h89 = F L S h90 := fun F L S => by rw [hh90]; exact k_ias s89.1 (by decide)
  have s90 : Nu [(89, 82, 131), (89, 81, 130), (89, 76, 129), (89, 71, 128), (89, 70, 127), (89, 69, 126), (89, 68, 125), (89, 67, 124), (89, 66, 123), (89, 65, 122), (89, 64, 121), (89, 63, 120), (89, 62, 119), (89, 61, 118), (89, 57, 117), (89, 56, 116), (89, 54, 115), (89, 53, 114), (89, 36, 113), (89, 35, 112), (89, 32, 111), (89, 31, 110), (89, 30, 109), (89, 29, 108), (89, 28, 107), (89, 27, 106), (89, 26, 105), (89, 25, 104), (89, 24, 103), (89, 23, 102), (89, 22, 101), (89, 21, 100), (89, 20, 99), (89, 19, 98), (89, 18, 97), (89, 17, 96), (89, 16, 95), (89, 15, 94), (89, 14, 93), (89, 13, 92), (89, 12, 91), (89, 11, 90)] 133 b5 h90 := by rw [hh90, hb5]; exact s89.setI 132 3 (1000)
  obtain ⟨b6, hb6⟩ : ∃ q, q = sI b5 132 4 (10000) := ⟨_, rfl⟩
  obtain ⟨h91, hh91⟩ : ∃ q, q = sI h90 132 4 (10000) := ⟨_, rfl⟩
  have k91 : ∀ F L S, i_iastore F L (.int (10000) :: .int (4) :: .ref 132 :: S) h90 = F L S h91 := fun F L S => by rw [hh91]; exact k_ias s90.1 (by decide)
  have s91 : Nu [(89, 82, 131), (89, 81, 130), (89, 76, 129), (89, 71, 128), (89, 70, 127), (89, 69, 126), (89, 68, 125), (89, 67, 124), (89, 66, 123), (89, 65, 122), (89, 64, 121), (89, 63, 120), (89, 62, 119), (89, 61, 118), (89, 57, 117), (89, 56, 116), (89, 54, 115), (89, 53, 114), (89, 36, 113), (89, 35, 112), (89, 32, 111), (89, 31, 110), (89, 30, 109), (89, 29, 108), (89, 28, 107), (89, 27, 106), (89, 26, 105), (89, 25, 104), (89, 24, 103), (89, 23, 102), (89, 22, 101), (89, 21, 100), (89, 20, 99), (89, 19, 98), (89, 18, 97), (89, 17, 96), (89, 16, 95), (89, 15, 94), (89, 14, 93), (89, 13, 92), (89, 12, 91), (89, 11, 90)] 133 b6 h91 := by rw [hh91, hb6]; exact s90.setI 132 4 (10000)
  obtain ⟨h92, hh92⟩ : ∃ q, q = sR h91 89 85 (some 132) := ⟨_, rfl⟩
  have k92 : ∀ F L S, i_putR 11 85 F L (.ref 132 :: .ref 89 :: S) h91 = F L S h92 := fun F L S => by rw [hh92]; exact k_putR s91.1 (by decide)
  have s92 : Nu [(89, 85, 132), (89, 82, 131), (89, 81, 130), (89, 76, 129), (89, 71, 128), (89, 70, 127), (89, 69, 126), (89, 68, 125), (89, 67, 124), (89, 66, 123), (89, 65, 122), (89, 64, 121), (89, 63, 120), (89, 62, 119), (89, 61, 118), (89, 57, 117), (89, 56, 116), (89, 54, 115), (89, 53, 114), (89, 36, 113), (89, 35, 112), (89, 32, 111), (89, 31, 110), (89, 30, 109), (89, 29, 108), (89, 28, 107), (89, 27, 106), (89, 26, 105), (89, 25, 104), (89, 24, 103), (89, 23, 102), (89, 22, 101), (89, 21, 100), (89, 20, 99), (89, 19, 98), (89, 18, 97), (89, 17, 96), (89, 16, 95), (89, 15, 94), (89, 14, 93), (89, 13, 92), (89, 12, 91), (89, 11, 90)] 133 b6 h92 := by rw [hh92]; exact s91.set1 89 85 132
  rw [hb6, hb5, hb4, hb3, hb2, hb1] at s92
  refine ⟨h92, ?_, s92⟩
  rw [u_X12_init]
  simp only [e_X12_init_0, e_X12_init_47, e_X12_init_95, e_X12_init_138, e_X12_init_186, e_X12_init_234, e_X12_init_278, e_X12_init_325, e_X12_init_359, r_aload_0, r_push, r_objInit, r_dup_r, r_callI_0, r_callI_1, r_callI_2, r_aft_n, r_return, cs_nil, cs_int, cs_ref, Nat.reduceAdd, Nat.reduceLeDiff, if_true, Nat.add_zero, k1, k2, k3, k4, k5, k6, k7, k8, k9, k10, k11, k12, k13, k14, k15, k16, k17, k18, k19, k20, k21, k22, k23, k24, k25, k26, k27, k28, k29, k30, k31, k32, k33, k34, k35, k36, k37, k38, k39, k40, k41, k42, k43, k44, k45, k46, k47, k48, k49, k50, k51, k52, k53, k54, k55, k56, k57, k58, k59, k60, k61, k62, k63, k64, k65, k66, k67, k68, k69, k70, k71, k72, k73, k74, k75, k76, k77, k78, k79, k80, k81, k82, k83, k84, k85, k86, k87, k88, k89, k90, k91, k92]
