/-! a brigade is loaded: the state afterwards -/
set_option maxHeartbeats 2000000 in
theorem EqC.of {A : List Nat} {Q : List (Nat × Nat)} {h h' : AH} (f : Fr A Q h h') (ok : hiC A Q = true) : EqC h h' := f.eqC ok
set_option maxHeartbeats 2000000 in
theorem Fr.hiC2 {A B : List Nat} {Q P : List (Nat × Nat)} {h h1 h2 : AH} (x : EqC h h1) (y : Fr B P h1 h2) (ok : hiC B P = true) : EqC h h2 := x.trans (y.eqC ok)
set_option maxHeartbeats 2000000 in
theorem rI_KL : ∀ a ∈ rI, ∃ p ∈ KL, p.1 = a ∧ p.1 ≠ 112 ∧ (if a = 105 then 15 else if a < 94 then 20 else if a < 96 then 6 else if a < 99 then 10 else if a < 102 then 12 else 5) ≤ p.2.1 := by decide
set_option maxHeartbeats 2000000 in
theorem rL_KN : ∀ a ∈ rL, ∃ p ∈ KN, p.1 = a ∧ (if a = 90 then 12 else if a = 94 then 6 else if a = 96 then 10 else 5) ≤ p.2.1 := by decide
set_option maxHeartbeats 2000000 in
theorem cnt_rI {β : BD} (cb : CB β) : ∀ a ∈ rI, cnt β a ≤ (if a = 105 then 15 else if a < 94 then 20 else if a < 96 then 6 else if a < 99 then 10 else if a < 102 then 12 else 5) := by
  obtain ⟨q1, q2, q3, q4, q5, q6⟩ := cb
  intro a ha
  have : a = 91 ∨ a = 92 ∨ a = 93 ∨ a = 95 ∨ a = 97 ∨ a = 98 ∨ a = 99 ∨ a = 100 ∨ a = 101 ∨ a = 103 ∨ a = 104 ∨ a = 105 ∨ a = 106 ∨ a = 107 ∨ a = 108 := by simpa [rI] using ha
  rcases this with rfl | rfl | rfl | rfl | rfl | rfl | rfl | rfl | rfl | rfl | rfl | rfl | rfl | rfl | rfl <;> (unfold cnt; simp; omega)
set_option maxHeartbeats 2000000 in
theorem cnt_rL {β : BD} (cb : CB β) : ∀ a ∈ rL, cnt β a ≤ (if a = 90 then 12 else if a = 94 then 6 else if a = 96 then 10 else 5) := by
  obtain ⟨q1, q2, q3, q4, q5, q6⟩ := cb
  intro a ha
  have : a = 90 ∨ a = 94 ∨ a = 96 ∨ a = 102 := by simpa [rL] using ha
  rcases this with rfl | rfl | rfl | rfl <;> (unfold cnt; simp; omega)
-- a load is answered alike 
set_option maxHeartbeats 2000000 in
theorem s_load {g : SG} {h : AH} (ga : GA g h) : ∃ x h1 h2 g', mX11_loadBrigade [.ref 0] h = some (.inl (some (.int x)), h1) ∧ WF h1 ∧ mX12_loadBrigade [.ref 89] h1 = some (.inl (some (.int x)), h2) ∧ GA g' h2 := by
  obtain ⟨bs, n, β0, b', s, past, k, err, off⟩ := g
  obtain ⟨w, ⟨hb', wp0, sb0, hs0, hk0, hp0⟩, ⟨⟨e10, ic, e11, e12⟩, cbr, gc0, ctt, chi⟩, ⟨⟨im, e38, e39⟩, ⟨hd0, rm0, bm0, pw0⟩, gm0, mi0, mhi⟩⟩ := ga
  obtain ⟨r8, r9, -⟩ := id cbr
  have r9 : gR h 0 9 = some (37 - b') := r9
  obtain ⟨d, hdd⟩ : ∃ d, d = 37 - b' := ⟨_, rfl⟩
  have hd : d = 8 ∨ d = 29 := by have : b' = 8 ∨ b' = 29 := hb'; omega
  have hbd : b' = 37 - d := by have : b' = 8 ∨ b' = 29 := hb'; omega
  rw [← hdd] at r9
  -- what the class does: found with the reference on the first heap
  obtain ⟨h5, w5, f5, kp5, hd5, im5, lx5, q40, q47, q48, q41, -⟩ := m_loadFrame w im
  have first := c_load w e10 ic hd hbd r8 r9 w5 im5 lx5 q40 q47 q48 q41 hd5
  have hcls : ∃ y h1, mX11_loadBrigade [.ref 0] h = some (.inl (some (.int y)), h1) ∧ WF h1 ∧ EqM h h1 := by
    rcases first with ⟨β, h1, -, ⟨-, z1, z2, -, -, -, -, -, -, -, z3⟩, -⟩ | ⟨code, j, h1, -, ⟨z1, z2, z3, -⟩, -⟩
    · exact ⟨_, h1, z1, z2, z3⟩
    · exact ⟨_, h1, z1, z2, z3.eqM (by rcases hd with rfl | rfl <;> decide)⟩
  obtain ⟨y, h1, eC, w1, em1⟩ := hcls
  have im1 : IM bs n h1 := (MIn.eq (err := err) (off := off) ⟨im, e38, e39⟩ em1).1
  obtain ⟨h5', w5', f5', kp5', hd5', im5', lx5', p40, p47, p48, p41, yes, no⟩ := m_loadFrame w1 im1
  have eqC5 : EqC h1 h5' := f5'.eqC (by decide)
  rcases c_load w e10 ic hd hbd r8 r9 w5' im5' lx5' p40 p47 p48 p41 hd5' with ⟨β, h1', hr', ⟨wp, z1, z2, cbr', gc', ctt', ch', i10, i11, i12, z3⟩, fr, er, wr', hdm, rowm, m40, m41⟩ | ⟨code, j, h1', hr', ⟨z1, z2, z3, i10, i11, i12⟩, fr, er, wr', m40, m41⟩
  · rw [eC] at z1
    have hy : y = N (β 0 7) ∧ h1 = h1' := by
      injection z1 with z1; injection z1 with z1 z1'; injection z1 with z1; injection z1 with z1; injection z1 with z1
      exact ⟨z1, z1'⟩
    obtain ⟨hy, hh1⟩ := hy
    subst hh1
    obtain ⟨h6, hh6⟩ : ∃ q, q = sI (sI (sI hr' 89 37 (N 0)) 89 38 (N 0)) 89 39 (J (-1)) := ⟨_, rfl⟩
    have w6 : WF h6 := by rw [hh6]; simp only [WF_sI]; exact wr'
    have f6 : Fr [] [(89, 37), (89, 38), (89, 39)] hr' h6 := by rw [hh6]; exact (((Fr.refl _ _ _).sI rfl _).sI rfl _).sI rfl _
    obtain ⟨h7, x1, x2, x3, x4, x5, x6, x7, x8, x9⟩ := m_settleB wp w6 (hdm.fr f6 (by decide)) (rowm.fr f6 (by decide))
    have w7 := x2.wf w6
    have e7 : gI h7 89 7 = N (β 0 7) := x3.1 7 (by omega) (by omega)
    have eM := yes hr' h7 (N (β 0 7)) (N 0) (J (-1)) wr' er m40 m41 (by rw [← hh6]; exact x1) w7 e7
    have eqC : EqC h1 h7 := ((eqC5.trans (fr.eqC (by decide))).trans (f6.eqC (by decide))).trans (x2.eqC (by decide))
    have f57 : Fr (110 :: 111 :: 112 :: 109 :: 114 :: 115 :: fmA) ((89, 37) :: (89, 38) :: (89, 39) :: (89, 55) :: (89, 58) :: (89, 59) :: (89, 60) :: (89, 75) :: (LQ ++ fmQ)) h1 h7 := (f5'.mono (by decide) (by decide)).trans ((fr.mono (by decide) (by decide)).trans ((f6.mono (by decide) (by decide)).trans (x2.mono (by decide) (by decide))))
    have pw1 : PW h1 := fun k hk => (em1 132 k (by omega)).1.trans (pw0 k hk)
    refine ⟨N (β 0 7), h1, h7, (bs, 0, β, d, fun _ => -1, fun _ _ => -1, 0, N 0, J (-1)), by rw [eC, hy], w1, eM, w7, ⟨hd, wp, SB_m1, fun _ _ _ => rfl, Nat.zero_le _, fun j hj => absurd hj (Nat.not_lt_zero _)⟩, GCl.eq (g := (bs, 0, β, d, fun _ => -1, fun _ _ => -1, 0, N 0, J (-1))) (h := h1) hd ⟨⟨i10, ⟨Nat.zero_le _, fun k hk => absurd hk (Nat.not_lt_zero _), ic.2.2⟩, i11, i12⟩, cbr', gc', ctt', ⟨ch', fun j hj => absurd hj (Nat.not_lt_zero _)⟩⟩ eqC, ⟨⟨Nat.zero_le _, ?_, fun k hk => absurd hk (Nat.not_lt_zero _), im.2.2.2⟩, ?_, ?_⟩, ⟨(hdm.fr f6 (by decide)).fr x2 (by decide), ?_, x3, ?_⟩, ?_, ⟨x5, x7, x8, x9⟩, ⟨x6, fun j hj => absurd hj (Nat.not_lt_zero _)⟩⟩
    · rw [x2.i 89 37 rfl, hh6]; simp (disch := first | decide | assumption | omega) only [gI_eq, gI_ne, gI_nk, gI_steq, gI_stne]
    · rw [x2.i 89 38 rfl, hh6]; simp (disch := first | decide | assumption | omega) only [gI_eq, gI_ne, gI_nk, gI_steq, gI_stne]
    · rw [x2.i 89 39 rfl, hh6]; simp (disch := first | decide | assumption | omega) only [gI_eq, gI_ne, gI_nk, gI_steq, gI_stne]
    · exact (rowm.fr f6 (by decide)).fr x2 (by decide)
    · intro k hk
      rw [f57.row (by decide)]; exact pw1 k hk
    · intro a ha
      left
      have h10 : nE (cpl β) ≤ 10 := wp.wb.1.2.2.1
      exact x4 a (Nat.lt_of_lt_of_le ha (Nat.pow_le_pow_right (n := 2) (by decide) h10))
  · rw [eC] at z1
    have hy : y = J (-1) ∧ h1 = h1' := by
      injection z1 with z1; injection z1 with z1 z1'; injection z1 with z1; injection z1 with z1; injection z1 with z1
      exact ⟨z1, z1'⟩
    obtain ⟨hy, hh1⟩ := hy
    subst hh1
    obtain ⟨h6, hh6⟩ : ∃ q, q = sI (sI (sI hr' 89 37 (N 0)) 89 38 (N code)) 89 39 (N (tb bs n j)) := ⟨_, rfl⟩
    have w6 : WF h6 := by rw [hh6]; simp only [WF_sI]; exact wr'
    have f6 : Fr [] [(89, 37), (89, 38), (89, 39)] hr' h6 := by rw [hh6]; exact (((Fr.refl _ _ _).sI rfl _).sI rfl _).sI rfl _
    obtain ⟨h7, x1, x2, k1, k2, k3⟩ := m_keep1 w6
    have w7 := x2.wf w6
    have eM := no hr' h7 (N code) (N (tb bs n j)) wr' er m40 m41 (by rw [← hh6]; exact x1)
    have eqC : EqC h1 h7 := ((eqC5.trans (fr.eqC (by decide))).trans (f6.eqC (by decide))).trans (x2.eqC (by decide))
    -- the kept cells come back
    have f56 : Fr fmA ((89, 37) :: (89, 38) :: (89, 39) :: fmQ) h5' h6 := (fr.mono (by decide) (by decide)).trans (f6.mono (by decide) (by decide))
    obtain ⟨l1, l2, l3⟩ := kp5'
    have bI : ∀ p ∈ KL, p.1 ≠ 112 → ∀ k, k < p.2.1 → gI h7 p.1 k = gI h1 p.1 k := fun p hp h112 k hk => by
      rw [k1 p hp h112 k hk, f56.row (by decide)]
      exact l1 p hp h112 k hk
    have bH : ∀ k, k < 10 → gI h7 89 (k + 1) = gI h1 89 (k + 1) := fun k hk => by
      rw [k2 k hk, f56.row (by decide)]
      exact l2 k hk
    have bL : ∀ p ∈ KN, ∀ k, k < p.2.1 → gL h7 p.1 k = gL h1 p.1 k := fun p hp k hk => by
      rw [k3 p hp k hk, f56.rowL (by decide)]
      exact l3 p hp k hk
    have f17 : Fr (110 :: 111 :: 112 :: (fmA ++ KA)) ((89, 37) :: (89, 38) :: (89, 39) :: (LQ ++ fmQ ++ KQ)) h1 h7 := (f5'.mono (by decide) (by decide)).trans ((f56.mono (by decide) (by decide)).trans (x2.mono (by decide) (by decide)))
    obtain ⟨⟨hd1, ⟨rI1, rL1⟩, ⟨b1, b2, b3, b4, b5, b6, b7⟩, pw1⟩, gm1, mi1, mhi1⟩ : MBr β0 h1 ∧ GM (cpl β0) h1 ∧ MI2 0 (N (β0 0 8)) (N (β0 0 10)) s h1 ∧ MHi past k h1 := ⟨MBr.eq ⟨hd0, rm0, bm0, pw0⟩ em1, fun a ha => by rw [(em1 115 a (by omega)).1]; exact gm0 a ha, mi0.eq em1, MHi.eq mhi em1⟩
    have cb := wp0.1
    have rI7 : ∀ a ∈ rI, ∀ k, k < cnt β0 a → gI h7 a k = VJ β0 a k := fun a ha k hk => by
      obtain ⟨p, hp, hp1, hp2, hp3⟩ := rI_KL a ha
      have := bI p hp hp2 k (Nat.lt_of_lt_of_le hk (Nat.le_trans (cnt_rI cb a ha) hp3))
      rw [hp1] at this
      rw [this]; exact rI1 a ha k hk
    have rL7 : ∀ a ∈ rL, ∀ k, k < cnt β0 a → gL h7 a k = Lg (β0 a k) := fun a ha k hk => by
      obtain ⟨p, hp, hp1, hp3⟩ := rL_KN a ha
      have := bL p hp k (Nat.lt_of_lt_of_le hk (Nat.le_trans (cnt_rL cb a ha) hp3))
      rw [hp1] at this
      rw [this]; exact rL1 a ha k hk
    have hd7 : HdM β0 h7 := fun i h1' h2' => by
      have := bH (i - 1) (by omega)
      rw [show i - 1 + 1 = i by omega] at this
      rw [this]; exact hd1 i h1' h2'
    have hnD : nD (cpl β0) = β0 0 7 := rfl
    refine ⟨J (-1), h1, h7, (bs, 0, β0, b', s, past, k, N code, N (tb bs n j)), by rw [eC, hy], w1, eM, w7, ⟨hb', wp0, sb0, hs0, hk0, hp0⟩, GCl.eq (g := (bs, 0, β0, b', s, past, k, N code, N (tb bs n j))) (h := h1) hb' ⟨⟨i10, ⟨Nat.zero_le _, fun k hk => absurd hk (Nat.not_lt_zero _), ic.2.2⟩, i11, i12⟩, ?_, ?_, ?_, ?_⟩ eqC, ⟨⟨Nat.zero_le _, ?_, fun k hk => absurd hk (Nat.not_lt_zero _), im.2.2.2⟩, ?_, ?_⟩, ⟨hd7, ⟨rI7, rL7⟩, ⟨fun i h1 h2 => hd7 i h1 h2, ?_, fun s hs => rI7 95 (by decide) s hs, fun e he => ⟨rI7 97 (by decide) e he, rI7 98 (by decide) e he⟩, fun s hs => ⟨rI7 99 (by decide) s hs, rI7 100 (by decide) s hs, rI7 101 (by decide) s hs⟩, fun d hd => ⟨rI7 103 (by decide) d hd, rI7 104 (by decide) d hd, rI7 106 (by decide) d hd, rI7 107 (by decide) d hd, rI7 108 (by decide) d hd, fun k hk => rI7 105 (by decide) _ (by rw [hnD] at hd; show 3 * d + k < 3 * β0 0 7; omega)⟩, ?_⟩, ?_⟩, ?_, ⟨?_, ?_, ?_, ?_⟩, ⟨?_, ?_⟩⟩
    · exact cbr.on (fun a ha k => z3.row (by
        have ha : (b' ≤ a ∧ a ≤ b' + 20) ∨ a = 53 := ha
        rcases hd with rfl | rfl
        · have : b' = 29 := by omega
          subst this
          simp [noA, noQ, fcS]; omega
        · have : b' = 8 := by omega
          subst this
          simp [noA, noQ, fcS]; omega) k) (fun p hp => by
        have : p = (0, 8) ∨ p = (0, 9) ∨ p = (51, 0) ∨ p = (72, 12) := by simpa using hp
        rcases this with rfl | rfl | rfl | rfl <;> exact z3.2 _ _ (by decide) rfl)
    · intro a ha
      rw [show gI h1 52 a = gI h 52 a from z3.row (by rcases hd with rfl | rfl <;> decide) a]
      exact gc0 a ha
    · exact ctt.on (fun a ha k => z3.row (by
        rcases hd with rfl | rfl <;> (simp [noA, noQ, fcS]; omega)) k) (z3.2 56 12 (by decide) rfl)
    · exact ⟨(z3.i 6 0 (by rcases hd with rfl | rfl <;> decide)).trans chi.1, fun j hj d hdd => (z3.row (by rcases hd with rfl | rfl <;> decide) _).trans (chi.2 j hj d hdd)⟩
    · rw [x2.i 89 37 rfl, hh6]; simp (disch := first | decide | assumption | omega) only [gI_eq, gI_ne, gI_nk, gI_steq, gI_stne]
    · rw [x2.i 89 38 rfl, hh6]; simp (disch := first | decide | assumption | omega) only [gI_eq, gI_ne, gI_nk, gI_steq, gI_stne]
    · rw [x2.i 89 39 rfl, hh6]; simp (disch := first | decide | assumption | omega) only [gI_eq, gI_ne, gI_nk, gI_steq, gI_stne]
    · rw [f17.i 89 55 (by decide)]; exact b2
    · intro k hk; rw [f17.row (by decide)]; exact b7 k hk
    · intro k hk; rw [f17.row (by decide)]; exact pw1 k hk
    · intro a ha; rw [f17.row (by decide)]; exact gm1 a ha
    · intro d hd; rw [f17.row (by decide)]; exact mi1.1 d hd
    · rw [f17.i 89 58 (by decide)]; exact mi1.2.1
    · rw [f17.i 89 59 (by decide)]; exact mi1.2.2.1
    · rw [f17.i 89 60 (by decide)]; exact mi1.2.2.2
    · rw [f17.i 89 75 (by decide)]; exact mhi1.1
    · intro j hj d hd; rw [f17.row (by decide)]; exact mhi1.2 j hj d hd
