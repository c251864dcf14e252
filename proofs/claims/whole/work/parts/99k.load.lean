/-! a brigade is loaded on both sides -/
set_option maxHeartbeats 2000000 in
theorem lz_start {bs : Nat → Nat} {n K b : Nat} {hc hr : AH} (wc : WF hc) (tt : TT bs n K hc) (r3 : gR hc 50 3 = some b) (e4 : gI hc 50 4 = N 0) (e5 : gI hc 50 5 = bi false) (e6 : gI hc 50 6 = bi false) (hc0 : HC b b0 hc) (e10 : gI hc b 10 = N 0) (rw0 : RW (b + 17) (rm b0 0) hc)
    (wr : WF hr) (im : IM bs n hr) (lx : LX bs n (tb bs n 0) hr) (e40 : gI hr 89 40 = N 0) (e47 : gI hr 89 47 = bi false) (e48 : gI hr 89 48 = bi false) (e41 : gI hr 89 41 = J (-1)) (hd : HdM b0 hr) : LZ bs n K b b0 0 false false hc hr := by
  have hnm : nmN b0 = 0 := by decide
  have hno := b0_no
  refine ⟨⟨⟨wc, tt, Nat.zero_le _, e4⟩, wr, im, lx, e40, e41⟩, ⟨r3, e5, e6, hc0, fun p hp k hk => ?_, ⟨by rw [hnm]; exact e10, fun _ => 0, fun i hi => ?_, fun o ho => absurd ho (hno o)⟩, fun k hk => rw0 k hk⟩, ⟨e47, e48, hd, fun a ha k hk => ?_, fun a ha k hk => ?_⟩, b0_wp⟩
  · rw [b0_cnt] at hk; exact absurd hk (Nat.not_lt_zero _)
  · rw [hnm] at hi; exact absurd hi (Nat.not_lt_zero _)
  · rw [b0_cnt] at hk; exact absurd hk (Nat.not_lt_zero _)
  · rw [b0_cnt] at hk; exact absurd hk (Nat.not_lt_zero _)
/-- the class has loaded a brigade -/
def CYes (β : BD) (d : Nat) (h h1 : AH) : Prop := WP β ∧ mX11_loadBrigade [.ref 0] h = some (.inl (some (.int (N (β 0 7)))), h1) ∧ WF h1 ∧ CBr β d h1 ∧ GC (cpl β) h1 ∧ CTt β d (fun _ => -1) h1 ∧ gI h1 6 0 = N 0 ∧ gI h1 0 10 = N 0 ∧ gI h1 0 11 = N 0 ∧ gI h1 0 12 = J (-1) ∧ EqM h h1
def noA (d : Nat) : List Nat := 4 :: 5 :: fcS d
def noQ : List (Nat × Nat) := [(2, 3), (0, 10), (0, 11), (0, 12)]
def CNo (bs : Nat → Nat) (n d code j : Nat) (h h1 : AH) : Prop := mX11_loadBrigade [.ref 0] h = some (.inl (some (.int (J (-1)))), h1) ∧ WF h1 ∧ Fx (noA d) noQ [(50, 3)] h h1 ∧ gI h1 0 10 = N 0 ∧ gI h1 0 11 = N code ∧ gI h1 0 12 = N (tb bs n j)
-- the class's load beside a reference that reads the same text 
set_option maxHeartbeats 2000000 in
theorem c_load {bs : Nat → Nat} {n : Nat} {h : AH} (w : WF h) (e10 : gI h 0 10 = N n) (ic : IC bs n h) {d b' : Nat} (hd : d = 8 ∨ d = 29) (hb' : b' = 37 - d) (r8 : gR h 0 8 = some b') (r9 : gR h 0 9 = some d)
    {hr : AH} (wr : WF hr) (im : IM bs n hr) (lx : LX bs n (tb bs n 0) hr) (e40 : gI hr 89 40 = N 0) (e47 : gI hr 89 47 = bi false) (e48 : gI hr 89 48 = bi false) (e41 : gI hr 89 41 = J (-1)) (hdm : HdM b0 hr) :
    (∃ β h1 hr', CYes β d h h1 ∧ Fr fmA fmQ hr hr' ∧ mX12_readBrigade [.ref 89] hr = some (.inl (some (.int (N 1))), hr') ∧ WF hr' ∧ HdM β hr' ∧ RowM (cnt β) β hr' ∧ gI hr' 89 40 = N 0 ∧ gI hr' 89 41 = J (-1)) ∨
    (∃ code j h1 hr', CNo bs n d code j h h1 ∧ Fr fmA fmQ hr hr' ∧ mX12_readBrigade [.ref 89] hr = some (.inl (some (.int (N 0))), hr') ∧ WF hr' ∧ gI hr' 89 40 = N code ∧ gI hr' 89 41 = N (tb bs n j)) := by
  obtain ⟨h2, K, w2, tt, x2, q10, q11, q12, yes, no⟩ := c_loadFrame w e10 ic hd r9
  obtain ⟨h3, er, w3, f3, a1, a2, a3, a4, a5, a6, a7⟩ := c_readStart w2 hd
  have x3 : Fx (fcS d) [] [(50, 3)] h2 h3 := f3.fxR
  have tt3 : TT bs n K h3 := TT.fr (h := sR h2 50 3 (some d)) (by
    obtain ⟨t0, t1, t2, t3, t4, t5⟩ := tt
    exact ⟨t0, t1, t2, t3, t4, fun j hj => by
      obtain ⟨u1, u2, u3⟩ := t5 j hj
      exact ⟨by rw [gR_sR, if_neg (by omega)]; exact u1, u2, u3⟩⟩) f3 (by rcases hd with rfl | rfl <;> rfl)
  have lz := lz_start w3 tt3 a1 a2 a3 a4 a5 a6 a7 wr im lx e40 e47 e48 e41 hdm
  have hK1 : K ≤ 1000 := tt.2.1
  have hloM : loC (noA d) noQ = true := by rcases hd with rfl | rfl <;> decide
  have hlo2 : loC svA svQ = true := by decide
  have hrb : mX12_readBrigade [.ref 89] hr = fX12_readBrigade_0 fuelN [some (.ref 89)] [] hr := u_X12_readBrigade ..
  rcases s_read hd (K + 1) b0 0 false false h3 hr lz (by omega) 0 (by omega) fuelN fuelN (by unfold fuelN; omega) (by unfold fuelN; omega) none with ⟨i', β, sl, ho, hc', hr', l', f', g', or, oc⟩ | ⟨hc', hr', oc, or, f', g', fl⟩
  · left
    obtain ⟨⟨⟨c1, c2, c3, c4⟩, c5, c6, c7, c8, c9⟩, ⟨b1, b2, b3, b4, b5, b6, b7⟩, ⟨m1, m2, m3, m4⟩, wp⟩ := l'
    obtain ⟨h4, y1, y2, y3, y4⟩ := c_complete wp c1 hd b4 b5 b7
    have w4 := y2.wf c1
    have x4 : Fx (noA d) noQ [(50, 3)] h h4 := (x2.mono (by rcases hd with rfl | rfl <;> rfl) (by rcases hd with rfl | rfl <;> rfl) rfl).trans ((x3.mono (by rcases hd with rfl | rfl <;> rfl) rfl rfl).trans ((f'.fx.mono (by rcases hd with rfl | rfl <;> rfl) rfl rfl).trans (y2.fx.mono (by rcases hd with rfl | rfl <;> rfl) rfl rfl)))
    have x24 : Fx (noA d) [] [(50, 3)] h2 h4 := (x3.mono (by rcases hd with rfl | rfl <;> rfl) rfl rfl).trans ((f'.fx.mono (by rcases hd with rfl | rfl <;> rfl) rfl rfl).trans (y2.fx.mono (by rcases hd with rfl | rfl <;> rfl) rfl rfl))
    have nm4 : NMC d β h4 := b6.same (fun s hs => ⟨rfl, fun k hk => rfl⟩) (y2.row (by simp) 10) (fun k => y2.row (by simp) k) (fun k => y2.row (by simp) k)
    have er4 := er.trans (oc h4 y1)
    have r84 : gR h4 0 8 = some b' := (x4.2 0 8 (by omega) rfl).trans r8
    have r94 : gR h4 0 9 = some d := (x4.2 0 9 (by omega) rfl).trans r9
    obtain ⟨h5, hh5⟩ : ∃ q, q = sR (sR h4 0 8 (some d)) 0 9 (some b') := ⟨_, rfl⟩
    have w5 : WF h5 := by rw [hh5]; exact (w4.sR _ _ _ (refsV (by decide +kernel))).sR _ _ _ (refsV (by decide +kernel))
    have bc5 : BC (cpl β) d h5 := by rw [hh5]; exact y3
    have cl5 : CL (cpl β) d h5 := by rw [hh5]; exact y4
    have r85 : gR h5 0 8 = some d := by rw [hh5, gR_sR, if_neg (by omega), gR_sR, if_pos ⟨rfl, rfl⟩]
    have r95 : gR h5 0 9 = some b' := by rw [hh5, gR_sR, if_pos ⟨rfl, rfl⟩]
    have x45 : Fx (noA d) noQ [(50, 3), (0, 8), (0, 9)] h h5 := by rw [hh5]; exact ((x4.mono (by simp) (by simp [noQ]) rfl).sR rfl).sR rfl
    obtain ⟨h6, z1, w6, x6, z2, z3, z4, z5, z6, z7, z8⟩ := c_serveAll wp w5 hd bc5 cl5 r85
    have hnd : gI h6 (d + 5) 0 = N (β 0 7) := z2.1.2.2.2.2.2.2.2.2
    have r86 : gR h6 0 8 = some d := (x6.2 0 8 (by omega) rfl).trans r85
    have nm6 : NMC d β h6 := NMC.same (hp := h5) (by rw [hh5]; exact nm4) (fun s hs => ⟨rfl, fun k hk => rfl⟩) (x6.i d 10 (by rcases hd with rfl | rfl <;> decide)) (fun k => x6.row (by rcases hd with rfl | rfl <;> decide) k) (fun k => x6.row (by rcases hd with rfl | rfl <;> decide) k)
    refine ⟨β, h6, hr', ⟨wp, yes h4 h6 b' _ w4 r84 r94 er4 (by rw [← hh5]; exact z1) w6 r86 hnd, w6, ⟨r86, ?_, nm6, z2, z3, z4, z7⟩, z5, z6, z8, ?_, ?_, ?_, ?_⟩, g', by rw [hrb]; exact or, c5, m3, m4, c8, c9⟩
    · rw [x6.2 0 9 (by omega) rfl, r95, hb']
    · have : gI h6 0 10 = gI h5 0 10 := x6.i 0 10 (by decide)
      rw [this, hh5]
      show gI h4 0 10 = N 0
      rw [x24.i 0 10 (by rcases hd with rfl | rfl <;> rfl)]; exact q10
    · have : gI h6 0 11 = gI h5 0 11 := x6.i 0 11 (by decide)
      rw [this, hh5]
      show gI h4 0 11 = N 0
      rw [x24.i 0 11 (by rcases hd with rfl | rfl <;> rfl)]; exact q11
    · have : gI h6 0 12 = gI h5 0 12 := x6.i 0 12 (by decide)
      rw [this, hh5]
      show gI h4 0 12 = J (-1)
      rw [x24.i 0 12 (by rcases hd with rfl | rfl <;> rfl)]; exact q12
    · exact (x45.eqM hloM).trans (x6.eqM hlo2)
  · right
    obtain ⟨code, j, g1, g2, g3, g4, g5, g6, g7⟩ := fl
    have wc' := f'.wf w3
    have tt' : TT bs n K hc' := tt3.fr f' (by rcases hd with rfl | rfl <;> rfl)
    have eoff : gI hc' 4 j = N (tb bs n j) := (tt'.2.2.2.2.2 j g3).2.1
    have x4 : Fx (noA d) noQ [(50, 3)] h hc' := (x2.mono (by rcases hd with rfl | rfl <;> rfl) (by rcases hd with rfl | rfl <;> rfl) rfl).trans ((x3.mono (by rcases hd with rfl | rfl <;> rfl) rfl rfl).trans (f'.fx.mono (by rcases hd with rfl | rfl <;> rfl) rfl rfl))
    have x24 : Fx (noA d) [] [(50, 3)] h2 hc' := (x3.mono (by rcases hd with rfl | rfl <;> rfl) rfl rfl).trans (f'.fx.mono (by rcases hd with rfl | rfl <;> rfl) rfl rfl)
    have e := no hc' (N code) j wc' (er.trans oc) g4 g5 (by omega)
    rw [eoff] at e
    refine ⟨code, j, _, hr', ⟨e, by simp only [WF_sI]; exact wc', ?_, ?_, ?_, ?_⟩, g', by rw [hrb]; exact or, g'.wf wr, g6, g7⟩
    · exact x4.trans ((((Fr.refl (noA d) noQ hc').sI (by unfold inF; rw [show noQ.contains (0, 11) = true from rfl, Bool.or_true]) _).sI (by unfold inF; rw [show noQ.contains (0, 12) = true from rfl, Bool.or_true]) _).fx.mono (by simp) (by simp [noQ]) rfl)
    · rw [gI_nk (by omega), gI_nk (by omega), x24.i 0 10 (by rcases hd with rfl | rfl <;> rfl)]; exact q10
    · rw [gI_nk (by omega), gI_eq]
    · rw [gI_eq]
