/-! the law's start: both sides as they are made, then its loop -/
set_option maxHeartbeats 2000000 in
theorem st_class {h : AH} (z : Zc 1 h) (zz : ∀ a j, gI h a j = 0 ∧ gR h a j = none) : ∃ hE k, mX11_init [.ref 0] h = some (.inl none, hE) ∧ WF k ∧ GCl g0 k ∧ gN hE = 89 ∧ gX hE = 0 ∧ (∀ a j, a ≤ 88 → gI hE a j = gI k a j ∧ gR hE a j = gR k a j) ∧ (∀ a j, 89 ≤ a → gI hE a j = 0 ∧ gL hE a j = 0 ∧ gR hE a j = none) ∧ ∀ a j, 89 ≤ a → gR k a j = RF a j := by
  obtain ⟨hD, eD, M⟩ := st_made z zz
  obtain ⟨hE, k, eE, q⟩ := st_served M
  exact ⟨hE, k, eD.trans eE, q⟩
set_option maxHeartbeats 2000000 in
theorem ok_g0 : OKG g0.2.2.1 g0.2.2.2.1 g0.2.2.2.2.1 g0.2.2.2.2.2.1 g0.2.2.2.2.2.2.1 := ⟨Or.inl rfl, b0_wp, SB_m1, fun d _ _ => rfl, Nat.zero_le _, fun j hj => absurd hj (Nat.not_lt_zero _)⟩
set_option maxHeartbeats 2000000 in
theorem st_both : ∃ hE hG, mX11_init [.ref 0] (nw h00) = some (.inl none, hE) ∧ gN hE = 89 ∧ gX hE = 0 ∧ mX12_init [.ref 89] (nw hE) = some (.inl none, hG) ∧ gN hG = 133 ∧ gX hG = 0 ∧ GA g0 (xt (nw hG)) := by
  have z0 : Zc 0 h00 := ⟨rfl, rfl, fun a j _ => ⟨rfl, rfl, rfl⟩⟩
  have n1 : Nu [] 1 h00 (nw h00) := Nu.made z0 (Nu.refl z0) (by omega) (by decide)
  have z1 : Zc 1 (nw h00) := n1.zc z0 (by omega) (by decide)
  obtain ⟨hE, k, eE, wk, gk, E1, E2, E3, E4, E5⟩ := st_class z1 (fun a j => ⟨(n1.2.2.1 a j).1, n1.2.2.2 a j⟩)
  have zE : Zc 89 hE := ⟨E1, E2, E4⟩
  have nE : Nu [] 90 hE (nw hE) := Nu.made zE (Nu.refl zE) (by omega) (by decide)
  have zN : Zc 90 (nw hE) := nE.zc zE (by omega) (by decide)
  have rE : ∀ a j, gR (nw hE) a j = gR hE a j := fun a j => nE.2.2.2 a j
  obtain ⟨hG, kr, eG, gr, G1, G2, G3, G4, G5, G6⟩ := st_ref zN (fun a j ha => ⟨(nE.2.2.1 a j).1.trans (E4 a j ha).1, (nE.2.2.1 a j).2.trans (E4 a j ha).2.1, (rE a j).trans (E4 a j ha).2.2⟩)
  have zG : Zc 133 hG := ⟨G1, G2, fun a j ha => ⟨(G6 a j ha).1.1, (G6 a j ha).1.2, by
    rw [G4, rE, (E4 a j (by omega)).2.2, l12_RF (by omega)]
    show (At refs0 a j).or none = none
    cases e : At refs0 a j with
    | none => rfl
    | some x =>
      obtain ⟨p, hp, q1, -, -⟩ := At_mem e
      have := (refs0_89 p hp).1
      omega⟩⟩
  have nG : Nu [] 134 hG (nw hG) := Nu.made zG (Nu.refl zG) (by omega) (by decide)
  have iG : ∀ a j, gI (xt (nw hG)) a j = gI hG a j := fun a j => (nG.2.2.1 a j).1
  have lG : ∀ a j, gL (xt (nw hG)) a j = gL hG a j := fun a j => (nG.2.2.1 a j).2
  have rG : ∀ a j, gR (xt (nw hG)) a j = gR hG a j := fun a j => nG.2.2.2 a j
  have rfin : ∀ a j, gR (xt (nw hG)) a j = gR k a j := by
    intro a j
    rw [rG, G4, rE]
    by_cases c : a ≤ 88
    · have e : At l12 a j = none := by
        cases e : At l12 a j with
        | none => rfl
        | some x =>
          obtain ⟨p, hp, q1, -, -⟩ := At_mem e
          have := (l12_in p hp).1
          omega
      rw [e, ← (E3 a j c).2] <;> rfl
    · rw [(E4 a j (by omega)).2.2, l12_RF (by omega), E5 a j (by omega)]
      cases RF a j <;> rfl
  have eN : gN (xt (nw hG)) = 134 := nG.1
  refine ⟨hE, hG, eE, E1, E2, eG, G1, G2, ⟨eN, rfl, fun q hq => (rfin _ _).trans (wk.2.2 q hq)⟩, ok_g0, gk.eq (Or.inl rfl) ⟨fun a j ha => ?_, rfin⟩, gr.eq (fun a j ha => ?_)⟩
  · rw [iG, G5 a j ha, (nE.2.2.1 a j).1, (E3 a j (by omega)).1]
  · rw [iG, lG]
    by_cases c : a ≤ 132
    · exact G3 a j ha c
    · have x := G6 a j (by omega)
      exact ⟨x.1.1.trans x.2.1.symm, x.1.2.trans x.2.2.symm⟩
set_option maxHeartbeats 2000000 in
theorem whole_pure (L : Nat) (xs : Nat → Int32) (hL : L ≤ 3072) : ∃ o, fL_law_0 L xs (entL 7 [.ref 5000]) [] h00 = some o := by
  obtain ⟨hE, hG, eE, E1, E2, eG, G1, G2, ga⟩ := st_both
  obtain ⟨o, ho⟩ := law_loop (xs := xs) hL 514 0 fuelL (by omega) (by omega) (by unfold fuelL; omega) g0 (xt (nw hG)) none none ga
  refine ⟨o, ?_⟩
  have eL : entL 7 [.ref 5000] = [some (.ref 5000), none, none, none, none, none, none] := rfl
  have k0 : ∀ F L S, i_new 10 F L S h00 = F L (.ref 0 :: S) (nw h00) := fun F L S => k_new rfl rfl (by decide)
  have k1 : ∀ F L S, i_new 11 F L S hE = F L (.ref 89 :: S) (nw hE) := fun F L S => k_new E1 E2 (by decide)
  have k2 : ∀ F L S, i_newarr 3 1 F L (.int 1 :: S) hG = F L (.ref 133 :: S) (nw hG) := fun F L S => k_newarr G1 G2 (by decide)
  have af : ∀ (q : AH) (S : List Value) (F : Fn) (L : Lc), i_afterN (some (.inl none, q)) S F L = F L S q := fun q S F L => rfl
  rw [eL, e_L_law_0]
  simp only [k0, k1, k2, r_dup_r, r_callIN_0, eE, eG, af, cs_nil, cs_int, cs_ref, Nat.reduceAdd, Nat.reduceLeDiff, if_true, Nat.add_zero, r_astore_1r, r_astore_2r, r_astore_3r, r_istore_4r, r_push, r_ghost]
  exact ho
