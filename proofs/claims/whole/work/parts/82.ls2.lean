def cix (a : Nat) : Nat := if a = 90 then 2 else if a < 94 then 3 else if a < 96 then 4 else if a < 99 then 5 else if a < 102 then 6 else 7
set_option maxHeartbeats 2000000 in
theorem cnt_cix (β : BD) (a : Nat) : cnt β a = if a = 105 then 3 * β 0 (cix a) else β 0 (cix a) := by
  unfold cnt cix
  by_cases c1 : a = 90
  · rw [if_pos c1, if_pos c1, if_neg (by omega)]
  · rw [if_neg c1, if_neg c1]
    by_cases c2 : a < 94
    · rw [if_pos c2, if_pos c2, if_neg (by omega)]
    · rw [if_neg c2, if_neg c2]
      by_cases c3 : a < 96
      · rw [if_pos c3, if_pos c3, if_neg (by omega)]
      · rw [if_neg c3, if_neg c3]
        by_cases c4 : a < 99
        · rw [if_pos c4, if_pos c4, if_neg (by omega)]
        · rw [if_neg c4, if_neg c4]
          by_cases c5 : a < 102
          · rw [if_pos c5, if_pos c5, if_neg (by omega)]
          · rw [if_neg c5, if_neg c5]
set_option maxHeartbeats 2000000 in
theorem cnt_i {γ : BD} {i m a : Nat} : cnt (ub γ 0 i m) a = if cix a = i then (if a = 105 then 3 * m else m) else cnt γ a := by
  rw [cnt_cix, cnt_cix]
  by_cases c : cix a = i
  · rw [if_pos c, c, ub_eq]
  · rw [if_neg c, ub_nk c]
set_option maxHeartbeats 2000000 in
theorem RowC.mn {b : Nat} {c c' : Nat → Nat} {β : BD} {h : AH} (r : RowC b c β h) (hc : ∀ p ∈ rC, c' p.1 ≤ c p.1) : RowC b c' β h := fun p hp k hk => r p hp k (Nat.lt_of_lt_of_le hk (hc p hp))
def AddN (β β' : BD) (s v : Nat) : Prop := s < 4 ∧ (∀ t, t < 4 → nc β' t = nc β t + (if t = s then 1 else 0)) ∧ (∀ t, t < 4 → ∀ k, k < nc β t → β' (nrow t) k = β (nrow t) k) ∧ β' (nrow s) (nc β s) = v
set_option maxHeartbeats 2000000 in
theorem AddN.ok {β β' : BD} {s v : Nat} (h : AddN β β' s v) (hs : nc β s < 100) (o : Nat) : okO β' o ↔ okO β o ∨ o = 100 * s + nc β s := by
  obtain ⟨h1, h2, h3, h4⟩ := h
  unfold okO
  constructor
  · intro ⟨a, b⟩
    rw [h2 _ a] at b
    by_cases c : o / 100 = s
    · rw [if_pos c] at b
      by_cases d : o % 100 = nc β s
      · right; omega
      · left; refine ⟨a, ?_⟩; rw [c] at b ⊢; omega
    · rw [if_neg c] at b; exact Or.inl ⟨a, by omega⟩
  · rintro (⟨a, b⟩ | e)
    · refine ⟨a, ?_⟩; rw [h2 _ a]; omega
    · have e1 : o / 100 = s := by omega
      have e2 : o % 100 = nc β s := by omega
      rw [e1, e2, h2 s h1, if_pos rfl]
      exact ⟨h1, by omega⟩
set_option maxHeartbeats 2000000 in
theorem AddN.ov {β β' : BD} {s v : Nat} (h : AddN β β' s v) {o : Nat} (ho : okO β o) : nv β' o = nv β o := h.2.2.1 _ ho.1 _ ho.2
set_option maxHeartbeats 2000000 in
theorem AddN.nw {β β' : BD} {s v : Nat} (h : AddN β β' s v) (hs : nc β s < 100) : nv β' (100 * s + nc β s) = v := by
  unfold nv
  rw [show (100 * s + nc β s) / 100 = s from by omega, show (100 * s + nc β s) % 100 = nc β s from by omega]
  exact h.2.2.2
set_option maxHeartbeats 2000000 in
theorem AddN.nm {β β' : BD} {s v : Nat} (h : AddN β β' s v) : nmN β' = nmN β + 1 := by
  obtain ⟨h1, h2, -, -⟩ := h
  have h0 := h2 0 (by decide)
  have h1' := h2 1 (by decide)
  have h2' := h2 2 (by decide)
  have h3 := h2 3 (by decide)
  unfold nc at h0 h1' h2' h3
  simp only [Nat.reduceEqDiff, if_true, if_false] at h0 h1' h2' h3
  unfold nmN
  rcases (show s = 0 ∨ s = 1 ∨ s = 2 ∨ s = 3 by omega) with rfl | rfl | rfl | rfl <;> simp at h0 h1' h2' h3 <;> omega
set_option maxHeartbeats 2000000 in
theorem ND.add {β β' : BD} {s v : Nat} (nd : ND β) (h : AddN β β' s v) (hs : nc β s < 100) (hv : v < 2 ^ 31) (hf : ∀ o, okO β o → nv β o ≠ v) : ND β' := by
  refine ⟨fun o o' h1 h2 h3 => ?_, fun o ho => ?_⟩
  · rcases (h.ok hs o).mp h1 with a | a <;> rcases (h.ok hs o').mp h2 with b | b
    · rw [h.ov a, h.ov b] at h3; exact nd.1 o o' a b h3
    · rw [h.ov a, b, h.nw hs] at h3; exact absurd h3 (hf o a)
    · rw [h.ov b, a, h.nw hs] at h3; exact absurd h3.symm (hf o' b)
    · rw [a, b]
  · rcases (h.ok hs o).mp ho with a | a
    · rw [h.ov a]; exact nd.2 o a
    · rw [a, h.nw hs]; exact hv
set_option maxHeartbeats 2000000 in
theorem NMC.add {b : Nat} {β β' : BD} {hp hp' : AH} {s v : Nat} (nm : NMC b β hp) (h : AddN β β' s v) (hs : nc β s < 100) (e10 : gI hp' b 10 = N (nmN β + 1)) (e15 : ∀ k, gI hp' (b + 15) k = if k = nmN β then N v else gI hp (b + 15) k) (e16 : ∀ k, gI hp' (b + 16) k = if k = nmN β then N (100 * s + nc β s) else gI hp (b + 16) k) : NMC b β' hp' := by
  obtain ⟨n1, ob, n2, n3⟩ := nm
  refine ⟨by rw [e10, h.nm], fun i => if i = nmN β then 100 * s + nc β s else ob i, fun i hi => ?_, fun o ho => ?_⟩
  · rw [h.nm] at hi
    rw [e15, e16]
    by_cases c : i = nmN β
    · simp only [if_pos c]
      exact ⟨(h.ok hs _).mpr (Or.inr rfl), by rw [h.nw hs], trivial⟩
    · simp only [if_neg c]
      obtain ⟨a1, a2, a3⟩ := n2 i (by omega)
      exact ⟨(h.ok hs _).mpr (Or.inl a1), by rw [h.ov a1]; exact a2, a3⟩
  · rw [h.nm]
    rcases (h.ok hs o).mp ho with a | a
    · obtain ⟨i, i1, i2⟩ := n3 o a
      exact ⟨i, by omega, by show (if i = nmN β then _ else _) = o; rw [if_neg (by omega)]; exact i2⟩
    · exact ⟨nmN β, by omega, by show (if nmN β = nmN β then _ else _) = o; rw [if_pos rfl, a]⟩
set_option maxHeartbeats 2000000 in
theorem nm_33 {β : BD} (cb : CB β) {s : Nat} (hs : s < 4) (h : nc β s < (if s = 0 then 12 else if s = 1 then 6 else if s = 2 then 10 else 5)) : nmN β < 33 := by
  obtain ⟨b1, b2, b3, b4, b5, b6⟩ := cb
  unfold nmN
  unfold nc at h
  rcases (show s = 0 ∨ s = 1 ∨ s = 2 ∨ s = 3 by omega) with rfl | rfl | rfl | rfl <;> simp at h <;> omega
/-- the cells of a name that is added -/
def adN (b nm : Nat) (v o : Nat) (h : AH) : AH := sI (sI (sI h (b + 15) nm (N v)) (b + 16) nm (N o)) b 10 (N (nm + 1))
set_option maxHeartbeats 2000000 in
theorem c_addName {b : Nat} (hb : b = 8 ∨ b = 29) {h : AH} (w : WF h) {nm v s q : Nat} (h10 : gI h b 10 = N nm) (hn : nm < 33) : mX0_addName [.ref b, .int (N v), .int (N s), .int (N q)] h = some (.inl none, adN b nm v (100 * s + q) h) := by
  have e1 : gI (sI h (b + 15) nm (N v)) b 10 = N nm := by rw [gI_ne (by omega)]; exact h10
  have e2 : gI (sI (sI h (b + 15) nm (N v)) (b + 16) nm (N (100 * s + q))) b 10 = N nm := by rw [gI_ne (by omega)]; exact e1
  unfold adN
  rw [u_X0_addName, e_X0_addName_0]
  obtain ⟨h1, hh1⟩ : ∃ x, x = sI h (b + 15) nm (N v) := ⟨_, rfl⟩
  have w1 : WF h1 := by rw [hh1]; exact w.sI _ _ _
  rw [← hh1] at e1 e2 ⊢
  obtain ⟨h2, hh2⟩ : ∃ x, x = sI h1 (b + 16) nm (N (100 * s + q)) := ⟨_, rfl⟩
  have w2 : WF h2 := by rw [hh2]; exact w1.sI _ _ _
  rw [← hh2] at e2 ⊢
  simp (disch := first | with_reducible assumption | exact Nat.le_of_ble_eq_true rfl | (simp only [WF_sI, WF_sL, WF_stR, WF_cpI]; with_reducible assumption) | omega | rfl | (show okF _ = true; decide)) only [r_push, r_iload_0, r_aload_0, r_lload_0, r_iload_1, r_aload_1, r_lload_1, r_iload_2, r_aload_2, r_lload_2, r_iload_3, r_aload_3, r_lload_3, r_iload_4, r_aload_4, r_lload_4, r_iload_5, r_aload_5, r_lload_5, r_iload_6, r_aload_6, r_lload_6, r_iload_7, r_aload_7, r_lload_7, r_iload_8, r_aload_8, r_lload_8, r_istore_00, r_astore_00, r_iinc_00, r_lstore_00, r_istore_1i, r_astore_1i, r_iinc_1i, r_lstore_1i, r_istore_1r, r_astore_1r, r_iinc_1r, r_lstore_1r, r_istore_1n, r_astore_1n, r_iinc_1n, r_lstore_1n, r_istore_1z, r_astore_1z, r_iinc_1z, r_lstore_1z, r_istore_2i, r_astore_2i, r_iinc_2i, r_lstore_2i, r_istore_2r, r_astore_2r, r_iinc_2r, r_lstore_2r, r_istore_2n, r_astore_2n, r_iinc_2n, r_lstore_2n, r_istore_2z, r_astore_2z, r_iinc_2z, r_lstore_2z, r_istore_3i, r_astore_3i, r_iinc_3i, r_lstore_3i, r_istore_3r, r_astore_3r, r_iinc_3r, r_lstore_3r, r_istore_3n, r_astore_3n, r_iinc_3n, r_lstore_3n, r_istore_3z, r_astore_3z, r_iinc_3z, r_lstore_3z, r_istore_4i, r_astore_4i, r_iinc_4i, r_lstore_4i, r_istore_4r, r_astore_4r, r_iinc_4r, r_lstore_4r, r_istore_4n, r_astore_4n, r_iinc_4n, r_lstore_4n, r_istore_4z, r_astore_4z, r_iinc_4z, r_lstore_4z, r_istore_5i, r_astore_5i, r_iinc_5i, r_lstore_5i, r_istore_5r, r_astore_5r, r_iinc_5r, r_lstore_5r, r_istore_5n, r_astore_5n, r_iinc_5n, r_lstore_5n, r_istore_5z, r_astore_5z, r_iinc_5z, r_lstore_5z, r_istore_6i, r_astore_6i, r_iinc_6i, r_lstore_6i, r_istore_6r, r_astore_6r, r_iinc_6r, r_lstore_6r, r_istore_6n, r_astore_6n, r_iinc_6n, r_lstore_6n, r_istore_6z, r_astore_6z, r_iinc_6z, r_lstore_6z, r_istore_7i, r_astore_7i, r_iinc_7i, r_lstore_7i, r_istore_7r, r_astore_7r, r_iinc_7r, r_lstore_7r, r_istore_7n, r_astore_7n, r_iinc_7n, r_lstore_7n, r_istore_7z, r_astore_7z, r_iinc_7z, r_lstore_7z, r_istore_8i, r_astore_8i, r_iinc_8i, r_istore_8r, r_astore_8r, r_iinc_8r, r_istore_8n, r_astore_8n, r_iinc_8n, r_istore_8z, r_astore_8z, r_iinc_8z, r_bin, r_lbin, r_div, r_ineg, r_i2l, r_i2b, r_i2c, r_lcmp, r_dup_i, r_dup_r, r_pop_i, r_pop_r, r_dup2, r_ifeq, r_iceq, r_iflt, r_iclt, r_ifge, r_icge, r_ifgt, r_icgt, r_ifle, r_icle, r_ifne, r_icne, r_putR, cs_nil, cs_int, cs_ref, cs_null, cs_long, r_aft_n, r_aft_v, r_aft_x, r_aftN_n, r_aftN_v, r_ireturn, r_zreturn, r_creturn, r_breturn, r_areturn, r_return, r_throw, r_ifnn_r, r_ifnn_n, r_objInit, r_tsw, r_ghost, r_lawret, r_rv, r_rv0, qs_0, qs_1, qs_2, qs_3, qs_4, qs_5, qs_6, q_max, q_min, if_true, if_false, and_self, and_true, true_and, and_false, false_and, not_true_eq_false, not_false_eq_true, or_true, true_or, or_false, false_or, eq_self, ne_eq, lit32, ofNat_N, neg_N1, N_add, N_mul, JN_add, NJ_add, J_add, N_lt, N_le, N_eq, N_nat, J_lt, J_le, J_eq, JN_lt, NJ_lt, JN_le, NJ_le, JN_eq, NJ_eq, J_nat, lt_tt, lt_ff, le_tt, le_ff, eqn_ff, ilt_tt, ilt_ff, ile_tt, ile_ff, ieq_ff, gI_sI, gI_sL, gL_sI, gL_sL, gR_sI, gR_sL, Nat.reduceEqDiff, qI_B0, qP_B0, qV0_B0, qV1_B0, qV2_B0, qV3_B0, qV4_B0, q_B0_0, q_B0_1, q_B0_11, q_B0_12, q_B0_13, q_B0_14, q_B0_15, q_B0_16, qI_B1, qP_B1, qV0_B1, qV1_B1, qV2_B1, qV3_B1, qV4_B1, q_B1_1, q_B1_2, q_B1_3, qA_B2, qS_B2, qc_B2, qp_B2, qf_B2, qA_B3, qS_B3, qc_B3, qp_B3, qf_B3, qA_B4, qS_B4, qc_B4, qp_B4, qf_B4, qI_B5, qP_B5, qV0_B5, qV1_B5, qV2_B5, qV3_B5, qV4_B5, q_B5_1, q_B5_2, q_B5_3, q_B5_4, q_B5_5, q_B5_6, q_B5_7, q_B5_8, q_B5_9, qA_B6, qS_B6, qc_B6, qp_B6, qf_B6, qA_B7, qS_B7, qc_B7, qp_B7, qf_B7, qA_B8, qS_B8, qc_B8, qp_B8, qf_B8, qA_B9, qS_B9, qc_B9, qp_B9, qf_B9, qA_B10, qS_B10, qc_B10, qp_B10, qf_B10, qA_B11, qS_B11, qc_B11, qp_B11, qf_B11, qA_B12, qS_B12, qc_B12, qp_B12, qf_B12, qA_B13, qS_B13, qc_B13, qp_B13, qf_B13, qA_B14, qS_B14, qc_B14, qp_B14, qf_B14, qA_B15, qS_B15, qc_B15, qp_B15, qf_B15, qA_B16, qS_B16, qc_B16, qp_B16, qf_B16, qA_B17, qS_B17, qc_B17, qp_B17, qf_B17, qA_B18, qS_B18, qc_B18, qp_B18, qf_B18, qA_B19, qS_B19, qc_B19, qp_B19, qf_B19, qA_B20, qS_B20, qc_B20, qp_B20, qf_B20, h10, ← hh1, e1, ← hh2, e2]
set_option maxHeartbeats 2000000 in
theorem adN_10 {b nm v o : Nat} {h : AH} : gI (adN b nm v o h) b 10 = N (nm + 1) := gI_eq
set_option maxHeartbeats 2000000 in
theorem adN_15 {b nm v o : Nat} {h : AH} (k : Nat) : gI (adN b nm v o h) (b + 15) k = if k = nm then N v else gI h (b + 15) k := by
  unfold adN
  rw [gI_ne (by omega), gI_ne (by omega), gI_sI]
  by_cases c : k = nm
  · rw [if_pos ⟨rfl, c⟩, if_pos c]
  · rw [if_neg (fun z => c z.2), if_neg c]
set_option maxHeartbeats 2000000 in
theorem adN_16 {b nm v o : Nat} {h : AH} (k : Nat) : gI (adN b nm v o h) (b + 16) k = if k = nm then N o else gI h (b + 16) k := by
  unfold adN
  rw [gI_ne (by omega), gI_sI]
  by_cases c : k = nm
  · rw [if_pos ⟨rfl, c⟩, if_pos c]
  · rw [if_neg (fun z => c z.2), if_neg c, gI_ne (by omega)]
set_option maxHeartbeats 2000000 in
theorem adN_o {b nm v o : Nat} {h : AH} {a k : Nat} (h1 : a ≠ b + 15) (h2 : a ≠ b + 16) (h3 : a ≠ b ∨ k ≠ 10) : gI (adN b nm v o h) a k = gI h a k := by
  unfold adN
  rw [gI_sI, if_neg (by omega), gI_ne h2, gI_ne h1]
set_option maxHeartbeats 2000000 in
theorem adN_fr {b nm v o : Nat} (hb : b = 8 ∨ b = 29) {h : AH} : Fr [b, b + 15, b + 16] [] h (adN b nm v o h) := by
  unfold adN
  exact (((Fr.refl _ _ _).sI (by rcases hb with rfl | rfl <;> rfl) _).sI (by rcases hb with rfl | rfl <;> rfl) _).sI (by rcases hb with rfl | rfl <;> rfl) _
set_option maxHeartbeats 2000000 in
theorem HC.ad {b : Nat} {β : BD} {h : AH} (r : HC b β h) {nm v o : Nat} : HC b β (adN b nm v o h) := fun p hp => by
  have := hdL_lt p hp
  have h10 : ∀ p ∈ hdL, p.2.1 ≠ 10 := by decide
  rw [adN_o (by omega) (by omega) (Or.inr (h10 p hp))]
  exact r p hp
set_option maxHeartbeats 2000000 in
theorem RowC.ad {b : Nat} {c : Nat → Nat} {β : BD} {h : AH} (r : RowC b c β h) {nm v o : Nat} : RowC b c β (adN b nm v o h) := fun p hp k hk => by
  have h1 : ∀ p ∈ rC, p.2 ≠ 0 ∧ p.2 ≠ 15 ∧ p.2 ≠ 16 := by decide
  obtain ⟨a1, a2, a3⟩ := h1 p hp
  rw [adN_o (by omega) (by omega) (Or.inl (by omega))]
  exact r p hp k hk
set_option maxHeartbeats 2000000 in
theorem RMC.ad {b : Nat} {β : BD} {h : AH} (r : RMC b β h) {nm v o : Nat} : RMC b β (adN b nm v o h) := fun k hk => by
  rw [adN_o (by omega) (by omega) (Or.inl (by omega))]
  exact r k hk
-- node 
set_option maxHeartbeats 2000000 in
theorem s_node {bs : Nat → Nat} {n K b : Nat} (hb : b = 8 ∨ b = 29) {β : BD} {i : Nat} {sl ho : Bool} {hc hr : AH} (l : LZ bs n K b β i sl ho hc hr) (at' : Int32) (hlt : β 0 2 < 12) : SimS bs n K b (PZ bs n K b i) hc hr (mX1_readNode [.ref 50] hc) (mX12_readNode [.ref 89, .int at'] hr) := by
  obtain ⟨c0, ⟨z1, z2, z3, z4, z5, z6, z7⟩, ⟨y1, y2, y3, y4⟩, cb, nd, wp⟩ := id l
  obtain ⟨ok, hc1, hr1, e1, e2, f1, g1, p1, p2⟩ := s_newName c0 hb cb nd z1 z6 y4.nr y3
  have wc := c0.1.1
  have wr := c0.2.1
  have ema := m_may_t wr at' c0.2.2.2.2.1
  have h2 : gI hr 89 2 = N (β 0 2) := y3 2 (by decide) (by decide)
  cases ok with
  | false =>
    refine SimS.no (fc_S hb (f1.mono rfl rfl)) (fm_S (g1.mono rfl rfl)) (p2 rfl) ?_ ?_
    · rw [u_X1_readNode, e_X1_readNode_0]
      simp (disch := first | with_reducible assumption | exact Nat.le_of_ble_eq_true rfl | (simp only [WF_sI, WF_sL, WF_stR, WF_cpI]; with_reducible assumption) | omega | rfl | (show okF _ = true; decide)) only [r_push, r_iload_0, r_aload_0, r_lload_0, r_iload_1, r_aload_1, r_lload_1, r_iload_2, r_aload_2, r_lload_2, r_iload_3, r_aload_3, r_lload_3, r_iload_4, r_aload_4, r_lload_4, r_iload_5, r_aload_5, r_lload_5, r_iload_6, r_aload_6, r_lload_6, r_iload_7, r_aload_7, r_lload_7, r_iload_8, r_aload_8, r_lload_8, r_istore_00, r_astore_00, r_iinc_00, r_lstore_00, r_istore_1i, r_astore_1i, r_iinc_1i, r_lstore_1i, r_istore_1r, r_astore_1r, r_iinc_1r, r_lstore_1r, r_istore_1n, r_astore_1n, r_iinc_1n, r_lstore_1n, r_istore_1z, r_astore_1z, r_iinc_1z, r_lstore_1z, r_istore_2i, r_astore_2i, r_iinc_2i, r_lstore_2i, r_istore_2r, r_astore_2r, r_iinc_2r, r_lstore_2r, r_istore_2n, r_astore_2n, r_iinc_2n, r_lstore_2n, r_istore_2z, r_astore_2z, r_iinc_2z, r_lstore_2z, r_istore_3i, r_astore_3i, r_iinc_3i, r_lstore_3i, r_istore_3r, r_astore_3r, r_iinc_3r, r_lstore_3r, r_istore_3n, r_astore_3n, r_iinc_3n, r_lstore_3n, r_istore_3z, r_astore_3z, r_iinc_3z, r_lstore_3z, r_istore_4i, r_astore_4i, r_iinc_4i, r_lstore_4i, r_istore_4r, r_astore_4r, r_iinc_4r, r_lstore_4r, r_istore_4n, r_astore_4n, r_iinc_4n, r_lstore_4n, r_istore_4z, r_astore_4z, r_iinc_4z, r_lstore_4z, r_istore_5i, r_astore_5i, r_iinc_5i, r_lstore_5i, r_istore_5r, r_astore_5r, r_iinc_5r, r_lstore_5r, r_istore_5n, r_astore_5n, r_iinc_5n, r_lstore_5n, r_istore_5z, r_astore_5z, r_iinc_5z, r_lstore_5z, r_istore_6i, r_astore_6i, r_iinc_6i, r_lstore_6i, r_istore_6r, r_astore_6r, r_iinc_6r, r_lstore_6r, r_istore_6n, r_astore_6n, r_iinc_6n, r_lstore_6n, r_istore_6z, r_astore_6z, r_iinc_6z, r_lstore_6z, r_istore_7i, r_astore_7i, r_iinc_7i, r_lstore_7i, r_istore_7r, r_astore_7r, r_iinc_7r, r_lstore_7r, r_istore_7n, r_astore_7n, r_iinc_7n, r_lstore_7n, r_istore_7z, r_astore_7z, r_iinc_7z, r_lstore_7z, r_istore_8i, r_astore_8i, r_iinc_8i, r_istore_8r, r_astore_8r, r_iinc_8r, r_istore_8n, r_astore_8n, r_iinc_8n, r_istore_8z, r_astore_8z, r_iinc_8z, r_bin, r_lbin, r_div, r_ineg, r_i2l, r_i2b, r_i2c, r_lcmp, r_dup_i, r_dup_r, r_pop_i, r_pop_r, r_dup2, r_ifeq, r_iceq, r_iflt, r_iclt, r_ifge, r_icge, r_ifgt, r_icgt, r_ifle, r_icle, r_ifne, r_icne, r_putR, cs_nil, cs_int, cs_ref, cs_null, cs_long, r_aft_n, r_aft_v, r_aft_x, r_aftN_n, r_aftN_v, r_ireturn, r_zreturn, r_creturn, r_breturn, r_areturn, r_return, r_throw, r_ifnn_r, r_ifnn_n, r_objInit, r_tsw, r_ghost, r_lawret, r_rv, r_rv0, qs_0, qs_1, qs_2, qs_3, qs_4, qs_5, qs_6, q_max, q_min, if_true, if_false, and_self, and_true, true_and, and_false, false_and, not_true_eq_false, not_false_eq_true, or_true, true_or, or_false, false_or, eq_self, ne_eq, lit32, ofNat_N, neg_N1, N_add, N_mul, JN_add, NJ_add, J_add, N_lt, N_le, N_eq, N_nat, J_lt, J_le, J_eq, JN_lt, NJ_lt, JN_le, NJ_le, JN_eq, NJ_eq, J_nat, lt_tt, lt_ff, le_tt, le_ff, eqn_ff, ilt_tt, ilt_ff, ile_tt, ile_ff, ieq_ff, gI_sI, gI_sL, gL_sI, gL_sL, gR_sI, gR_sL, Nat.reduceEqDiff, qI_0, qP_0, qV0_0, qV1_0, qV2_0, qV3_0, qV4_0, q_0_0, q_0_1, q_0_2, q_0_3, q_0_4, q_0_5, q_0_6, q_0_7, q_0_8, qR_0_8, q_0_9, qR_0_9, qI_2, qP_2, qV0_2, qV1_2, qV2_2, qV3_2, qV4_2, q_2_0, q_2_1, q_2_2, qA_4, qS_4, qc_4, qp_4, qf_4, qA_5, qS_5, qc_5, qp_5, qf_5, qI_6, qP_6, qV0_6, qV1_6, qV2_6, qV3_6, qV4_6, q_6_1, qA_7, qS_7, qc_7, qp_7, qf_7, qI_50, qP_50, qV0_50, qV1_50, qV2_50, qV3_50, qV4_50, q_50_2, q_50_3, qR_50_3, qZ0_50, qZ1_50, qI_51, qP_51, qV0_51, qV1_51, qV2_51, qV3_51, qV4_51, q_51_1, q_51_2, q_51_3, q_51_4, q_51_0, qR_51_0, qA_52, qS_52, qc_52, qp_52, qf_52, qA_53, qS_53, qc_53, qp_53, qf_53, qA_54, qS_54, qc_54, qp_54, qf_54, qA_55, qS_55, qc_55, qp_55, qf_55, qI_88, qP_88, qV0_88, qV1_88, qV2_88, qV3_88, qV4_88, q_88_2, e1, bi_f]
    · rw [u_X12_readNode, e_X12_readNode_0]
      simp (disch := first | with_reducible assumption | exact Nat.le_of_ble_eq_true rfl | (simp only [WF_sI, WF_sL, WF_stR, WF_cpI]; with_reducible assumption) | omega | rfl | (show okF _ = true; decide)) only [e_X12_readNode_15, e_X12_readNode_29, r_push, r_iload_0, r_aload_0, r_lload_0, r_iload_1, r_aload_1, r_lload_1, r_iload_2, r_aload_2, r_lload_2, r_iload_3, r_aload_3, r_lload_3, r_iload_4, r_aload_4, r_lload_4, r_iload_5, r_aload_5, r_lload_5, r_iload_6, r_aload_6, r_lload_6, r_iload_7, r_aload_7, r_lload_7, r_iload_8, r_aload_8, r_lload_8, r_istore_00, r_astore_00, r_iinc_00, r_lstore_00, r_istore_1i, r_astore_1i, r_iinc_1i, r_lstore_1i, r_istore_1r, r_astore_1r, r_iinc_1r, r_lstore_1r, r_istore_1n, r_astore_1n, r_iinc_1n, r_lstore_1n, r_istore_1z, r_astore_1z, r_iinc_1z, r_lstore_1z, r_istore_2i, r_astore_2i, r_iinc_2i, r_lstore_2i, r_istore_2r, r_astore_2r, r_iinc_2r, r_lstore_2r, r_istore_2n, r_astore_2n, r_iinc_2n, r_lstore_2n, r_istore_2z, r_astore_2z, r_iinc_2z, r_lstore_2z, r_istore_3i, r_astore_3i, r_iinc_3i, r_lstore_3i, r_istore_3r, r_astore_3r, r_iinc_3r, r_lstore_3r, r_istore_3n, r_astore_3n, r_iinc_3n, r_lstore_3n, r_istore_3z, r_astore_3z, r_iinc_3z, r_lstore_3z, r_istore_4i, r_astore_4i, r_iinc_4i, r_lstore_4i, r_istore_4r, r_astore_4r, r_iinc_4r, r_lstore_4r, r_istore_4n, r_astore_4n, r_iinc_4n, r_lstore_4n, r_istore_4z, r_astore_4z, r_iinc_4z, r_lstore_4z, r_istore_5i, r_astore_5i, r_iinc_5i, r_lstore_5i, r_istore_5r, r_astore_5r, r_iinc_5r, r_lstore_5r, r_istore_5n, r_astore_5n, r_iinc_5n, r_lstore_5n, r_istore_5z, r_astore_5z, r_iinc_5z, r_lstore_5z, r_istore_6i, r_astore_6i, r_iinc_6i, r_lstore_6i, r_istore_6r, r_astore_6r, r_iinc_6r, r_lstore_6r, r_istore_6n, r_astore_6n, r_iinc_6n, r_lstore_6n, r_istore_6z, r_astore_6z, r_iinc_6z, r_lstore_6z, r_istore_7i, r_astore_7i, r_iinc_7i, r_lstore_7i, r_istore_7r, r_astore_7r, r_iinc_7r, r_lstore_7r, r_istore_7n, r_astore_7n, r_iinc_7n, r_lstore_7n, r_istore_7z, r_astore_7z, r_iinc_7z, r_lstore_7z, r_istore_8i, r_astore_8i, r_iinc_8i, r_istore_8r, r_astore_8r, r_iinc_8r, r_istore_8n, r_astore_8n, r_iinc_8n, r_istore_8z, r_astore_8z, r_iinc_8z, r_bin, r_lbin, r_div, r_ineg, r_i2l, r_i2b, r_i2c, r_lcmp, r_dup_i, r_dup_r, r_pop_i, r_pop_r, r_dup2, r_ifeq, r_iceq, r_iflt, r_iclt, r_ifge, r_icge, r_ifgt, r_icgt, r_ifle, r_icle, r_ifne, r_icne, r_putR, cs_nil, cs_int, cs_ref, cs_null, cs_long, r_aft_n, r_aft_v, r_aft_x, r_aftN_n, r_aftN_v, r_ireturn, r_zreturn, r_creturn, r_breturn, r_areturn, r_return, r_throw, r_ifnn_r, r_ifnn_n, r_objInit, r_tsw, r_ghost, r_lawret, r_rv, r_rv0, qs_0, qs_1, qs_2, qs_3, qs_4, qs_5, qs_6, q_max, q_min, if_true, if_false, and_self, and_true, true_and, and_false, false_and, not_true_eq_false, not_false_eq_true, or_true, true_or, or_false, false_or, eq_self, ne_eq, lit32, ofNat_N, neg_N1, N_add, N_mul, JN_add, NJ_add, J_add, N_lt, N_le, N_eq, N_nat, J_lt, J_le, J_eq, JN_lt, NJ_lt, JN_le, NJ_le, JN_eq, NJ_eq, J_nat, lt_tt, lt_ff, le_tt, le_ff, eqn_ff, ilt_tt, ilt_ff, ile_tt, ile_ff, ieq_ff, gI_sI, gI_sL, gL_sI, gL_sL, gR_sI, gR_sL, Nat.reduceEqDiff, qI_89, qP_89, qV0_89, qV1_89, qV2_89, qV3_89, qV4_89, q_89_11, q_89_12, q_89_13, q_89_14, q_89_15, q_89_16, q_89_17, q_89_18, q_89_19, q_89_20, q_89_21, q_89_22, q_89_23, q_89_24, q_89_25, q_89_26, q_89_27, q_89_28, q_89_29, q_89_30, q_89_31, q_89_32, q_89_35, q_89_36, q_89_53, q_89_54, q_89_56, q_89_57, q_89_61, q_89_62, q_89_63, q_89_64, q_89_65, q_89_66, q_89_67, q_89_68, q_89_69, q_89_70, q_89_71, q_89_76, q_89_81, q_89_82, q_89_85, qL_89, qPL_89, qZ0_89, qZ1_89, qA_91, qS_91, qc_91, qp_91, qf_91, qA_92, qS_92, qc_92, qp_92, qf_92, qA_93, qS_93, qc_93, qp_93, qf_93, qA_95, qS_95, qc_95, qp_95, qf_95, qA_97, qS_97, qc_97, qp_97, qf_97, qA_98, qS_98, qc_98, qp_98, qf_98, qA_99, qS_99, qc_99, qp_99, qf_99, qA_100, qS_100, qc_100, qp_100, qf_100, qA_101, qS_101, qc_101, qp_101, qf_101, qA_103, qS_103, qc_103, qp_103, qf_103, qA_104, qS_104, qc_104, qp_104, qf_104, qA_105, qS_105, qc_105, qp_105, qf_105, qA_106, qS_106, qc_106, qp_106, qf_106, qA_107, qS_107, qc_107, qp_107, qf_107, qA_108, qS_108, qc_108, qp_108, qf_108, qA_109, qS_109, qc_109, qp_109, qf_109, qA_110, qS_110, qc_110, qp_110, qf_110, qA_112, qS_112, qc_112, qp_112, qf_112, qA_113, qS_113, qc_113, qp_113, qf_113, qA_114, qS_114, qc_114, qp_114, qf_114, qA_115, qS_115, qc_115, qp_115, qf_115, qA_116, qS_116, qc_116, qp_116, qf_116, qA_117, qS_117, qc_117, qp_117, qf_117, qA_118, qS_118, qc_118, qp_118, qf_118, qA_119, qS_119, qc_119, qp_119, qf_119, qA_120, qS_120, qc_120, qp_120, qf_120, qA_121, qS_121, qc_121, qp_121, qf_121, qA_122, qS_122, qc_122, qp_122, qf_122, qA_123, qS_123, qc_123, qp_123, qf_123, qA_124, qS_124, qc_124, qp_124, qf_124, qA_125, qS_125, qc_125, qp_125, qf_125, qA_126, qS_126, qc_126, qp_126, qf_126, qA_127, qS_127, qc_127, qp_127, qf_127, qA_128, qS_128, qc_128, qp_128, qf_128, qA_129, qS_129, qc_129, qp_129, qf_129, qA_130, qS_130, qc_130, qp_130, qf_130, qA_131, qS_131, qc_131, qp_131, qf_131, qA_132, qS_132, qc_132, qp_132, qf_132, h2, ema, e2, bi_f]
  | true =>
    obtain ⟨c1, v, v1, v2, v3, v4⟩ := p1 rfl
    have l1 := l.step hb (f1.mono rfl rfl) (g1.mono rfl rfl) c1
    have wc1 := c1.1.1
    have wr1 := c1.2.1
    obtain ⟨-, ⟨a1, a2, a3, a4, a5, a6, a7⟩, ⟨b1, b2, b3, b4⟩, -⟩ := id l1
    have hnm : nmN β < 33 := nm_33 cb (s := 0) (by decide) hlt
    have eadd := c_addName hb wc1 (v := v) (s := 0) (q := β 0 2) a6.1 hnm
    obtain ⟨hx, hhx⟩ : ∃ x, x = adN b (nmN β) v (100 * 0 + β 0 2) hc1 := ⟨_, rfl⟩
    rw [← hhx] at eadd
    have fx : Fr [b, b + 15, b + 16] [] hc1 hx := by rw [hhx]; exact adN_fr hb
    have wx := fx.wf wc1
    obtain ⟨hc2, hhc2⟩ : ∃ x, x = sI hx b 2 (N (β 0 2 + 1)) := ⟨_, rfl⟩
    obtain ⟨hr2, hhr2⟩ : ∃ x, x = sI (sL hr1 90 (β 0 2) (Lg v)) 89 2 (N (β 0 2 + 1)) := ⟨_, rfl⟩
    have f2 : Fr [b, b + 15, b + 16] [] hc1 hc2 := by rw [hhc2]; exact fx.sI (by rcases hb with rfl | rfl <;> rfl) _
    have g2 : Fr [90] [(89, 2)] hr1 hr2 := by rw [hhr2]; exact ((Fr.refl _ _ _).sL rfl _).sI rfl _
    have hx2 : gI hx b 2 = N (β 0 2) := by rw [hhx, adN_o (by omega) (by omega) (Or.inr (by decide))]; exact a4 (0, 2, 2) (by decide)
    have hc12 : gI hc1 b 2 = N (β 0 2) := a4 (0, 2, 2) (by decide)
    have hr12 : gI hr1 89 2 = N (β 0 2) := b3 2 (by decide) (by decide)
    have hr12' : gI (sL hr1 90 (β 0 2) (Lg v)) 89 2 = N (β 0 2) := hr12
    obtain ⟨β', hβ⟩ : ∃ x, x = ub (ub β 90 (β 0 2) v) 0 2 (β 0 2 + 1) := ⟨_, rfl⟩
    have hcnt : ∀ a, cnt β' a = if a = 90 then β 0 2 + 1 else cnt β a := fun a => by
      rw [hβ, cnt_i, cnt_ub (by decide)]
      unfold cix
      by_cases ca : a = 90
      · rw [if_pos ca, if_pos rfl, if_pos ca, if_neg (by omega)]
      · rw [if_neg ca, if_neg ca, if_neg (by split <;> (try omega); split <;> (try omega); split <;> (try omega); split <;> omega)]
    have e0 : ∀ j, j ≠ 2 → β' 0 j = β 0 j := fun j hj => by rw [hβ, ub_nk hj, ub_ne (by decide)]
    have e02 : β' 0 2 = β 0 2 + 1 := by rw [hβ, ub_eq]
    have er : ∀ a, a ≠ 0 → a ≠ 90 → ∀ k, β' a k = β a k := fun a h1 h2 k => by rw [hβ, ub_ne h1, ub_ne h2]
    have hadd : AddN β β' 0 v := by
      refine ⟨by decide, fun t ht => ?_, fun t ht k hk => ?_, ?_⟩
      · unfold nc
        rcases (show t = 0 ∨ t = 1 ∨ t = 2 ∨ t = 3 by omega) with rfl | rfl | rfl | rfl
        · exact e02
        · exact e0 4 (by decide)
        · exact e0 5 (by decide)
        · exact e0 7 (by decide)
      · rcases (show t = 0 ∨ t = 1 ∨ t = 2 ∨ t = 3 by omega) with rfl | rfl | rfl | rfl
        · have : k < β 0 2 := hk
          show β' 90 k = β 90 k
          rw [hβ, ub_ne (by decide), ub_nk (by omega)]
        · exact er 94 (by decide) (by decide) k
        · exact er 96 (by decide) (by decide) k
        · exact er 102 (by decide) (by decide) k
      · show β' 90 (β 0 2) = v
        rw [hβ, ub_ne (by decide), ub_eq]
    have hnc : nc β 0 < 100 := by show β 0 2 < 100; omega
    refine SimS.yes (hc' := hc2) (hr' := hr2) ((fc_S hb (f1.mono rfl rfl)).trans (f2.mono (by rcases hb with rfl | rfl <;> rfl) rfl)) ((fm_S (g1.mono rfl rfl)).trans (g2.mono rfl rfl)) ⟨i + 1, β', sl, ho, by omega, c1.same f2 (by rcases hb with rfl | rfl <;> rfl) g2 rfl, ⟨(f2.r 50 3).trans a1, ?_, ?_, ?_, ?_, ?_, ?_⟩, ⟨?_, ?_, ?_, ?_⟩, ?_, ?_, ?_⟩ ?_ ?_
    · rw [f2.i 50 5 (by rcases hb with rfl | rfl <;> rfl)]; exact a2
    · rw [f2.i 50 6 (by rcases hb with rfl | rfl <;> rfl)]; exact a3
    · rw [hhc2, hhx, hβ]
      exact ((a4.ad).ub (by decide)).upd (j := 0) (by decide)
    · rw [hhc2, hhx, hβ]
      refine RowC.mn (c := cnt β) ((RowC.un a5.ad (a := 90) (fun p hp z => by
        have : ∀ p ∈ rC, p.1 ≠ 90 := by decide
        exact absurd z (this p hp))).headu (j := 0) (Or.inl rfl)) (fun p hp => ?_)
      rw [← hβ, hcnt, if_neg (by
        have : ∀ p ∈ rC, p.1 ≠ 90 := by decide
        exact this p hp)]
      exact Nat.le_refl _
    · rw [hhc2, hhx]
      refine a6.add hadd hnc ?_ (fun k => ?_) (fun k => ?_)
      · rw [gI_nk (by decide)]; exact adN_10
      · rw [gI_ne (by omega)]; exact adN_15 k
      · rw [gI_ne (by omega)]; exact adN_16 k
    · intro k hk
      rw [hhc2, hhx, gI_ne (by omega), e0 3 (by decide), rm_cong (β := β) _ (fun j hj => ⟨er 91 (by decide) (by decide) j, er 92 (by decide) (by decide) j, er 93 (by decide) (by decide) j⟩)]
      exact a7.ad k hk
    · rw [g2.i 89 47 rfl]; exact b1
    · rw [g2.i 89 48 rfl]; exact b2
    · rw [hhr2, hβ]; exact (b3.rowL (by decide)).upd
    · rw [hhr2]
      have := (b4.updL (c' := cnt β') (a0 := 90) (k0 := β 0 2) (v := v) (fun a k hk => by
        rw [hcnt] at hk
        by_cases ca : a = 90
        · rw [if_pos ca] at hk
          by_cases ck : k = β 0 2
          · exact Or.inl ⟨ca, ck⟩
          · right; rw [ca]; show k < β 0 2; omega
        · rw [if_neg ca] at hk; exact Or.inr hk) (by decide)).head (i := 2) (v := β 0 2 + 1) (x := N (β 0 2 + 1))
      rw [← hβ] at this
      exact this
    · obtain ⟨q1, q2, q3, q4, q5, q6⟩ := cb
      exact ⟨by rw [e02]; omega, by rw [e0 3 (by decide)]; exact q2, by rw [e0 4 (by decide)]; exact q3, by rw [e0 5 (by decide)]; exact q4, by rw [e0 6 (by decide)]; exact q5, by rw [e0 7 (by decide)]; exact q6⟩
    · exact nd.add hadd hnc v1 v4
    · obtain ⟨w1, w2, w3, w4, w5, w6⟩ := wp
      refine ⟨?_, fun k hk => ?_, fun k hk => ?_, fun k hk => ?_, fun k hk => ?_, fun k hk => ?_⟩
      · rw [e0 1 (by decide), e0 8 (by decide), e0 9 (by decide), e0 10 (by decide)]; exact w1
      · rw [e0 3 (by decide)] at hk
        rw [er 91 (by decide) (by decide), er 92 (by decide) (by decide), er 93 (by decide) (by decide), e02]
        have := w2 k hk; omega
      · rw [e0 4 (by decide)] at hk
        rw [er 95 (by decide) (by decide), e02]
        have := w3 k hk; omega
      · rw [e0 5 (by decide)] at hk
        rw [er 97 (by decide) (by decide), er 98 (by decide) (by decide), e0 4 (by decide)]
        exact w4 k hk
      · rw [e0 6 (by decide)] at hk
        rw [er 99 (by decide) (by decide), er 100 (by decide) (by decide), er 101 (by decide) (by decide), e02]
        have := w5 k hk; omega
      · rw [e0 7 (by decide)] at hk
        rw [er 103 (by decide) (by decide), er 104 (by decide) (by decide), er 106 (by decide) (by decide), er 107 (by decide) (by decide), er 108 (by decide) (by decide), e02]
        obtain ⟨d1, d2, d3, d4, d5, d6, d7, d8⟩ := w6 k hk
        exact ⟨by omega, d2, d3, d4, d5, d6, fun j hj => by rw [er 105 (by decide) (by decide)]; exact d7 j hj, by
          obtain ⟨j, j1, j2⟩ := d8
          exact ⟨j, j1, by rw [er 105 (by decide) (by decide)]; exact j2⟩⟩
    · rw [u_X1_readNode, e_X1_readNode_0]
      simp (disch := first | with_reducible assumption | exact Nat.le_of_ble_eq_true rfl | (simp only [WF_sI, WF_sL, WF_stR, WF_cpI]; with_reducible assumption) | omega | rfl | (show okF _ = true; decide)) only [e_X0_addNode_0, u_X0_addNode, r_push, r_iload_0, r_aload_0, r_lload_0, r_iload_1, r_aload_1, r_lload_1, r_iload_2, r_aload_2, r_lload_2, r_iload_3, r_aload_3, r_lload_3, r_iload_4, r_aload_4, r_lload_4, r_iload_5, r_aload_5, r_lload_5, r_iload_6, r_aload_6, r_lload_6, r_iload_7, r_aload_7, r_lload_7, r_iload_8, r_aload_8, r_lload_8, r_istore_00, r_astore_00, r_iinc_00, r_lstore_00, r_istore_1i, r_astore_1i, r_iinc_1i, r_lstore_1i, r_istore_1r, r_astore_1r, r_iinc_1r, r_lstore_1r, r_istore_1n, r_astore_1n, r_iinc_1n, r_lstore_1n, r_istore_1z, r_astore_1z, r_iinc_1z, r_lstore_1z, r_istore_2i, r_astore_2i, r_iinc_2i, r_lstore_2i, r_istore_2r, r_astore_2r, r_iinc_2r, r_lstore_2r, r_istore_2n, r_astore_2n, r_iinc_2n, r_lstore_2n, r_istore_2z, r_astore_2z, r_iinc_2z, r_lstore_2z, r_istore_3i, r_astore_3i, r_iinc_3i, r_lstore_3i, r_istore_3r, r_astore_3r, r_iinc_3r, r_lstore_3r, r_istore_3n, r_astore_3n, r_iinc_3n, r_lstore_3n, r_istore_3z, r_astore_3z, r_iinc_3z, r_lstore_3z, r_istore_4i, r_astore_4i, r_iinc_4i, r_lstore_4i, r_istore_4r, r_astore_4r, r_iinc_4r, r_lstore_4r, r_istore_4n, r_astore_4n, r_iinc_4n, r_lstore_4n, r_istore_4z, r_astore_4z, r_iinc_4z, r_lstore_4z, r_istore_5i, r_astore_5i, r_iinc_5i, r_lstore_5i, r_istore_5r, r_astore_5r, r_iinc_5r, r_lstore_5r, r_istore_5n, r_astore_5n, r_iinc_5n, r_lstore_5n, r_istore_5z, r_astore_5z, r_iinc_5z, r_lstore_5z, r_istore_6i, r_astore_6i, r_iinc_6i, r_lstore_6i, r_istore_6r, r_astore_6r, r_iinc_6r, r_lstore_6r, r_istore_6n, r_astore_6n, r_iinc_6n, r_lstore_6n, r_istore_6z, r_astore_6z, r_iinc_6z, r_lstore_6z, r_istore_7i, r_astore_7i, r_iinc_7i, r_lstore_7i, r_istore_7r, r_astore_7r, r_iinc_7r, r_lstore_7r, r_istore_7n, r_astore_7n, r_iinc_7n, r_lstore_7n, r_istore_7z, r_astore_7z, r_iinc_7z, r_lstore_7z, r_istore_8i, r_astore_8i, r_iinc_8i, r_istore_8r, r_astore_8r, r_iinc_8r, r_istore_8n, r_astore_8n, r_iinc_8n, r_istore_8z, r_astore_8z, r_iinc_8z, r_bin, r_lbin, r_div, r_ineg, r_i2l, r_i2b, r_i2c, r_lcmp, r_dup_i, r_dup_r, r_pop_i, r_pop_r, r_dup2, r_ifeq, r_iceq, r_iflt, r_iclt, r_ifge, r_icge, r_ifgt, r_icgt, r_ifle, r_icle, r_ifne, r_icne, r_putR, cs_nil, cs_int, cs_ref, cs_null, cs_long, r_aft_n, r_aft_v, r_aft_x, r_aftN_n, r_aftN_v, r_ireturn, r_zreturn, r_creturn, r_breturn, r_areturn, r_return, r_throw, r_ifnn_r, r_ifnn_n, r_objInit, r_tsw, r_ghost, r_lawret, r_rv, r_rv0, qs_0, qs_1, qs_2, qs_3, qs_4, qs_5, qs_6, q_max, q_min, if_true, if_false, and_self, and_true, true_and, and_false, false_and, not_true_eq_false, not_false_eq_true, or_true, true_or, or_false, false_or, eq_self, ne_eq, lit32, ofNat_N, neg_N1, N_add, N_mul, JN_add, NJ_add, J_add, N_lt, N_le, N_eq, N_nat, J_lt, J_le, J_eq, JN_lt, NJ_lt, JN_le, NJ_le, JN_eq, NJ_eq, J_nat, lt_tt, lt_ff, le_tt, le_ff, eqn_ff, ilt_tt, ilt_ff, ile_tt, ile_ff, ieq_ff, gI_sI, gI_sL, gL_sI, gL_sL, gR_sI, gR_sL, Nat.reduceEqDiff, qI_0, qP_0, qV0_0, qV1_0, qV2_0, qV3_0, qV4_0, q_0_0, q_0_1, q_0_2, q_0_3, q_0_4, q_0_5, q_0_6, q_0_7, q_0_8, qR_0_8, q_0_9, qR_0_9, qI_2, qP_2, qV0_2, qV1_2, qV2_2, qV3_2, qV4_2, q_2_0, q_2_1, q_2_2, qA_4, qS_4, qc_4, qp_4, qf_4, qA_5, qS_5, qc_5, qp_5, qf_5, qI_6, qP_6, qV0_6, qV1_6, qV2_6, qV3_6, qV4_6, q_6_1, qA_7, qS_7, qc_7, qp_7, qf_7, qI_50, qP_50, qV0_50, qV1_50, qV2_50, qV3_50, qV4_50, q_50_2, q_50_3, qR_50_3, qZ0_50, qZ1_50, qI_51, qP_51, qV0_51, qV1_51, qV2_51, qV3_51, qV4_51, q_51_1, q_51_2, q_51_3, q_51_4, q_51_0, qR_51_0, qA_52, qS_52, qc_52, qp_52, qf_52, qA_53, qS_53, qc_53, qp_53, qf_53, qA_54, qS_54, qc_54, qp_54, qf_54, qA_55, qS_55, qc_55, qp_55, qf_55, qI_88, qP_88, qV0_88, qV1_88, qV2_88, qV3_88, qV4_88, q_88_2, qI_B0, qP_B0, qV0_B0, qV1_B0, qV2_B0, qV3_B0, qV4_B0, q_B0_0, q_B0_1, q_B0_11, q_B0_12, q_B0_13, q_B0_14, q_B0_15, q_B0_16, qI_B1, qP_B1, qV0_B1, qV1_B1, qV2_B1, qV3_B1, qV4_B1, q_B1_1, q_B1_2, q_B1_3, qA_B2, qS_B2, qc_B2, qp_B2, qf_B2, qA_B3, qS_B3, qc_B3, qp_B3, qf_B3, qA_B4, qS_B4, qc_B4, qp_B4, qf_B4, qI_B5, qP_B5, qV0_B5, qV1_B5, qV2_B5, qV3_B5, qV4_B5, q_B5_1, q_B5_2, q_B5_3, q_B5_4, q_B5_5, q_B5_6, q_B5_7, q_B5_8, q_B5_9, qA_B6, qS_B6, qc_B6, qp_B6, qf_B6, qA_B7, qS_B7, qc_B7, qp_B7, qf_B7, qA_B8, qS_B8, qc_B8, qp_B8, qf_B8, qA_B9, qS_B9, qc_B9, qp_B9, qf_B9, qA_B10, qS_B10, qc_B10, qp_B10, qf_B10, qA_B11, qS_B11, qc_B11, qp_B11, qf_B11, qA_B12, qS_B12, qc_B12, qp_B12, qf_B12, qA_B13, qS_B13, qc_B13, qp_B13, qf_B13, qA_B14, qS_B14, qc_B14, qp_B14, qf_B14, qA_B15, qS_B15, qc_B15, qp_B15, qf_B15, qA_B16, qS_B16, qc_B16, qp_B16, qf_B16, qA_B17, qS_B17, qc_B17, qp_B17, qf_B17, qA_B18, qS_B18, qc_B18, qp_B18, qf_B18, qA_B19, qS_B19, qc_B19, qp_B19, qf_B19, qA_B20, qS_B20, qc_B20, qp_B20, qf_B20, e1, bi_t, a1, r_rv, v2, hc12, eadd, hx2, ← hhc2]
    · rw [u_X12_readNode, e_X12_readNode_0]
      have hsh : (sh 90).1 = 3 := rfl
      have hsz : β 0 2 < (sh 90).2 := by rw [sh_90]; exact hlt
      simp (disch := first | with_reducible assumption | exact Nat.le_of_ble_eq_true rfl | (simp only [WF_sI, WF_sL, WF_stR, WF_cpI]; with_reducible assumption) | omega | rfl | (show okF _ = true; decide)) only [e_X12_readNode_15, e_X12_readNode_29, r_push, r_iload_0, r_aload_0, r_lload_0, r_iload_1, r_aload_1, r_lload_1, r_iload_2, r_aload_2, r_lload_2, r_iload_3, r_aload_3, r_lload_3, r_iload_4, r_aload_4, r_lload_4, r_iload_5, r_aload_5, r_lload_5, r_iload_6, r_aload_6, r_lload_6, r_iload_7, r_aload_7, r_lload_7, r_iload_8, r_aload_8, r_lload_8, r_istore_00, r_astore_00, r_iinc_00, r_lstore_00, r_istore_1i, r_astore_1i, r_iinc_1i, r_lstore_1i, r_istore_1r, r_astore_1r, r_iinc_1r, r_lstore_1r, r_istore_1n, r_astore_1n, r_iinc_1n, r_lstore_1n, r_istore_1z, r_astore_1z, r_iinc_1z, r_lstore_1z, r_istore_2i, r_astore_2i, r_iinc_2i, r_lstore_2i, r_istore_2r, r_astore_2r, r_iinc_2r, r_lstore_2r, r_istore_2n, r_astore_2n, r_iinc_2n, r_lstore_2n, r_istore_2z, r_astore_2z, r_iinc_2z, r_lstore_2z, r_istore_3i, r_astore_3i, r_iinc_3i, r_lstore_3i, r_istore_3r, r_astore_3r, r_iinc_3r, r_lstore_3r, r_istore_3n, r_astore_3n, r_iinc_3n, r_lstore_3n, r_istore_3z, r_astore_3z, r_iinc_3z, r_lstore_3z, r_istore_4i, r_astore_4i, r_iinc_4i, r_lstore_4i, r_istore_4r, r_astore_4r, r_iinc_4r, r_lstore_4r, r_istore_4n, r_astore_4n, r_iinc_4n, r_lstore_4n, r_istore_4z, r_astore_4z, r_iinc_4z, r_lstore_4z, r_istore_5i, r_astore_5i, r_iinc_5i, r_lstore_5i, r_istore_5r, r_astore_5r, r_iinc_5r, r_lstore_5r, r_istore_5n, r_astore_5n, r_iinc_5n, r_lstore_5n, r_istore_5z, r_astore_5z, r_iinc_5z, r_lstore_5z, r_istore_6i, r_astore_6i, r_iinc_6i, r_lstore_6i, r_istore_6r, r_astore_6r, r_iinc_6r, r_lstore_6r, r_istore_6n, r_astore_6n, r_iinc_6n, r_lstore_6n, r_istore_6z, r_astore_6z, r_iinc_6z, r_lstore_6z, r_istore_7i, r_astore_7i, r_iinc_7i, r_lstore_7i, r_istore_7r, r_astore_7r, r_iinc_7r, r_lstore_7r, r_istore_7n, r_astore_7n, r_iinc_7n, r_lstore_7n, r_istore_7z, r_astore_7z, r_iinc_7z, r_lstore_7z, r_istore_8i, r_astore_8i, r_iinc_8i, r_istore_8r, r_astore_8r, r_iinc_8r, r_istore_8n, r_astore_8n, r_iinc_8n, r_istore_8z, r_astore_8z, r_iinc_8z, r_bin, r_lbin, r_div, r_ineg, r_i2l, r_i2b, r_i2c, r_lcmp, r_dup_i, r_dup_r, r_pop_i, r_pop_r, r_dup2, r_ifeq, r_iceq, r_iflt, r_iclt, r_ifge, r_icge, r_ifgt, r_icgt, r_ifle, r_icle, r_ifne, r_icne, r_putR, cs_nil, cs_int, cs_ref, cs_null, cs_long, r_aft_n, r_aft_v, r_aft_x, r_aftN_n, r_aftN_v, r_ireturn, r_zreturn, r_creturn, r_breturn, r_areturn, r_return, r_throw, r_ifnn_r, r_ifnn_n, r_objInit, r_tsw, r_ghost, r_lawret, r_rv, r_rv0, qs_0, qs_1, qs_2, qs_3, qs_4, qs_5, qs_6, q_max, q_min, if_true, if_false, and_self, and_true, true_and, and_false, false_and, not_true_eq_false, not_false_eq_true, or_true, true_or, or_false, false_or, eq_self, ne_eq, lit32, ofNat_N, neg_N1, N_add, N_mul, JN_add, NJ_add, J_add, N_lt, N_le, N_eq, N_nat, J_lt, J_le, J_eq, JN_lt, NJ_lt, JN_le, NJ_le, JN_eq, NJ_eq, J_nat, lt_tt, lt_ff, le_tt, le_ff, eqn_ff, ilt_tt, ilt_ff, ile_tt, ile_ff, ieq_ff, gI_sI, gI_sL, gL_sI, gL_sL, gR_sI, gR_sL, Nat.reduceEqDiff, qI_89, qP_89, qV0_89, qV1_89, qV2_89, qV3_89, qV4_89, q_89_11, q_89_12, q_89_13, q_89_14, q_89_15, q_89_16, q_89_17, q_89_18, q_89_19, q_89_20, q_89_21, q_89_22, q_89_23, q_89_24, q_89_25, q_89_26, q_89_27, q_89_28, q_89_29, q_89_30, q_89_31, q_89_32, q_89_35, q_89_36, q_89_53, q_89_54, q_89_56, q_89_57, q_89_61, q_89_62, q_89_63, q_89_64, q_89_65, q_89_66, q_89_67, q_89_68, q_89_69, q_89_70, q_89_71, q_89_76, q_89_81, q_89_82, q_89_85, qL_89, qPL_89, qZ0_89, qZ1_89, qA_91, qS_91, qc_91, qp_91, qf_91, qA_92, qS_92, qc_92, qp_92, qf_92, qA_93, qS_93, qc_93, qp_93, qf_93, qA_95, qS_95, qc_95, qp_95, qf_95, qA_97, qS_97, qc_97, qp_97, qf_97, qA_98, qS_98, qc_98, qp_98, qf_98, qA_99, qS_99, qc_99, qp_99, qf_99, qA_100, qS_100, qc_100, qp_100, qf_100, qA_101, qS_101, qc_101, qp_101, qf_101, qA_103, qS_103, qc_103, qp_103, qf_103, qA_104, qS_104, qc_104, qp_104, qf_104, qA_105, qS_105, qc_105, qp_105, qf_105, qA_106, qS_106, qc_106, qp_106, qf_106, qA_107, qS_107, qc_107, qp_107, qf_107, qA_108, qS_108, qc_108, qp_108, qf_108, qA_109, qS_109, qc_109, qp_109, qf_109, qA_110, qS_110, qc_110, qp_110, qf_110, qA_112, qS_112, qc_112, qp_112, qf_112, qA_113, qS_113, qc_113, qp_113, qf_113, qA_114, qS_114, qc_114, qp_114, qf_114, qA_115, qS_115, qc_115, qp_115, qf_115, qA_116, qS_116, qc_116, qp_116, qf_116, qA_117, qS_117, qc_117, qp_117, qf_117, qA_118, qS_118, qc_118, qp_118, qf_118, qA_119, qS_119, qc_119, qp_119, qf_119, qA_120, qS_120, qc_120, qp_120, qf_120, qA_121, qS_121, qc_121, qp_121, qf_121, qA_122, qS_122, qc_122, qp_122, qf_122, qA_123, qS_123, qc_123, qp_123, qf_123, qA_124, qS_124, qc_124, qp_124, qf_124, qA_125, qS_125, qc_125, qp_125, qf_125, qA_126, qS_126, qc_126, qp_126, qf_126, qA_127, qS_127, qc_127, qp_127, qf_127, qA_128, qS_128, qc_128, qp_128, qf_128, qA_129, qS_129, qc_129, qp_129, qf_129, qA_130, qS_130, qc_130, qp_130, qf_130, qA_131, qS_131, qc_131, qp_131, qf_131, qA_132, qS_132, qc_132, qp_132, qf_132, h2, ema, e2, bi_t, hr12, v3, q_lastore, hsh, hsz, hr12', gN_sL, WF_sL, ← hhr2]
