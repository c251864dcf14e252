/-! drill -/
def dB (β : BD) (v k t u q w : Nat) (f : Nat → Nat) : BD := fun x y => if x = 0 then (if y = 7 then β 0 7 + 1 else β 0 y) else if y < cnt β x then β x y else if x = 102 then v else if x = 103 then k else if x = 104 then t else if x = 105 then f (y - 3 * β 0 7) else if x = 106 then u else if x = 107 then q else if x = 108 then w else β x y
set_option maxHeartbeats 2000000 in
theorem dB_gb (β : BD) (v k t u q w : Nat) (f : Nat → Nat) : GB β (dB β v k t u q w f) 7 := by
  refine ⟨rfl, fun j hj => ?_, fun a ha j hj => ?_⟩
  · unfold dB; rw [if_pos rfl, if_neg hj]
  · unfold dB; rw [if_neg ha, if_pos hj]
set_option maxHeartbeats 2000000 in
theorem opD_fr (b m k t : Nat) (h : AH) : Fr [b + 6, b + 7, b + 8, b + 9, b + 10, b + 11] [] h (opD b m k t h) := by
  unfold opD
  have f : Fr [b + 6, b + 7, b + 8, b + 9, b + 10, b + 11] [] h (sI (sI (sI (sI (sI h (b + 6) m (N k)) (b + 7) m (N t)) (b + 8) m (N 0)) (b + 9) m (N 0)) (b + 10) m (N 0)) :=
    (((((Fr.refl _ _ _).sI (inF_c (by simp)) _).sI (inF_c (by simp)) _).sI (inF_c (by simp)) _).sI (inF_c (by simp)) _).sI (inF_c (by simp)) _
  exact f.trans ((zf_fr _ _ _ _ _).mono (by simp) rfl)
set_option maxHeartbeats 2000000 in
theorem opD_v (b m k t : Nat) (h : AH) : gI (opD b m k t h) (b + 6) m = N k ∧ gI (opD b m k t h) (b + 7) m = N t ∧ gI (opD b m k t h) (b + 8) m = N 0 ∧ gI (opD b m k t h) (b + 9) m = N 0 ∧ gI (opD b m k t h) (b + 10) m = N 0 ∧ ∀ j, j < 3 → gI (opD b m k t h) (b + 11) (3 * m + j) = N 0 := by
  unfold opD
  have z : ∀ j, j ≠ 11 → ∀ h, gI (zf (b + 11) (m * 3) 3 0 h) (b + j) m = gI h (b + j) m := fun j hj h => (zf_fr (b + 11) (m * 3) 3 0 h).i _ _ (by unfold inF; simp; omega)
  refine ⟨?_, ?_, ?_, ?_, ?_, fun j hj => ?_⟩
  · rw [z 6 (by decide), gI_ne (by omega), gI_ne (by omega), gI_ne (by omega), gI_ne (by omega), gI_eq]
  · rw [z 7 (by decide), gI_ne (by omega), gI_ne (by omega), gI_ne (by omega), gI_eq]
  · rw [z 8 (by decide), gI_ne (by omega), gI_ne (by omega), gI_eq]
  · rw [z 9 (by decide), gI_ne (by omega), gI_eq]
  · rw [z 10 (by decide), gI_eq]
  · rw [show 3 * m + j = m * 3 + j from by omega]
    exact zf_gI _ _ 3 0 _ j (by omega) (by omega)
set_option maxHeartbeats 2000000 in
theorem LZ.opn {bs : Nat → Nat} {n K b : Nat} (hb : b = 8 ∨ b = 29) {β : BD} {i : Nat} {sl ho : Bool} {hc hr : AH} (l : LZ bs n K b β i sl ho hc hr) (k t : Nat) : LZ bs n K b β i sl ho (opD b (β 0 7) k t hc) hr := by
  unfold opD
  refine LZ.zfC hb 3 0 _ (((((l.pokeC hb (j := 6) (by decide) (by decide) (fun p hp z => ?_)).pokeC hb (j := 7) (by decide) (by decide) (fun p hp z => ?_)).pokeC hb (j := 8) (by decide) (by decide) (fun p hp z => ?_)).pokeC hb (j := 9) (by decide) (by decide) (fun p hp z => ?_)).pokeC hb (j := 10) (by decide) (by decide) (fun p hp z => ?_))
  · have : ∀ p ∈ rC, p.2 = 6 → p.1 = 103 := by decide
    rw [this p hp z]; exact Nat.le_refl _
  · have : ∀ p ∈ rC, p.2 = 7 → p.1 = 104 := by decide
    rw [this p hp z]; exact Nat.le_refl _
  · have : ∀ p ∈ rC, p.2 = 8 → p.1 = 106 := by decide
    rw [this p hp z]; exact Nat.le_refl _
  · have : ∀ p ∈ rC, p.2 = 9 → p.1 = 107 := by decide
    rw [this p hp z]; exact Nat.le_refl _
  · have : ∀ p ∈ rC, p.2 = 10 → p.1 = 108 := by decide
    rw [this p hp z]; exact Nat.le_refl _
-- the end of a drill: both add it 
set_option maxHeartbeats 2000000 in
theorem s_drillE {bs : Nat → Nat} {n K b : Nat} (hb : b = 8 ∨ b = 29) {β : BD} {i : Nat} {sl ho : Bool} {hc hr : AH} (l : LZ bs n K b β i sl ho hc hr) (at' : Int32) (hlt : β 0 7 < 5) {v k t u q w : Nat} {f : Nat → Nat}
    (v1 : v < 2 ^ 31) (v4 : ∀ o, okO β o → nv β o ≠ v) (k1 : k < β 0 2) (t1 : 1 ≤ t) (t2 : t ≤ 8) (u1 : u ≤ 40) (w1 : w ≤ 23) (nf : NF b (β 0 7) f hc hr) (hpos : ∃ j, j < 3 ∧ 0 < f j) (af : AF b (β 0 7) q hc hr)
    (x6 : gI hc (b + 6) (β 0 7) = N k) (x7 : gI hc (b + 7) (β 0 7) = N t) (x8 : gI hc (b + 8) (β 0 7) = N u) (x10 : gI hc (b + 10) (β 0 7) = N w)
    (y2 : gL hr 102 (β 0 7) = Lg v) (y3 : gI hr 103 (β 0 7) = N k) (y4 : gI hr 104 (β 0 7) = N t) (y6 : gI hr 106 (β 0 7) = N u) (y8 : gI hr 108 (β 0 7) = N w) :
    ∃ hc' hr' β', mX0_addDrill [.ref b, .int (N v)] hc = some (.inl none, hc') ∧ fX12_readDrill_235 [some (.ref 89), some (.int at'), some (.int (N (β 0 7)))] [] hr = some (.inl (some (.int (N 1))), hr') ∧ Fr (fcS b) [] hc hc' ∧ Fr fmA fmQ hr hr' ∧ LZ bs n K b β' i sl ho hc' hr' := by
  obtain ⟨c0, ⟨z1, z2, z3, z4, z5, z6, z7⟩, ⟨-, -, m3, -⟩, wpz⟩ := id l
  obtain ⟨cb, nd, -⟩ := id wpz
  have wc := c0.1.1
  have wr := c0.2.1
  obtain ⟨a9, a107, aq⟩ := af
  have hc7 : gI hc (b + 5) 0 = N (β 0 7) := z4 (5, 0, 7) (by decide)
  have hr7 : gI hr 89 7 = N (β 0 7) := m3 7 (by decide) (by decide)
  have hnm : nmN β < 33 := nm_33 cb (s := 3) (by decide) hlt
  have eadd := c_addName hb wc (v := v) (s := 3) (q := β 0 7) z6.1 hnm
  obtain ⟨hx, hhx⟩ : ∃ x, x = adN b (nmN β) v (100 * 3 + β 0 7) hc := ⟨_, rfl⟩
  rw [← hhx] at eadd
  have Fx : Fr (fcS b) [] hc hx := by rw [hhx]; exact adN_S hb
  have wx := Fx.wf wc
  have hx7 : gI hx (b + 5) 0 = N (β 0 7) := by rw [hhx, adN_o (by omega) (by omega) (Or.inl (by omega))]; exact hc7
  obtain ⟨hz, hhz⟩ : ∃ x, x = sI hx (b + 5) 0 (N (β 0 7 + 1)) := ⟨_, rfl⟩
  obtain ⟨rz, hrz⟩ : ∃ x, x = sI hr 89 7 (N (β 0 7 + 1)) := ⟨_, rfl⟩
  have ly : LY bs n K b β i sl ho hx hr := by rw [hhx]; exact l.y.ad hb
  obtain ⟨β', hβ⟩ : ∃ x, x = dB β v k t u q w f := ⟨_, rfl⟩
  have gb : GB β β' 7 := by rw [hβ]; exact dB_gb _ _ _ _ _ _ _ _
  have nlt : ∀ a, 102 ≤ a → a ≠ 105 → ¬ β 0 7 < cnt β a := fun a h1 h2 => by rw [cnt_103 ⟨h1, h2⟩]; exact Nat.lt_irrefl _
  have b102 : β' 102 (β 0 7) = v := by rw [hβ]; unfold dB; rw [if_neg (by decide), if_neg (nlt 102 (by decide) (by decide)), if_pos rfl]
  have b103 : β' 103 (β 0 7) = k := by rw [hβ]; unfold dB; rw [if_neg (by decide), if_neg (nlt 103 (by decide) (by decide)), if_neg (by decide), if_pos rfl]
  have b104 : β' 104 (β 0 7) = t := by rw [hβ]; unfold dB; rw [if_neg (by decide), if_neg (nlt 104 (by decide) (by decide)), if_neg (by decide), if_neg (by decide), if_pos rfl]
  have b105 : ∀ j, β' 105 (3 * β 0 7 + j) = f j := fun j => by
    have : ¬ 3 * β 0 7 + j < cnt β 105 := by show ¬ 3 * β 0 7 + j < 3 * β 0 7; omega
    rw [hβ]; unfold dB; rw [if_neg (by decide), if_neg this, if_neg (by decide), if_neg (by decide), if_neg (by decide), if_pos rfl, show 3 * β 0 7 + j - 3 * β 0 7 = j from by omega]
  have b106 : β' 106 (β 0 7) = u := by rw [hβ]; unfold dB; rw [if_neg (by decide), if_neg (nlt 106 (by decide) (by decide)), if_neg (by decide), if_neg (by decide), if_neg (by decide), if_neg (by decide), if_pos rfl]
  have b107 : β' 107 (β 0 7) = q := by rw [hβ]; unfold dB; rw [if_neg (by decide), if_neg (nlt 107 (by decide) (by decide)), if_neg (by decide), if_neg (by decide), if_neg (by decide), if_neg (by decide), if_neg (by decide), if_pos rfl]
  have b108 : β' 108 (β 0 7) = w := by rw [hβ]; unfold dB; rw [if_neg (by decide), if_neg (nlt 108 (by decide) (by decide)), if_neg (by decide), if_neg (by decide), if_neg (by decide), if_neg (by decide), if_neg (by decide), if_neg (by decide), if_pos rfl]
  have hcn : ∀ a, cix a = 7 → a ≠ 105 → cnt β a = β 0 7 ∧ cnt β' a = β 0 7 + 1 := fun a h h5 => by
    rw [cnt_cix, cnt_cix, if_neg h5, if_neg h5, h]; exact ⟨rfl, gb.1⟩
  have hc105 : cnt β 105 = 3 * β 0 7 ∧ cnt β' 105 = 3 * (β 0 7 + 1) := by
    rw [cnt_cix, cnt_cix, if_pos rfl, if_pos rfl]; exact ⟨rfl, by rw [show β' 0 (cix 105) = β 0 7 + 1 from gb.1]⟩
  have an : AddN β β' 3 v := gb.an (by decide) b102
  have hnc : nc β 3 < 100 := by show β 0 7 < 100; omega
  have cb' := gb.cb (by decide) cb (by simpa using hlt)
  have nd' := nd.add an hnc v1 v4
  refine ⟨hz, rz, β', ?_, ?_, ?_, ?_, ly.commit hb (ix := 7) (j0 := 5) (k0 := 0) (by decide) (by decide) gb.1 gb.2.1 gb.2.2 ?_ (by rw [hhz]; exact gI_eq) ?_ (by rw [hrz]; exact gI_eq) ?_ ?_ ?_ ?_ ?_ ?_⟩
  · rw [u_X0_addDrill, e_X0_addDrill_0]
    simp (disch := first | with_reducible assumption | exact Nat.le_of_ble_eq_true rfl | (simp only [WF_sI, WF_sL, WF_stR, WF_cpI]; with_reducible assumption) | omega | rfl | (show okF _ = true; decide)) only [r_push, r_iload_0, r_aload_0, r_lload_0, r_iload_1, r_aload_1, r_lload_1, r_iload_2, r_aload_2, r_lload_2, r_iload_3, r_aload_3, r_lload_3, r_iload_4, r_aload_4, r_lload_4, r_iload_5, r_aload_5, r_lload_5, r_iload_6, r_aload_6, r_lload_6, r_iload_7, r_aload_7, r_lload_7, r_iload_8, r_aload_8, r_lload_8, r_istore_00, r_astore_00, r_iinc_00, r_lstore_00, r_istore_1i, r_astore_1i, r_iinc_1i, r_lstore_1i, r_istore_1r, r_astore_1r, r_iinc_1r, r_lstore_1r, r_istore_1n, r_astore_1n, r_iinc_1n, r_lstore_1n, r_istore_1z, r_astore_1z, r_iinc_1z, r_lstore_1z, r_istore_2i, r_astore_2i, r_iinc_2i, r_lstore_2i, r_istore_2r, r_astore_2r, r_iinc_2r, r_lstore_2r, r_istore_2n, r_astore_2n, r_iinc_2n, r_lstore_2n, r_istore_2z, r_astore_2z, r_iinc_2z, r_lstore_2z, r_istore_3i, r_astore_3i, r_iinc_3i, r_lstore_3i, r_istore_3r, r_astore_3r, r_iinc_3r, r_lstore_3r, r_istore_3n, r_astore_3n, r_iinc_3n, r_lstore_3n, r_istore_3z, r_astore_3z, r_iinc_3z, r_lstore_3z, r_istore_4i, r_astore_4i, r_iinc_4i, r_lstore_4i, r_istore_4r, r_astore_4r, r_iinc_4r, r_lstore_4r, r_istore_4n, r_astore_4n, r_iinc_4n, r_lstore_4n, r_istore_4z, r_astore_4z, r_iinc_4z, r_lstore_4z, r_istore_5i, r_astore_5i, r_iinc_5i, r_lstore_5i, r_istore_5r, r_astore_5r, r_iinc_5r, r_lstore_5r, r_istore_5n, r_astore_5n, r_iinc_5n, r_lstore_5n, r_istore_5z, r_astore_5z, r_iinc_5z, r_lstore_5z, r_istore_6i, r_astore_6i, r_iinc_6i, r_lstore_6i, r_istore_6r, r_astore_6r, r_iinc_6r, r_lstore_6r, r_istore_6n, r_astore_6n, r_iinc_6n, r_lstore_6n, r_istore_6z, r_astore_6z, r_iinc_6z, r_lstore_6z, r_istore_7i, r_astore_7i, r_iinc_7i, r_lstore_7i, r_istore_7r, r_astore_7r, r_iinc_7r, r_lstore_7r, r_istore_7n, r_astore_7n, r_iinc_7n, r_lstore_7n, r_istore_7z, r_astore_7z, r_iinc_7z, r_lstore_7z, r_istore_8i, r_astore_8i, r_iinc_8i, r_istore_8r, r_astore_8r, r_iinc_8r, r_istore_8n, r_astore_8n, r_iinc_8n, r_istore_8z, r_astore_8z, r_iinc_8z, r_bin, r_lbin, r_div, r_ineg, r_i2l, r_i2b, r_i2c, r_lcmp, r_dup_i, r_dup_r, r_pop_i, r_pop_r, r_dup2, r_ifeq, r_iceq, r_iflt, r_iclt, r_ifge, r_icge, r_ifgt, r_icgt, r_ifle, r_icle, r_ifne, r_icne, r_putR, cs_nil, cs_int, cs_ref, cs_null, cs_long, r_aft_n, r_aft_v, r_aft_x, r_aftN_n, r_aftN_v, r_ireturn, r_zreturn, r_creturn, r_breturn, r_areturn, r_return, r_throw, r_ifnn_r, r_ifnn_n, r_objInit, r_tsw, r_ghost, r_lawret, r_rv, r_rv0, qs_0, qs_1, qs_2, qs_3, qs_4, qs_5, qs_6, q_max, q_min, if_true, if_false, and_self, and_true, true_and, and_false, false_and, not_true_eq_false, not_false_eq_true, or_true, true_or, or_false, false_or, eq_self, ne_eq, lit32, ofNat_N, neg_N1, N_add, N_mul, JN_add, NJ_add, J_add, N_lt, N_le, N_eq, N_nat, J_lt, J_le, J_eq, JN_lt, NJ_lt, JN_le, NJ_le, JN_eq, NJ_eq, J_nat, lt_tt, lt_ff, le_tt, le_ff, eqn_ff, ilt_tt, ilt_ff, ile_tt, ile_ff, ieq_ff, gI_sI, gI_sL, gL_sI, gL_sL, gR_sI, gR_sL, Nat.reduceEqDiff, qI_B0, qP_B0, qV0_B0, qV1_B0, qV2_B0, qV3_B0, qV4_B0, q_B0_0, q_B0_1, q_B0_11, q_B0_12, q_B0_13, q_B0_14, q_B0_15, q_B0_16, qI_B1, qP_B1, qV0_B1, qV1_B1, qV2_B1, qV3_B1, qV4_B1, q_B1_1, q_B1_2, q_B1_3, qA_B2, qS_B2, qc_B2, qp_B2, qf_B2, qA_B3, qS_B3, qc_B3, qp_B3, qf_B3, qA_B4, qS_B4, qc_B4, qp_B4, qf_B4, qI_B5, qP_B5, qV0_B5, qV1_B5, qV2_B5, qV3_B5, qV4_B5, q_B5_1, q_B5_2, q_B5_3, q_B5_4, q_B5_5, q_B5_6, q_B5_7, q_B5_8, q_B5_9, qA_B6, qS_B6, qc_B6, qp_B6, qf_B6, qA_B7, qS_B7, qc_B7, qp_B7, qf_B7, qA_B8, qS_B8, qc_B8, qp_B8, qf_B8, qA_B9, qS_B9, qc_B9, qp_B9, qf_B9, qA_B10, qS_B10, qc_B10, qp_B10, qf_B10, qA_B11, qS_B11, qc_B11, qp_B11, qf_B11, qA_B12, qS_B12, qc_B12, qp_B12, qf_B12, qA_B13, qS_B13, qc_B13, qp_B13, qf_B13, qA_B14, qS_B14, qc_B14, qp_B14, qf_B14, qA_B15, qS_B15, qc_B15, qp_B15, qf_B15, qA_B16, qS_B16, qc_B16, qp_B16, qf_B16, qA_B17, qS_B17, qc_B17, qp_B17, qf_B17, qA_B18, qS_B18, qc_B18, qp_B18, qf_B18, qA_B19, qS_B19, qc_B19, qp_B19, qf_B19, qA_B20, qS_B20, qc_B20, qp_B20, qf_B20, hc7, eadd, hx7, ← hhz]
  · rw [e_X12_readDrill_235]
    simp (disch := first | with_reducible assumption | exact Nat.le_of_ble_eq_true rfl | (simp only [WF_sI, WF_sL, WF_stR, WF_cpI]; with_reducible assumption) | omega | rfl | (show okF _ = true; decide)) only [r_push, r_iload_0, r_aload_0, r_lload_0, r_iload_1, r_aload_1, r_lload_1, r_iload_2, r_aload_2, r_lload_2, r_iload_3, r_aload_3, r_lload_3, r_iload_4, r_aload_4, r_lload_4, r_iload_5, r_aload_5, r_lload_5, r_iload_6, r_aload_6, r_lload_6, r_iload_7, r_aload_7, r_lload_7, r_iload_8, r_aload_8, r_lload_8, r_istore_00, r_astore_00, r_iinc_00, r_lstore_00, r_istore_1i, r_astore_1i, r_iinc_1i, r_lstore_1i, r_istore_1r, r_astore_1r, r_iinc_1r, r_lstore_1r, r_istore_1n, r_astore_1n, r_iinc_1n, r_lstore_1n, r_istore_1z, r_astore_1z, r_iinc_1z, r_lstore_1z, r_istore_2i, r_astore_2i, r_iinc_2i, r_lstore_2i, r_istore_2r, r_astore_2r, r_iinc_2r, r_lstore_2r, r_istore_2n, r_astore_2n, r_iinc_2n, r_lstore_2n, r_istore_2z, r_astore_2z, r_iinc_2z, r_lstore_2z, r_istore_3i, r_astore_3i, r_iinc_3i, r_lstore_3i, r_istore_3r, r_astore_3r, r_iinc_3r, r_lstore_3r, r_istore_3n, r_astore_3n, r_iinc_3n, r_lstore_3n, r_istore_3z, r_astore_3z, r_iinc_3z, r_lstore_3z, r_istore_4i, r_astore_4i, r_iinc_4i, r_lstore_4i, r_istore_4r, r_astore_4r, r_iinc_4r, r_lstore_4r, r_istore_4n, r_astore_4n, r_iinc_4n, r_lstore_4n, r_istore_4z, r_astore_4z, r_iinc_4z, r_lstore_4z, r_istore_5i, r_astore_5i, r_iinc_5i, r_lstore_5i, r_istore_5r, r_astore_5r, r_iinc_5r, r_lstore_5r, r_istore_5n, r_astore_5n, r_iinc_5n, r_lstore_5n, r_istore_5z, r_astore_5z, r_iinc_5z, r_lstore_5z, r_istore_6i, r_astore_6i, r_iinc_6i, r_lstore_6i, r_istore_6r, r_astore_6r, r_iinc_6r, r_lstore_6r, r_istore_6n, r_astore_6n, r_iinc_6n, r_lstore_6n, r_istore_6z, r_astore_6z, r_iinc_6z, r_lstore_6z, r_istore_7i, r_astore_7i, r_iinc_7i, r_lstore_7i, r_istore_7r, r_astore_7r, r_iinc_7r, r_lstore_7r, r_istore_7n, r_astore_7n, r_iinc_7n, r_lstore_7n, r_istore_7z, r_astore_7z, r_iinc_7z, r_lstore_7z, r_istore_8i, r_astore_8i, r_iinc_8i, r_istore_8r, r_astore_8r, r_iinc_8r, r_istore_8n, r_astore_8n, r_iinc_8n, r_istore_8z, r_astore_8z, r_iinc_8z, r_bin, r_lbin, r_div, r_ineg, r_i2l, r_i2b, r_i2c, r_lcmp, r_dup_i, r_dup_r, r_pop_i, r_pop_r, r_dup2, r_ifeq, r_iceq, r_iflt, r_iclt, r_ifge, r_icge, r_ifgt, r_icgt, r_ifle, r_icle, r_ifne, r_icne, r_putR, cs_nil, cs_int, cs_ref, cs_null, cs_long, r_aft_n, r_aft_v, r_aft_x, r_aftN_n, r_aftN_v, r_ireturn, r_zreturn, r_creturn, r_breturn, r_areturn, r_return, r_throw, r_ifnn_r, r_ifnn_n, r_objInit, r_tsw, r_ghost, r_lawret, r_rv, r_rv0, qs_0, qs_1, qs_2, qs_3, qs_4, qs_5, qs_6, q_max, q_min, if_true, if_false, and_self, and_true, true_and, and_false, false_and, not_true_eq_false, not_false_eq_true, or_true, true_or, or_false, false_or, eq_self, ne_eq, lit32, ofNat_N, neg_N1, N_add, N_mul, JN_add, NJ_add, J_add, N_lt, N_le, N_eq, N_nat, J_lt, J_le, J_eq, JN_lt, NJ_lt, JN_le, NJ_le, JN_eq, NJ_eq, J_nat, lt_tt, lt_ff, le_tt, le_ff, eqn_ff, ilt_tt, ilt_ff, ile_tt, ile_ff, ieq_ff, gI_sI, gI_sL, gL_sI, gL_sL, gR_sI, gR_sL, Nat.reduceEqDiff, qI_89, qP_89, qV0_89, qV1_89, qV2_89, qV3_89, qV4_89, q_89_11, q_89_12, q_89_13, q_89_14, q_89_15, q_89_16, q_89_17, q_89_18, q_89_19, q_89_20, q_89_21, q_89_22, q_89_23, q_89_24, q_89_25, q_89_26, q_89_27, q_89_28, q_89_29, q_89_30, q_89_31, q_89_32, q_89_35, q_89_36, q_89_53, q_89_54, q_89_56, q_89_57, q_89_61, q_89_62, q_89_63, q_89_64, q_89_65, q_89_66, q_89_67, q_89_68, q_89_69, q_89_70, q_89_71, q_89_76, q_89_81, q_89_82, q_89_85, qL_89, qPL_89, qZ0_89, qZ1_89, qA_91, qS_91, qc_91, qp_91, qf_91, qA_92, qS_92, qc_92, qp_92, qf_92, qA_93, qS_93, qc_93, qp_93, qf_93, qA_95, qS_95, qc_95, qp_95, qf_95, qA_97, qS_97, qc_97, qp_97, qf_97, qA_98, qS_98, qc_98, qp_98, qf_98, qA_99, qS_99, qc_99, qp_99, qf_99, qA_100, qS_100, qc_100, qp_100, qf_100, qA_101, qS_101, qc_101, qp_101, qf_101, qA_103, qS_103, qc_103, qp_103, qf_103, qA_104, qS_104, qc_104, qp_104, qf_104, qA_105, qS_105, qc_105, qp_105, qf_105, qA_106, qS_106, qc_106, qp_106, qf_106, qA_107, qS_107, qc_107, qp_107, qf_107, qA_108, qS_108, qc_108, qp_108, qf_108, qA_109, qS_109, qc_109, qp_109, qf_109, qA_110, qS_110, qc_110, qp_110, qf_110, qA_112, qS_112, qc_112, qp_112, qf_112, qA_113, qS_113, qc_113, qp_113, qf_113, qA_114, qS_114, qc_114, qp_114, qf_114, qA_115, qS_115, qc_115, qp_115, qf_115, qA_116, qS_116, qc_116, qp_116, qf_116, qA_117, qS_117, qc_117, qp_117, qf_117, qA_118, qS_118, qc_118, qp_118, qf_118, qA_119, qS_119, qc_119, qp_119, qf_119, qA_120, qS_120, qc_120, qp_120, qf_120, qA_121, qS_121, qc_121, qp_121, qf_121, qA_122, qS_122, qc_122, qp_122, qf_122, qA_123, qS_123, qc_123, qp_123, qf_123, qA_124, qS_124, qc_124, qp_124, qf_124, qA_125, qS_125, qc_125, qp_125, qf_125, qA_126, qS_126, qc_126, qp_126, qf_126, qA_127, qS_127, qc_127, qp_127, qf_127, qA_128, qS_128, qc_128, qp_128, qf_128, qA_129, qS_129, qc_129, qp_129, qf_129, qA_130, qS_130, qc_130, qp_130, qf_130, qA_131, qS_131, qc_131, qp_131, qf_131, qA_132, qS_132, qc_132, qp_132, qf_132, hr7, ← hrz]
  · rw [hhz]; exact Fx.sI (fcS_c hb (by decide) _) _
  · rw [hrz]; exact (Fr.refl _ _ _).sI (fmQ_c (by decide)) _
  · rw [hhz]; exact (Fr.refl _ _ _).sI (by unfold inF; simp) _
  · rw [hrz]; exact (Fr.refl _ _ _).sI rfl _
  · intro a ha h j j1 j2
    have h7 : ∀ a ∈ rI, cix a = 7 → a = 105 ∨ a = 103 ∨ a = 104 ∨ a = 106 ∨ a = 107 ∨ a = 108 := by decide
    by_cases e5 : a = 105
    · subst e5
      rw [hc105.1] at j1
      rw [hc105.2] at j2
      obtain ⟨d, rfl⟩ : ∃ d, j = 3 * β 0 7 + d := ⟨j - 3 * β 0 7, by omega⟩
      rw [VJ_N (by decide), b105]
      exact (nf d (by omega)).2.1
    · obtain ⟨t1, t2⟩ := hcn a h e5
      have hj : j = β 0 7 := by omega
      rw [hj]
      rcases h7 a ha h with rfl | rfl | rfl | rfl | rfl | rfl
      · exact absurd rfl e5
      · rw [VJ_N (by decide), b103]; exact y3
      · rw [VJ_N (by decide), b104]; exact y4
      · rw [VJ_N (by decide), b106]; exact y6
      · rw [VJ_N (by decide), b107]; exact a107
      · rw [VJ_N (by decide), b108]; exact y8
  · intro a ha h j j1 j2
    have : ∀ a ∈ rL, cix a = 7 → a = 102 := by decide
    have := this a ha h
    subst this
    obtain ⟨t1, t2⟩ := hcn 102 h (by decide)
    have hj : j = β 0 7 := by omega
    rw [hj, b102]; exact y2
  · intro p hp h j j1 j2
    have h7 : ∀ p ∈ rC, cix p.1 = 7 → p = (105, 11) ∨ p = (103, 6) ∨ p = (104, 7) ∨ p = (106, 8) ∨ p = (107, 9) ∨ p = (108, 10) := by decide
    have h11 : ∀ p ∈ rC, p.2 ≠ 15 ∧ p.2 ≠ 16 ∧ p.2 ≠ 0 := by decide
    obtain ⟨o1, o2, o3⟩ := h11 p hp
    rw [hhx, adN_o (by omega) (by omega) (Or.inl (by omega))]
    by_cases e5 : p.1 = 105
    · rw [e5, hc105.1] at j1
      rw [e5, hc105.2] at j2
      obtain ⟨d, rfl⟩ : ∃ d, j = 3 * β 0 7 + d := ⟨j - 3 * β 0 7, by omega⟩
      rcases h7 p hp h with rfl | rfl | rfl | rfl | rfl | rfl
      · rw [VJ_N (by decide), b105]; exact (nf d (by omega)).1
      all_goals (exact absurd e5 (by decide))
    · obtain ⟨t1, t2⟩ := hcn p.1 h e5
      have hj : j = β 0 7 := by omega
      rw [hj]
      rcases h7 p hp h with rfl | rfl | rfl | rfl | rfl | rfl
      · exact absurd rfl e5
      · rw [VJ_N (by decide), b103]; exact x6
      · rw [VJ_N (by decide), b104]; exact x7
      · rw [VJ_N (by decide), b106]; exact x8
      · rw [VJ_N (by decide), b107]; exact a9
      · rw [VJ_N (by decide), b108]; exact x10
  · rw [hhx]
    exact z6.add an hnc adN_10 adN_15 adN_16
  · refine gb.rm (by decide) (fun j hj => ?_)
    rw [hhz, hhx, gI_ne (by omega)]
    exact z7.ad j hj
  · exact gb.wp (by decide) wpz cb' nd' (fun z => absurd z (by decide)) (fun z => absurd z (by decide)) (fun z => absurd z (by decide)) (fun z => absurd z (by decide)) (fun _ => by
      rw [b103, b104, b106, b107, b108]
      obtain ⟨j, j1, j2⟩ := hpos
      exact ⟨k1, t1, t2, u1, aq, w1, fun d hd => by rw [b105]; exact (nf d hd).2.2, j, j1, by rw [b105]; exact j2⟩)
