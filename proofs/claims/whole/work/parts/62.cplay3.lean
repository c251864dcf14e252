set_option maxHeartbeats 2000000 in
theorem lauN_oth {β : BD} (wb : WB β) {mis t j : Nat} {s : Nat → Int} {q : PL} (hj : s j ≠ (t : Int)) (n : Nat) : pSt (lauN β mis s t q n) j = pSt q j ∧ pEn (lauN β mis s t q n) j = pEn q j := by
  induction n with
  | zero => exact ⟨rfl, rfl⟩
  | succ n ih =>
    unfold lauN
    split
    · next hs =>
      have hjn : j ≠ n := fun z => hj (by rw [z]; exact hs)
      obtain ⟨e1, -, -, e4, -⟩ := lau_oth wb (mis := mis) (t := t) (q := lauN β mis s t q n) hjn
      rw [e1, e4]; exact ih
    · exact ih
set_option maxHeartbeats 2000000 in
theorem st_run {β : BD} (wb : WB β) {mis : Nat} {hz pl : Int32} {s : Nat → Int} (hs : ∀ d, nD β ≤ d → d < 5 → s d = -1) {t d : Nat} (hd : d < 5) (h : pSt (run β mis hz pl s t) d ≠ 0) : ∀ j, t + j ≤ 48 → pSt (run β mis hz pl s (t + j)) d = pSt (run β mis hz pl s t) d ∧ pEn (run β mis hz pl s (t + j)) d = pEn (run β mis hz pl s t) d := by
  intro j
  induction j with
  | zero => intro _; exact ⟨rfl, rfl⟩
  | succ j ih =>
    intro hj
    have e := ih (by omega)
    have hf := (run_ok wb (mis := mis) (hz := hz) (pl := pl) hs (t + j) (by omega)).2
    have hsd : s d ≠ ((t + j : Nat) : Int) := fun z => by
      have := (hf d hd (Or.inr (Or.inl ⟨z, Nat.zero_le _⟩))).1
      rw [e.1] at this
      exact h this
    have := lauN_oth wb (mis := mis) (q := hanS β pl (t + j) (run β mis hz pl s (t + j))) hsd (nD β)
    exact ⟨this.1.trans e.1, this.2.trans e.2⟩
set_option maxHeartbeats 2000000 in
theorem neg_run {β : BD} (wb : WB β) {mis : Nat} {hz pl : Int32} {s : Nat → Int} (hs : ∀ d, nD β ≤ d → d < 5 → s d = -1) {t : Nat} (ht : t ≤ 48) (h : Neg β (run β mis hz pl s t) = true) : Neg β (run β mis hz pl s 48) = true := by
  have hD := wb.1.2.2.2.2
  unfold Neg at h ⊢
  cases hx : anyB (fun d => decide (pSt (run β mis hz pl s 48) d < 0)) (nD β) with
  | true => rfl
  | false =>
    have h0 := anyB_false hx
    have : anyB (fun d => decide (pSt (run β mis hz pl s t) d < 0)) (nD β) = false := anyB_f (fun d hd => by
      have h1 := h0 d hd
      simp only [decide_eq_false_iff_not] at h1 ⊢
      intro h2
      have := (st_run wb (mis := mis) (hz := hz) (pl := pl) hs (by omega) (show pSt (run β mis hz pl s t) d ≠ 0 by omega) (48 - t) (by omega)).1
      rw [show t + (48 - t) = 48 from by omega] at this
      omega)
    rw [this] at h
    cases h
set_option maxHeartbeats 2000000 in
theorem lauN_ext {β : BD} {mis t : Nat} {s : Nat → Int} {q : PL} (hs : ∀ d, nD β ≤ d → d < 5 → s d = -1) : ∀ n, nD β ≤ n → n ≤ 5 → lauN β mis s t q n = lauN β mis s t q (nD β) := by
  intro n
  induction n with
  | zero => intro h1 _; rw [show nD β = 0 from by omega]
  | succ n ih =>
    intro h1 h2
    by_cases e : nD β = n + 1
    · rw [e]
    · have hn := hs n (by omega) (by omega)
      show (if s n = (t : Int) then lau β mis n t (lauN β mis s t q n) else lauN β mis s t q n) = _
      rw [if_neg (by omega), ih (by omega) (by omega)]
def mxS (s : Nat → Int) : Nat → Int
  | 0 => -1
  | n + 1 => max (mxS s n) (s n)
set_option maxHeartbeats 2000000 in
theorem gI_stne {s : AH} {a b n j : Nat} {f : Nat → Int32} (h : b ≠ a) : gI (stR s a n f) b j = gI s b j := by rw [gI_stR, if_neg (fun z => h z.1)]
set_option maxHeartbeats 2000000 in
theorem gI_steq {s : AH} {a n j : Nat} {f : Nat → Int32} (h : j < n) : gI (stR s a n f) a j = f j := by rw [gI_stR, if_pos ⟨rfl, h⟩]
set_option maxHeartbeats 2000000 in
theorem mxS_b {s : Nat → Int} (sb : SB s) : ∀ n, n ≤ 5 → -1 ≤ mxS s n ∧ mxS s n ≤ 23 := by
  intro n
  induction n with
  | zero => intro _; unfold mxS; omega
  | succ n ih => intro hn; have := ih (by omega); have := sb n (by omega); unfold mxS; omega
set_option maxHeartbeats 2000000 in
theorem mxS_le (s : Nat → Int) : ∀ n d, d < n → s d ≤ mxS s n := by
  intro n
  induction n with
  | zero => intro d hd; omega
  | succ n ih =>
    intro d hd
    unfold mxS
    by_cases e : d = n
    · subst e; omega
    · have := ih d (by omega); omega
set_option maxHeartbeats 2000000 in
theorem CL.fr {β : BD} {b : Nat} (hb : b = 8 ∨ b = 29) {h h' : AH} {A : List Nat} {Q : List (Nat × Nat)} (cl : CL β b h) (f : Fr A Q h h') (ok : (BCrows.all (fun j => !(A.contains (8 + j) || Q.any (fun q => q.1 == 8 + j)) && !(A.contains (29 + j) || Q.any (fun q => q.1 == 29 + j)))) = true) : CL β b h' := by
  have hr : ∀ j, j ∈ BCrows → ∀ k, gI h' (b + j) k = gI h (b + j) k := fun j hj k => f.row (by
    have := List.all_eq_true.mp ok j hj
    rcases hb with rfl | rfl
    · simp only [Bool.and_eq_true] at this; simpa using this.1
    · simp only [Bool.and_eq_true] at this; simpa using this.2) k
  intro d hd
  obtain ⟨k1, cc, cl, k2, k3, k4⟩ := cl d hd
  exact ⟨fun e he => by rw [hr 12 (by decide)]; exact k1 e he, cc, cl, k2, by rw [hr 14 (by decide)]; exact k3, fun i hi => by rw [hr 13 (by decide)]; exact k4 i hi⟩
set_option maxHeartbeats 2000000 in
theorem GC.fr {β : BD} {h h' : AH} {A : List Nat} {Q : List (Nat × Nat)} (g : GC β h) (f : Fr A Q h h') (ok : (A.contains 52 || Q.any (fun q => q.1 == 52)) = false) : GC β h' := fun a ha => by rw [f.row ok]; exact g a ha
set_option maxHeartbeats 2000000 in
theorem GM.fr {β : BD} {h h' : AH} {A : List Nat} {Q : List (Nat × Nat)} (g : GM β h) (f : Fr A Q h h') (ok : (A.contains 115 || Q.any (fun q => q.1 == 115)) = false) : GM β h' := fun a ha => by rw [f.row ok]; exact g a ha
def okR (A : List Nat) (Q : List (Nat × Nat)) (R : List Nat) (P : List (Nat × Nat)) : Bool := R.all (fun a => !(A.contains a || Q.any (fun q => q.1 == a))) && P.all (fun p => !inF A Q p.1 p.2)
set_option maxHeartbeats 2000000 in
theorem okR_r {A : List Nat} {Q : List (Nat × Nat)} {R : List Nat} {P : List (Nat × Nat)} (ok : okR A Q R P = true) {a : Nat} (ha : a ∈ R) : (A.contains a || Q.any (fun q => q.1 == a)) = false := by
  unfold okR at ok
  rw [Bool.and_eq_true] at ok
  have := List.all_eq_true.mp ok.1 a ha
  simpa using this
set_option maxHeartbeats 2000000 in
theorem okR_p {A : List Nat} {Q : List (Nat × Nat)} {R : List Nat} {P : List (Nat × Nat)} (ok : okR A Q R P = true) {p : Nat × Nat} (hp : p ∈ P) : inF A Q p.1 p.2 = false := by
  unfold okR at ok
  rw [Bool.and_eq_true] at ok
  have := List.all_eq_true.mp ok.2 p hp
  simpa using this
def rCP56 : List Nat := [61, 62, 64, 65, 66, 67, 68, 71]
def pCP56 : List (Nat × Nat) := [(57, 3), (57, 4), (57, 5), (57, 6), (57, 7), (56, 16)]
set_option maxHeartbeats 2000000 in
theorem CP56.fr {β : BD} {pl : Int32} {q : PL} {t : Nat} {h h' : AH} {A : List Nat} {Q : List (Nat × Nat)} (cp : CP56 β pl q t h) (f : Fr A Q h h') (ok : okR A Q rCP56 pCP56 = true) : CP56 β pl q t h' := by
  have hr : ∀ a, a ∈ rCP56 → ∀ k, gI h' a k = gI h a k := fun a ha k => f.row (okR_r ok ha) k
  have hp : ∀ p, p ∈ pCP56 → gI h' p.1 p.2 = gI h p.1 p.2 := fun p hp => f.i p.1 p.2 (okR_p ok hp)
  obtain ⟨⟨a1, a2, a3, a4, a5⟩, a6, a7, a8, a9, a10⟩ := cp
  refine ⟨⟨?_, ?_, ?_, ?_, ?_⟩, fun k hk => ?_, fun k g1 g2 => ?_, fun d hd => ?_, fun k g1 g2 e he => ?_, ?_⟩
  · exact (hp (57, 3) (by decide)).trans a1
  · exact (hp (57, 4) (by decide)).trans a2
  · exact (hp (57, 5) (by decide)).trans a3
  · exact (hp (57, 6) (by decide)).trans a4
  · exact (hp (57, 7) (by decide)).trans a5
  · rw [hr 61 (by decide)]; exact a6 k hk
  · rw [hr 62 (by decide)]; exact a7 k g1 g2
  · rw [hr 64 (by decide), hr 65 (by decide), hr 66 (by decide), hr 67 (by decide), hr 68 (by decide)]; exact a8 d hd
  · rw [hr 71 (by decide)]; exact a9 k g1 g2 e he
  · rw [hp (56, 16) (by decide)]; exact a10
set_option maxHeartbeats 2000000 in
theorem TI56.fr {b stf : Nat} {hz pl : Int32} {s : Nat → Int} {h h' : AH} {A : List Nat} {Q : List (Nat × Nat)} (ti : TI56 b stf hz pl s h) (f : Fr A Q h h') (ok : okR A Q [63] [(56, 13), (56, 14), (56, 15)] = true) : TI56 b stf hz pl s h' := by
  obtain ⟨t1, t2, t3, t4, t5⟩ := ti
  refine ⟨(f.r 56 12).trans t1, (f.i 56 13 (okR_p (p := (56, 13)) ok (by decide))).trans t2, (f.i 56 14 (okR_p (p := (56, 14)) ok (by decide))).trans t3, (f.i 56 15 (okR_p (p := (56, 15)) ok (by decide))).trans t4, fun d hd => ?_⟩
  rw [f.row (okR_r ok (by decide))]
  exact t5 d hd
def FA56 : List Nat := [58, 59, 60, 61, 62, 64, 65, 66, 67, 68, 69, 71, 52, 54, 55]
def FQ56 : List (Nat × Nat) := [(57, 3), (57, 4), (57, 5), (57, 6), (57, 7), (56, 16), (56, 17)]
set_option maxHeartbeats 2000000 in
theorem c_reset56 {β : BD} (wb : WB β) {h : AH} (w : WF h) {b : Nat} (hb : b = 8 ∨ b = 29) (bc : BC β b h) {stf : Nat} {hz pl : Int32} {s : Nat → Int} (ti : TI56 b stf hz pl s h) (sb : SB s) :
    RetN (fun h' => Fr FA56 FQ56 h h' ∧ CP56 β pl (ini hz) 0 h' ∧ gI h' 56 17 = J (mxS s 5) ∧ ∀ k, gI h' 52 k = gI h 52 k) (mX8_reset [.ref 56] h) := by
  obtain ⟨t1, t2, t3, t4, t5⟩ := id ti
  have hdry := bc.1.2.2.2.2.2.1
  rw [u_X8_reset, e_X8_reset_0]
  simp (disch := first | with_reducible assumption | exact Nat.le_of_ble_eq_true rfl | (simp only [WF_sI, WF_sL, WF_stR, WF_cpI]; with_reducible assumption) | omega | rfl | (show okF _ = true; decide)) only [e_X8_reset_50, e_X5_refill_0, u_X5_refill, r_push, r_iload_0, r_aload_0, r_lload_0, r_iload_1, r_aload_1, r_lload_1, r_iload_2, r_aload_2, r_lload_2, r_iload_3, r_aload_3, r_lload_3, r_iload_4, r_aload_4, r_lload_4, r_iload_5, r_aload_5, r_lload_5, r_iload_6, r_aload_6, r_lload_6, r_iload_7, r_aload_7, r_lload_7, r_iload_8, r_aload_8, r_lload_8, r_istore_00, r_astore_00, r_iinc_00, r_lstore_00, r_istore_1i, r_astore_1i, r_iinc_1i, r_lstore_1i, r_istore_1r, r_astore_1r, r_iinc_1r, r_lstore_1r, r_istore_1n, r_astore_1n, r_iinc_1n, r_lstore_1n, r_istore_1z, r_astore_1z, r_iinc_1z, r_lstore_1z, r_istore_2i, r_astore_2i, r_iinc_2i, r_lstore_2i, r_istore_2r, r_astore_2r, r_iinc_2r, r_lstore_2r, r_istore_2n, r_astore_2n, r_iinc_2n, r_lstore_2n, r_istore_2z, r_astore_2z, r_iinc_2z, r_lstore_2z, r_istore_3i, r_astore_3i, r_iinc_3i, r_lstore_3i, r_istore_3r, r_astore_3r, r_iinc_3r, r_lstore_3r, r_istore_3n, r_astore_3n, r_iinc_3n, r_lstore_3n, r_istore_3z, r_astore_3z, r_iinc_3z, r_lstore_3z, r_istore_4i, r_astore_4i, r_iinc_4i, r_lstore_4i, r_istore_4r, r_astore_4r, r_iinc_4r, r_lstore_4r, r_istore_4n, r_astore_4n, r_iinc_4n, r_lstore_4n, r_istore_4z, r_astore_4z, r_iinc_4z, r_lstore_4z, r_istore_5i, r_astore_5i, r_iinc_5i, r_lstore_5i, r_istore_5r, r_astore_5r, r_iinc_5r, r_lstore_5r, r_istore_5n, r_astore_5n, r_iinc_5n, r_lstore_5n, r_istore_5z, r_astore_5z, r_iinc_5z, r_lstore_5z, r_istore_6i, r_astore_6i, r_iinc_6i, r_lstore_6i, r_istore_6r, r_astore_6r, r_iinc_6r, r_lstore_6r, r_istore_6n, r_astore_6n, r_iinc_6n, r_lstore_6n, r_istore_6z, r_astore_6z, r_iinc_6z, r_lstore_6z, r_istore_7i, r_astore_7i, r_iinc_7i, r_lstore_7i, r_istore_7r, r_astore_7r, r_iinc_7r, r_lstore_7r, r_istore_7n, r_astore_7n, r_iinc_7n, r_lstore_7n, r_istore_7z, r_astore_7z, r_iinc_7z, r_lstore_7z, r_istore_8i, r_astore_8i, r_iinc_8i, r_istore_8r, r_astore_8r, r_iinc_8r, r_istore_8n, r_astore_8n, r_iinc_8n, r_istore_8z, r_astore_8z, r_iinc_8z, r_bin, r_lbin, r_div, r_ineg, r_i2l, r_i2b, r_i2c, r_lcmp, r_dup_i, r_dup_r, r_pop_i, r_pop_r, r_dup2, r_ifeq, r_iceq, r_iflt, r_iclt, r_ifge, r_icge, r_ifgt, r_icgt, r_ifle, r_icle, r_ifne, r_icne, r_putR, cs_nil, cs_int, cs_ref, cs_null, cs_long, r_aft_n, r_aft_v, r_aft_x, r_aftN_n, r_aftN_v, r_ireturn, r_zreturn, r_creturn, r_breturn, r_areturn, r_return, r_throw, r_ifnn_r, r_ifnn_n, r_objInit, r_tsw, r_ghost, r_lawret, r_rv, r_rv0, qs_0, qs_1, qs_2, qs_3, qs_4, qs_5, qs_6, q_max, q_min, if_true, if_false, and_self, and_true, true_and, and_false, false_and, not_true_eq_false, not_false_eq_true, or_true, true_or, or_false, false_or, eq_self, ne_eq, lit32, ofNat_N, neg_N1, N_add, N_mul, JN_add, NJ_add, J_add, N_lt, N_le, N_eq, N_nat, J_lt, J_le, J_eq, JN_lt, NJ_lt, JN_le, NJ_le, JN_eq, NJ_eq, J_nat, lt_tt, lt_ff, le_tt, le_ff, eqn_ff, ilt_tt, ilt_ff, ile_tt, ile_ff, ieq_ff, gI_sI, gI_sL, gL_sI, gL_sL, gR_sI, gR_sL, Nat.reduceEqDiff, qI_56, qP_56, qV0_56, qV1_56, qV2_56, qV3_56, qV4_56, q_56_0, q_56_9, q_56_10, q_56_11, q_56_1, q_56_2, q_56_3, q_56_4, q_56_5, q_56_6, q_56_7, q_56_12, qR_56_12, qI_57, qP_57, qV0_57, qV1_57, qV2_57, qV3_57, qV4_57, q_57_0, q_57_1, q_57_2, q_57_8, q_57_9, qA_58, qS_58, qc_58, qp_58, qf_58, qA_59, qS_59, qc_59, qp_59, qf_59, qA_60, qS_60, qc_60, qp_60, qf_60, qA_61, qS_61, qc_61, qp_61, qf_61, qA_62, qS_62, qc_62, qp_62, qf_62, qA_63, qS_63, qc_63, qp_63, qf_63, qA_64, qS_64, qc_64, qp_64, qf_64, qA_65, qS_65, qc_65, qp_65, qf_65, qA_66, qS_66, qc_66, qp_66, qf_66, qA_67, qS_67, qc_67, qp_67, qf_67, qA_68, qS_68, qc_68, qp_68, qf_68, qA_69, qS_69, qc_69, qp_69, qf_69, qA_70, qS_70, qc_70, qp_70, qf_70, qA_71, qS_71, qc_71, qp_71, qf_71, qI_B0, qP_B0, qV0_B0, qV1_B0, qV2_B0, qV3_B0, qV4_B0, q_B0_0, q_B0_1, q_B0_11, q_B0_12, q_B0_13, q_B0_14, q_B0_15, q_B0_16, qI_B1, qP_B1, qV0_B1, qV1_B1, qV2_B1, qV3_B1, qV4_B1, q_B1_1, q_B1_2, q_B1_3, qA_B2, qS_B2, qc_B2, qp_B2, qf_B2, qA_B3, qS_B3, qc_B3, qp_B3, qf_B3, qA_B4, qS_B4, qc_B4, qp_B4, qf_B4, qI_B5, qP_B5, qV0_B5, qV1_B5, qV2_B5, qV3_B5, qV4_B5, q_B5_1, q_B5_2, q_B5_3, q_B5_4, q_B5_5, q_B5_6, q_B5_7, q_B5_8, q_B5_9, qA_B6, qS_B6, qc_B6, qp_B6, qf_B6, qA_B7, qS_B7, qc_B7, qp_B7, qf_B7, qA_B8, qS_B8, qc_B8, qp_B8, qf_B8, qA_B9, qS_B9, qc_B9, qp_B9, qf_B9, qA_B10, qS_B10, qc_B10, qp_B10, qf_B10, qA_B11, qS_B11, qc_B11, qp_B11, qf_B11, qA_B12, qS_B12, qc_B12, qp_B12, qf_B12, qA_B13, qS_B13, qc_B13, qp_B13, qf_B13, qA_B14, qS_B14, qc_B14, qp_B14, qf_B14, qA_B15, qS_B15, qc_B15, qp_B15, qf_B15, qA_B16, qS_B16, qc_B16, qp_B16, qf_B16, qA_B17, qS_B17, qc_B17, qp_B17, qf_B17, qA_B18, qS_B18, qc_B18, qp_B18, qf_B18, qA_B19, qS_B19, qc_B19, qp_B19, qf_B19, qA_B20, qS_B20, qc_B20, qp_B20, qf_B20, t1, t3, t4, hdry, gI_sI, gI_stR, Nat.reduceEqDiff]
  obtain ⟨h1, hh1⟩ : ∃ h1, h1 = sI (sI (stR (stR (stR (stR (stR (stR (stR (stR (sI (sI (sI (sI (sI h 57 3 hz) 57 4 (N 0)) 57 5 (N 0)) 57 6 pl) 57 7 (N (β 0 9))) 61 48 (fun _ => N 0)) 62 48 (fun _ => N 0)) 71 48 (fun _ => N 0)) 64 5 (fun _ => N 0)) 65 5 (fun _ => N 0)) 66 5 (fun _ => J (-1))) 67 5 (fun _ => J (-1))) 68 5 (fun _ => J (-1))) 56 16 (N 0)) 56 17 (J (-1)) := ⟨_, rfl⟩
  rw [← hh1]
  have fr1 : Fr FA56 FQ56 h h1 := by
    rw [hh1]
    exact (((((((((((((((Fr.refl _ _ h).sI rfl _).sI rfl _).sI rfl _).sI rfl _).sI rfl _).stR rfl _ _).stR rfl _ _).stR rfl _ _).stR rfl _ _).stR rfl _ _).stR rfl _ _).stR rfl _ _).stR rfl _ _).sI rfl _).sI rfl _
  have ti1 := ti.fr fr1 rfl
  have w1 := fr1.wf w
  have cp1 : CP56 β pl (ini hz) 0 h1 := by
    have hws : ∀ k n, wSum β k (ini hz) n = N 0 := fun k n => by
      induction n with
      | zero => rfl
      | succ n ih =>
        unfold wSum
        rw [if_neg (by show ¬ ((-1 : Int) = (k : Int)); omega)]
        exact ih
    refine ⟨⟨?_, ?_, ?_, ?_, ?_⟩, fun k hk => ?_, fun k g1 g2 => ?_, fun d hd => ⟨?_, ?_, ?_, ?_, ?_⟩, fun k g1 g2 e he => ?_, ?_⟩
    · rw [hh1]; simp (disch := first | decide | assumption | omega) only [gI_eq, gI_ne, gI_nk, gI_steq, gI_stne]; rfl
    · rw [hh1]; simp (disch := first | decide | assumption | omega) only [gI_eq, gI_ne, gI_nk, gI_steq, gI_stne]; rfl
    · rw [hh1]; simp (disch := first | decide | assumption | omega) only [gI_eq, gI_ne, gI_nk, gI_steq, gI_stne]; rfl
    · rw [hh1]; simp (disch := first | decide | assumption | omega) only [gI_eq, gI_ne, gI_nk, gI_steq, gI_stne]
    · rw [hh1]; simp (disch := first | decide | assumption | omega) only [gI_eq, gI_ne, gI_nk, gI_steq, gI_stne]
    · rw [hh1]; simp (disch := first | decide | assumption | omega) only [gI_eq, gI_ne, gI_nk, gI_steq, gI_stne]; rfl
    · rw [hh1, hws]; simp (disch := first | decide | assumption | omega) only [gI_eq, gI_ne, gI_nk, gI_steq, gI_stne]
    · rw [hh1]; simp (disch := first | decide | assumption | omega) only [gI_eq, gI_ne, gI_nk, gI_steq, gI_stne]; rfl
    · rw [hh1]; simp (disch := first | decide | assumption | omega) only [gI_eq, gI_ne, gI_nk, gI_steq, gI_stne]; rfl
    · rw [hh1]; simp (disch := first | decide | assumption | omega) only [gI_eq, gI_ne, gI_nk, gI_steq, gI_stne]; rfl
    · rw [hh1]; simp (disch := first | decide | assumption | omega) only [gI_eq, gI_ne, gI_nk, gI_steq, gI_stne]; rfl
    · rw [hh1]; simp (disch := first | decide | assumption | omega) only [gI_eq, gI_ne, gI_nk, gI_steq, gI_stne]; rfl
    · have : gI h1 71 k = N 0 := by rw [hh1]; simp (disch := first | decide | assumption | omega) only [gI_eq, gI_ne, gI_nk, gI_steq, gI_stne]
      rw [this, bt_0]
      exact (decide_eq_false (fun z => Nat.lt_irrefl 0 z.2)).symm
    · refine ⟨0, ?_, by decide, fun e he => ?_⟩
      · rw [hh1]; simp (disch := first | decide | assumption | omega) only [gI_eq, gI_ne, gI_nk, gI_steq, gI_stne]
      · rw [Nat.zero_testBit]
        exact (decide_eq_false (fun z => Nat.lt_irrefl 0 z.2)).symm
  have g17 : gI h1 56 17 = J (-1) := by rw [hh1, gI_eq]
  refine loop_up (σ := AH) (n := 5) (f := fun fu i q => fX8_reset_82 fu [some (.ref 56), some (.int (N i))] [] q)
    (Inv := fun i q => Fr [] [(56, 17)] h1 q ∧ gI q 56 17 = J (mxS s i)) (P := RetN _) ?_ ?_ fuelN 0 h1 (Nat.zero_le _) (by unfold fuelN; omega) ⟨Fr.refl _ _ _, g17⟩
  · intro fu i q hi ⟨fr, k1⟩
    have w2 := fr.wf w1
    have hs1 : gI q 63 i = J (s i) := (fr.row rfl i).trans (ti1.2.2.2.2 i hi)
    obtain ⟨m1, m2⟩ := mxS_b sb i (by omega)
    obtain ⟨m3, m4⟩ := sb i hi
    refine Or.inl ⟨sI q 56 17 (J (mxS s (i + 1))), ⟨fr.sI rfl _, gI_eq⟩, ?_⟩
    rw [e_X8_reset_82]
    simp (disch := first | with_reducible assumption | exact Nat.le_of_ble_eq_true rfl | (simp only [WF_sI, WF_sL, WF_stR, WF_cpI]; with_reducible assumption) | omega | rfl | (show okF _ = true; decide)) only [r_push, r_iload_0, r_aload_0, r_lload_0, r_iload_1, r_aload_1, r_lload_1, r_iload_2, r_aload_2, r_lload_2, r_iload_3, r_aload_3, r_lload_3, r_iload_4, r_aload_4, r_lload_4, r_iload_5, r_aload_5, r_lload_5, r_iload_6, r_aload_6, r_lload_6, r_iload_7, r_aload_7, r_lload_7, r_iload_8, r_aload_8, r_lload_8, r_istore_00, r_astore_00, r_iinc_00, r_lstore_00, r_istore_1i, r_astore_1i, r_iinc_1i, r_lstore_1i, r_istore_1r, r_astore_1r, r_iinc_1r, r_lstore_1r, r_istore_1n, r_astore_1n, r_iinc_1n, r_lstore_1n, r_istore_1z, r_astore_1z, r_iinc_1z, r_lstore_1z, r_istore_2i, r_astore_2i, r_iinc_2i, r_lstore_2i, r_istore_2r, r_astore_2r, r_iinc_2r, r_lstore_2r, r_istore_2n, r_astore_2n, r_iinc_2n, r_lstore_2n, r_istore_2z, r_astore_2z, r_iinc_2z, r_lstore_2z, r_istore_3i, r_astore_3i, r_iinc_3i, r_lstore_3i, r_istore_3r, r_astore_3r, r_iinc_3r, r_lstore_3r, r_istore_3n, r_astore_3n, r_iinc_3n, r_lstore_3n, r_istore_3z, r_astore_3z, r_iinc_3z, r_lstore_3z, r_istore_4i, r_astore_4i, r_iinc_4i, r_lstore_4i, r_istore_4r, r_astore_4r, r_iinc_4r, r_lstore_4r, r_istore_4n, r_astore_4n, r_iinc_4n, r_lstore_4n, r_istore_4z, r_astore_4z, r_iinc_4z, r_lstore_4z, r_istore_5i, r_astore_5i, r_iinc_5i, r_lstore_5i, r_istore_5r, r_astore_5r, r_iinc_5r, r_lstore_5r, r_istore_5n, r_astore_5n, r_iinc_5n, r_lstore_5n, r_istore_5z, r_astore_5z, r_iinc_5z, r_lstore_5z, r_istore_6i, r_astore_6i, r_iinc_6i, r_lstore_6i, r_istore_6r, r_astore_6r, r_iinc_6r, r_lstore_6r, r_istore_6n, r_astore_6n, r_iinc_6n, r_lstore_6n, r_istore_6z, r_astore_6z, r_iinc_6z, r_lstore_6z, r_istore_7i, r_astore_7i, r_iinc_7i, r_lstore_7i, r_istore_7r, r_astore_7r, r_iinc_7r, r_lstore_7r, r_istore_7n, r_astore_7n, r_iinc_7n, r_lstore_7n, r_istore_7z, r_astore_7z, r_iinc_7z, r_lstore_7z, r_istore_8i, r_astore_8i, r_iinc_8i, r_istore_8r, r_astore_8r, r_iinc_8r, r_istore_8n, r_astore_8n, r_iinc_8n, r_istore_8z, r_astore_8z, r_iinc_8z, r_bin, r_lbin, r_div, r_ineg, r_i2l, r_i2b, r_i2c, r_lcmp, r_dup_i, r_dup_r, r_pop_i, r_pop_r, r_dup2, r_ifeq, r_iceq, r_iflt, r_iclt, r_ifge, r_icge, r_ifgt, r_icgt, r_ifle, r_icle, r_ifne, r_icne, r_putR, cs_nil, cs_int, cs_ref, cs_null, cs_long, r_aft_n, r_aft_v, r_aft_x, r_aftN_n, r_aftN_v, r_ireturn, r_zreturn, r_creturn, r_breturn, r_areturn, r_return, r_throw, r_ifnn_r, r_ifnn_n, r_objInit, r_tsw, r_ghost, r_lawret, r_rv, r_rv0, qs_0, qs_1, qs_2, qs_3, qs_4, qs_5, qs_6, q_max, q_min, if_true, if_false, and_self, and_true, true_and, and_false, false_and, not_true_eq_false, not_false_eq_true, or_true, true_or, or_false, false_or, eq_self, ne_eq, lit32, ofNat_N, neg_N1, N_add, N_mul, JN_add, NJ_add, J_add, N_lt, N_le, N_eq, N_nat, J_lt, J_le, J_eq, JN_lt, NJ_lt, JN_le, NJ_le, JN_eq, NJ_eq, J_nat, lt_tt, lt_ff, le_tt, le_ff, eqn_ff, ilt_tt, ilt_ff, ile_tt, ile_ff, ieq_ff, gI_sI, gI_sL, gL_sI, gL_sL, gR_sI, gR_sL, Nat.reduceEqDiff, qI_56, qP_56, qV0_56, qV1_56, qV2_56, qV3_56, qV4_56, q_56_0, q_56_9, q_56_10, q_56_11, q_56_1, q_56_2, q_56_3, q_56_4, q_56_5, q_56_6, q_56_7, q_56_12, qR_56_12, qI_57, qP_57, qV0_57, qV1_57, qV2_57, qV3_57, qV4_57, q_57_0, q_57_1, q_57_2, q_57_8, q_57_9, qA_58, qS_58, qc_58, qp_58, qf_58, qA_59, qS_59, qc_59, qp_59, qf_59, qA_60, qS_60, qc_60, qp_60, qf_60, qA_61, qS_61, qc_61, qp_61, qf_61, qA_62, qS_62, qc_62, qp_62, qf_62, qA_63, qS_63, qc_63, qp_63, qf_63, qA_64, qS_64, qc_64, qp_64, qf_64, qA_65, qS_65, qc_65, qp_65, qf_65, qA_66, qS_66, qc_66, qp_66, qf_66, qA_67, qS_67, qc_67, qp_67, qf_67, qA_68, qS_68, qc_68, qp_68, qf_68, qA_69, qS_69, qc_69, qp_69, qf_69, qA_70, qS_70, qc_70, qp_70, qf_70, qA_71, qS_71, qc_71, qp_71, qf_71, hs1, k1, J_max2, mxS]
  · intro fu q ⟨fr, k1⟩
    rw [e_X8_reset_82]
    simp (disch := first | with_reducible assumption | exact Nat.le_of_ble_eq_true rfl | (simp only [WF_sI, WF_sL, WF_stR, WF_cpI]; with_reducible assumption) | omega | rfl | (show okF _ = true; decide)) only [r_push, r_iload_0, r_aload_0, r_lload_0, r_iload_1, r_aload_1, r_lload_1, r_iload_2, r_aload_2, r_lload_2, r_iload_3, r_aload_3, r_lload_3, r_iload_4, r_aload_4, r_lload_4, r_iload_5, r_aload_5, r_lload_5, r_iload_6, r_aload_6, r_lload_6, r_iload_7, r_aload_7, r_lload_7, r_iload_8, r_aload_8, r_lload_8, r_istore_00, r_astore_00, r_iinc_00, r_lstore_00, r_istore_1i, r_astore_1i, r_iinc_1i, r_lstore_1i, r_istore_1r, r_astore_1r, r_iinc_1r, r_lstore_1r, r_istore_1n, r_astore_1n, r_iinc_1n, r_lstore_1n, r_istore_1z, r_astore_1z, r_iinc_1z, r_lstore_1z, r_istore_2i, r_astore_2i, r_iinc_2i, r_lstore_2i, r_istore_2r, r_astore_2r, r_iinc_2r, r_lstore_2r, r_istore_2n, r_astore_2n, r_iinc_2n, r_lstore_2n, r_istore_2z, r_astore_2z, r_iinc_2z, r_lstore_2z, r_istore_3i, r_astore_3i, r_iinc_3i, r_lstore_3i, r_istore_3r, r_astore_3r, r_iinc_3r, r_lstore_3r, r_istore_3n, r_astore_3n, r_iinc_3n, r_lstore_3n, r_istore_3z, r_astore_3z, r_iinc_3z, r_lstore_3z, r_istore_4i, r_astore_4i, r_iinc_4i, r_lstore_4i, r_istore_4r, r_astore_4r, r_iinc_4r, r_lstore_4r, r_istore_4n, r_astore_4n, r_iinc_4n, r_lstore_4n, r_istore_4z, r_astore_4z, r_iinc_4z, r_lstore_4z, r_istore_5i, r_astore_5i, r_iinc_5i, r_lstore_5i, r_istore_5r, r_astore_5r, r_iinc_5r, r_lstore_5r, r_istore_5n, r_astore_5n, r_iinc_5n, r_lstore_5n, r_istore_5z, r_astore_5z, r_iinc_5z, r_lstore_5z, r_istore_6i, r_astore_6i, r_iinc_6i, r_lstore_6i, r_istore_6r, r_astore_6r, r_iinc_6r, r_lstore_6r, r_istore_6n, r_astore_6n, r_iinc_6n, r_lstore_6n, r_istore_6z, r_astore_6z, r_iinc_6z, r_lstore_6z, r_istore_7i, r_astore_7i, r_iinc_7i, r_lstore_7i, r_istore_7r, r_astore_7r, r_iinc_7r, r_lstore_7r, r_istore_7n, r_astore_7n, r_iinc_7n, r_lstore_7n, r_istore_7z, r_astore_7z, r_iinc_7z, r_lstore_7z, r_istore_8i, r_astore_8i, r_iinc_8i, r_istore_8r, r_astore_8r, r_iinc_8r, r_istore_8n, r_astore_8n, r_iinc_8n, r_istore_8z, r_astore_8z, r_iinc_8z, r_bin, r_lbin, r_div, r_ineg, r_i2l, r_i2b, r_i2c, r_lcmp, r_dup_i, r_dup_r, r_pop_i, r_pop_r, r_dup2, r_ifeq, r_iceq, r_iflt, r_iclt, r_ifge, r_icge, r_ifgt, r_icgt, r_ifle, r_icle, r_ifne, r_icne, r_putR, cs_nil, cs_int, cs_ref, cs_null, cs_long, r_aft_n, r_aft_v, r_aft_x, r_aftN_n, r_aftN_v, r_ireturn, r_zreturn, r_creturn, r_breturn, r_areturn, r_return, r_throw, r_ifnn_r, r_ifnn_n, r_objInit, r_tsw, r_ghost, r_lawret, r_rv, r_rv0, qs_0, qs_1, qs_2, qs_3, qs_4, qs_5, qs_6, q_max, q_min, if_true, if_false, and_self, and_true, true_and, and_false, false_and, not_true_eq_false, not_false_eq_true, or_true, true_or, or_false, false_or, eq_self, ne_eq, lit32, ofNat_N, neg_N1, N_add, N_mul, JN_add, NJ_add, J_add, N_lt, N_le, N_eq, N_nat, J_lt, J_le, J_eq, JN_lt, NJ_lt, JN_le, NJ_le, JN_eq, NJ_eq, J_nat, lt_tt, lt_ff, le_tt, le_ff, eqn_ff, ilt_tt, ilt_ff, ile_tt, ile_ff, ieq_ff, gI_sI, gI_sL, gL_sI, gL_sL, gR_sI, gR_sL, Nat.reduceEqDiff]
    exact ⟨q, rfl, fr1.trans (fr.mono rfl rfl), cp1.fr fr rfl, k1, fun k => by rw [fr.row rfl, hh1]; simp (disch := first | decide | assumption | omega) only [gI_eq, gI_ne, gI_nk, gI_steq, gI_stne]⟩
def rCP72 : List Nat := [77, 78, 80, 81, 82, 83, 84, 87]
def pCP72 : List (Nat × Nat) := [(73, 3), (73, 4), (73, 5), (73, 6), (73, 7), (72, 16)]
set_option maxHeartbeats 2000000 in
theorem CP72.fr {β : BD} {pl : Int32} {q : PL} {t : Nat} {h h' : AH} {A : List Nat} {Q : List (Nat × Nat)} (cp : CP72 β pl q t h) (f : Fr A Q h h') (ok : okR A Q rCP72 pCP72 = true) : CP72 β pl q t h' := by
  have hr : ∀ a, a ∈ rCP72 → ∀ k, gI h' a k = gI h a k := fun a ha k => f.row (okR_r ok ha) k
  have hp : ∀ p, p ∈ pCP72 → gI h' p.1 p.2 = gI h p.1 p.2 := fun p hp => f.i p.1 p.2 (okR_p ok hp)
  obtain ⟨⟨a1, a2, a3, a4, a5⟩, a6, a7, a8, a9, a10⟩ := cp
  refine ⟨⟨?_, ?_, ?_, ?_, ?_⟩, fun k hk => ?_, fun k g1 g2 => ?_, fun d hd => ?_, fun k g1 g2 e he => ?_, ?_⟩
  · exact (hp (73, 3) (by decide)).trans a1
  · exact (hp (73, 4) (by decide)).trans a2
  · exact (hp (73, 5) (by decide)).trans a3
  · exact (hp (73, 6) (by decide)).trans a4
  · exact (hp (73, 7) (by decide)).trans a5
  · rw [hr 77 (by decide)]; exact a6 k hk
  · rw [hr 78 (by decide)]; exact a7 k g1 g2
  · rw [hr 80 (by decide), hr 81 (by decide), hr 82 (by decide), hr 83 (by decide), hr 84 (by decide)]; exact a8 d hd
  · rw [hr 87 (by decide)]; exact a9 k g1 g2 e he
  · rw [hp (72, 16) (by decide)]; exact a10
set_option maxHeartbeats 2000000 in
theorem TI72.fr {b stf : Nat} {hz pl : Int32} {s : Nat → Int} {h h' : AH} {A : List Nat} {Q : List (Nat × Nat)} (ti : TI72 b stf hz pl s h) (f : Fr A Q h h') (ok : okR A Q [79] [(72, 13), (72, 14), (72, 15)] = true) : TI72 b stf hz pl s h' := by
  obtain ⟨t1, t2, t3, t4, t5⟩ := ti
  refine ⟨(f.r 72 12).trans t1, (f.i 72 13 (okR_p (p := (72, 13)) ok (by decide))).trans t2, (f.i 72 14 (okR_p (p := (72, 14)) ok (by decide))).trans t3, (f.i 72 15 (okR_p (p := (72, 15)) ok (by decide))).trans t4, fun d hd => ?_⟩
  rw [f.row (okR_r ok (by decide))]
  exact t5 d hd
def FA72 : List Nat := [74, 75, 76, 77, 78, 80, 81, 82, 83, 84, 85, 87, 52, 54, 55]
def FQ72 : List (Nat × Nat) := [(73, 3), (73, 4), (73, 5), (73, 6), (73, 7), (72, 16), (72, 17)]
set_option maxHeartbeats 2000000 in
theorem c_reset72 {β : BD} (wb : WB β) {h : AH} (w : WF h) {b : Nat} (hb : b = 8 ∨ b = 29) (bc : BC β b h) {stf : Nat} {hz pl : Int32} {s : Nat → Int} (ti : TI72 b stf hz pl s h) (sb : SB s) :
    RetN (fun h' => Fr FA72 FQ72 h h' ∧ CP72 β pl (ini hz) 0 h' ∧ gI h' 72 17 = J (mxS s 5) ∧ ∀ k, gI h' 52 k = gI h 52 k) (mX8_reset [.ref 72] h) := by
  obtain ⟨t1, t2, t3, t4, t5⟩ := id ti
  have hdry := bc.1.2.2.2.2.2.1
  rw [u_X8_reset, e_X8_reset_0]
  simp (disch := first | with_reducible assumption | exact Nat.le_of_ble_eq_true rfl | (simp only [WF_sI, WF_sL, WF_stR, WF_cpI]; with_reducible assumption) | omega | rfl | (show okF _ = true; decide)) only [e_X8_reset_50, e_X5_refill_0, u_X5_refill, r_push, r_iload_0, r_aload_0, r_lload_0, r_iload_1, r_aload_1, r_lload_1, r_iload_2, r_aload_2, r_lload_2, r_iload_3, r_aload_3, r_lload_3, r_iload_4, r_aload_4, r_lload_4, r_iload_5, r_aload_5, r_lload_5, r_iload_6, r_aload_6, r_lload_6, r_iload_7, r_aload_7, r_lload_7, r_iload_8, r_aload_8, r_lload_8, r_istore_00, r_astore_00, r_iinc_00, r_lstore_00, r_istore_1i, r_astore_1i, r_iinc_1i, r_lstore_1i, r_istore_1r, r_astore_1r, r_iinc_1r, r_lstore_1r, r_istore_1n, r_astore_1n, r_iinc_1n, r_lstore_1n, r_istore_1z, r_astore_1z, r_iinc_1z, r_lstore_1z, r_istore_2i, r_astore_2i, r_iinc_2i, r_lstore_2i, r_istore_2r, r_astore_2r, r_iinc_2r, r_lstore_2r, r_istore_2n, r_astore_2n, r_iinc_2n, r_lstore_2n, r_istore_2z, r_astore_2z, r_iinc_2z, r_lstore_2z, r_istore_3i, r_astore_3i, r_iinc_3i, r_lstore_3i, r_istore_3r, r_astore_3r, r_iinc_3r, r_lstore_3r, r_istore_3n, r_astore_3n, r_iinc_3n, r_lstore_3n, r_istore_3z, r_astore_3z, r_iinc_3z, r_lstore_3z, r_istore_4i, r_astore_4i, r_iinc_4i, r_lstore_4i, r_istore_4r, r_astore_4r, r_iinc_4r, r_lstore_4r, r_istore_4n, r_astore_4n, r_iinc_4n, r_lstore_4n, r_istore_4z, r_astore_4z, r_iinc_4z, r_lstore_4z, r_istore_5i, r_astore_5i, r_iinc_5i, r_lstore_5i, r_istore_5r, r_astore_5r, r_iinc_5r, r_lstore_5r, r_istore_5n, r_astore_5n, r_iinc_5n, r_lstore_5n, r_istore_5z, r_astore_5z, r_iinc_5z, r_lstore_5z, r_istore_6i, r_astore_6i, r_iinc_6i, r_lstore_6i, r_istore_6r, r_astore_6r, r_iinc_6r, r_lstore_6r, r_istore_6n, r_astore_6n, r_iinc_6n, r_lstore_6n, r_istore_6z, r_astore_6z, r_iinc_6z, r_lstore_6z, r_istore_7i, r_astore_7i, r_iinc_7i, r_lstore_7i, r_istore_7r, r_astore_7r, r_iinc_7r, r_lstore_7r, r_istore_7n, r_astore_7n, r_iinc_7n, r_lstore_7n, r_istore_7z, r_astore_7z, r_iinc_7z, r_lstore_7z, r_istore_8i, r_astore_8i, r_iinc_8i, r_istore_8r, r_astore_8r, r_iinc_8r, r_istore_8n, r_astore_8n, r_iinc_8n, r_istore_8z, r_astore_8z, r_iinc_8z, r_bin, r_lbin, r_div, r_ineg, r_i2l, r_i2b, r_i2c, r_lcmp, r_dup_i, r_dup_r, r_pop_i, r_pop_r, r_dup2, r_ifeq, r_iceq, r_iflt, r_iclt, r_ifge, r_icge, r_ifgt, r_icgt, r_ifle, r_icle, r_ifne, r_icne, r_putR, cs_nil, cs_int, cs_ref, cs_null, cs_long, r_aft_n, r_aft_v, r_aft_x, r_aftN_n, r_aftN_v, r_ireturn, r_zreturn, r_creturn, r_breturn, r_areturn, r_return, r_throw, r_ifnn_r, r_ifnn_n, r_objInit, r_tsw, r_ghost, r_lawret, r_rv, r_rv0, qs_0, qs_1, qs_2, qs_3, qs_4, qs_5, qs_6, q_max, q_min, if_true, if_false, and_self, and_true, true_and, and_false, false_and, not_true_eq_false, not_false_eq_true, or_true, true_or, or_false, false_or, eq_self, ne_eq, lit32, ofNat_N, neg_N1, N_add, N_mul, JN_add, NJ_add, J_add, N_lt, N_le, N_eq, N_nat, J_lt, J_le, J_eq, JN_lt, NJ_lt, JN_le, NJ_le, JN_eq, NJ_eq, J_nat, lt_tt, lt_ff, le_tt, le_ff, eqn_ff, ilt_tt, ilt_ff, ile_tt, ile_ff, ieq_ff, gI_sI, gI_sL, gL_sI, gL_sL, gR_sI, gR_sL, Nat.reduceEqDiff, qI_72, qP_72, qV0_72, qV1_72, qV2_72, qV3_72, qV4_72, q_72_0, q_72_9, q_72_10, q_72_11, q_72_1, q_72_2, q_72_3, q_72_4, q_72_5, q_72_6, q_72_7, q_72_12, qR_72_12, qI_73, qP_73, qV0_73, qV1_73, qV2_73, qV3_73, qV4_73, q_73_0, q_73_1, q_73_2, q_73_8, q_73_9, qA_74, qS_74, qc_74, qp_74, qf_74, qA_75, qS_75, qc_75, qp_75, qf_75, qA_76, qS_76, qc_76, qp_76, qf_76, qA_77, qS_77, qc_77, qp_77, qf_77, qA_78, qS_78, qc_78, qp_78, qf_78, qA_79, qS_79, qc_79, qp_79, qf_79, qA_80, qS_80, qc_80, qp_80, qf_80, qA_81, qS_81, qc_81, qp_81, qf_81, qA_82, qS_82, qc_82, qp_82, qf_82, qA_83, qS_83, qc_83, qp_83, qf_83, qA_84, qS_84, qc_84, qp_84, qf_84, qA_85, qS_85, qc_85, qp_85, qf_85, qA_86, qS_86, qc_86, qp_86, qf_86, qA_87, qS_87, qc_87, qp_87, qf_87, qI_B0, qP_B0, qV0_B0, qV1_B0, qV2_B0, qV3_B0, qV4_B0, q_B0_0, q_B0_1, q_B0_11, q_B0_12, q_B0_13, q_B0_14, q_B0_15, q_B0_16, qI_B1, qP_B1, qV0_B1, qV1_B1, qV2_B1, qV3_B1, qV4_B1, q_B1_1, q_B1_2, q_B1_3, qA_B2, qS_B2, qc_B2, qp_B2, qf_B2, qA_B3, qS_B3, qc_B3, qp_B3, qf_B3, qA_B4, qS_B4, qc_B4, qp_B4, qf_B4, qI_B5, qP_B5, qV0_B5, qV1_B5, qV2_B5, qV3_B5, qV4_B5, q_B5_1, q_B5_2, q_B5_3, q_B5_4, q_B5_5, q_B5_6, q_B5_7, q_B5_8, q_B5_9, qA_B6, qS_B6, qc_B6, qp_B6, qf_B6, qA_B7, qS_B7, qc_B7, qp_B7, qf_B7, qA_B8, qS_B8, qc_B8, qp_B8, qf_B8, qA_B9, qS_B9, qc_B9, qp_B9, qf_B9, qA_B10, qS_B10, qc_B10, qp_B10, qf_B10, qA_B11, qS_B11, qc_B11, qp_B11, qf_B11, qA_B12, qS_B12, qc_B12, qp_B12, qf_B12, qA_B13, qS_B13, qc_B13, qp_B13, qf_B13, qA_B14, qS_B14, qc_B14, qp_B14, qf_B14, qA_B15, qS_B15, qc_B15, qp_B15, qf_B15, qA_B16, qS_B16, qc_B16, qp_B16, qf_B16, qA_B17, qS_B17, qc_B17, qp_B17, qf_B17, qA_B18, qS_B18, qc_B18, qp_B18, qf_B18, qA_B19, qS_B19, qc_B19, qp_B19, qf_B19, qA_B20, qS_B20, qc_B20, qp_B20, qf_B20, t1, t3, t4, hdry, gI_sI, gI_stR, Nat.reduceEqDiff]
  obtain ⟨h1, hh1⟩ : ∃ h1, h1 = sI (sI (stR (stR (stR (stR (stR (stR (stR (stR (sI (sI (sI (sI (sI h 73 3 hz) 73 4 (N 0)) 73 5 (N 0)) 73 6 pl) 73 7 (N (β 0 9))) 77 48 (fun _ => N 0)) 78 48 (fun _ => N 0)) 87 48 (fun _ => N 0)) 80 5 (fun _ => N 0)) 81 5 (fun _ => N 0)) 82 5 (fun _ => J (-1))) 83 5 (fun _ => J (-1))) 84 5 (fun _ => J (-1))) 72 16 (N 0)) 72 17 (J (-1)) := ⟨_, rfl⟩
  rw [← hh1]
  have fr1 : Fr FA72 FQ72 h h1 := by
    rw [hh1]
    exact (((((((((((((((Fr.refl _ _ h).sI rfl _).sI rfl _).sI rfl _).sI rfl _).sI rfl _).stR rfl _ _).stR rfl _ _).stR rfl _ _).stR rfl _ _).stR rfl _ _).stR rfl _ _).stR rfl _ _).stR rfl _ _).sI rfl _).sI rfl _
  have ti1 := ti.fr fr1 rfl
  have w1 := fr1.wf w
  have cp1 : CP72 β pl (ini hz) 0 h1 := by
    have hws : ∀ k n, wSum β k (ini hz) n = N 0 := fun k n => by
      induction n with
      | zero => rfl
      | succ n ih =>
        unfold wSum
        rw [if_neg (by show ¬ ((-1 : Int) = (k : Int)); omega)]
        exact ih
    refine ⟨⟨?_, ?_, ?_, ?_, ?_⟩, fun k hk => ?_, fun k g1 g2 => ?_, fun d hd => ⟨?_, ?_, ?_, ?_, ?_⟩, fun k g1 g2 e he => ?_, ?_⟩
    · rw [hh1]; simp (disch := first | decide | assumption | omega) only [gI_eq, gI_ne, gI_nk, gI_steq, gI_stne]; rfl
    · rw [hh1]; simp (disch := first | decide | assumption | omega) only [gI_eq, gI_ne, gI_nk, gI_steq, gI_stne]; rfl
    · rw [hh1]; simp (disch := first | decide | assumption | omega) only [gI_eq, gI_ne, gI_nk, gI_steq, gI_stne]; rfl
    · rw [hh1]; simp (disch := first | decide | assumption | omega) only [gI_eq, gI_ne, gI_nk, gI_steq, gI_stne]
    · rw [hh1]; simp (disch := first | decide | assumption | omega) only [gI_eq, gI_ne, gI_nk, gI_steq, gI_stne]
    · rw [hh1]; simp (disch := first | decide | assumption | omega) only [gI_eq, gI_ne, gI_nk, gI_steq, gI_stne]; rfl
    · rw [hh1, hws]; simp (disch := first | decide | assumption | omega) only [gI_eq, gI_ne, gI_nk, gI_steq, gI_stne]
    · rw [hh1]; simp (disch := first | decide | assumption | omega) only [gI_eq, gI_ne, gI_nk, gI_steq, gI_stne]; rfl
    · rw [hh1]; simp (disch := first | decide | assumption | omega) only [gI_eq, gI_ne, gI_nk, gI_steq, gI_stne]; rfl
    · rw [hh1]; simp (disch := first | decide | assumption | omega) only [gI_eq, gI_ne, gI_nk, gI_steq, gI_stne]; rfl
    · rw [hh1]; simp (disch := first | decide | assumption | omega) only [gI_eq, gI_ne, gI_nk, gI_steq, gI_stne]; rfl
    · rw [hh1]; simp (disch := first | decide | assumption | omega) only [gI_eq, gI_ne, gI_nk, gI_steq, gI_stne]; rfl
    · have : gI h1 87 k = N 0 := by rw [hh1]; simp (disch := first | decide | assumption | omega) only [gI_eq, gI_ne, gI_nk, gI_steq, gI_stne]
      rw [this, bt_0]
      exact (decide_eq_false (fun z => Nat.lt_irrefl 0 z.2)).symm
    · refine ⟨0, ?_, by decide, fun e he => ?_⟩
      · rw [hh1]; simp (disch := first | decide | assumption | omega) only [gI_eq, gI_ne, gI_nk, gI_steq, gI_stne]
      · rw [Nat.zero_testBit]
        exact (decide_eq_false (fun z => Nat.lt_irrefl 0 z.2)).symm
  have g17 : gI h1 72 17 = J (-1) := by rw [hh1, gI_eq]
  refine loop_up (σ := AH) (n := 5) (f := fun fu i q => fX8_reset_82 fu [some (.ref 72), some (.int (N i))] [] q)
    (Inv := fun i q => Fr [] [(72, 17)] h1 q ∧ gI q 72 17 = J (mxS s i)) (P := RetN _) ?_ ?_ fuelN 0 h1 (Nat.zero_le _) (by unfold fuelN; omega) ⟨Fr.refl _ _ _, g17⟩
  · intro fu i q hi ⟨fr, k1⟩
    have w2 := fr.wf w1
    have hs1 : gI q 79 i = J (s i) := (fr.row rfl i).trans (ti1.2.2.2.2 i hi)
    obtain ⟨m1, m2⟩ := mxS_b sb i (by omega)
    obtain ⟨m3, m4⟩ := sb i hi
    refine Or.inl ⟨sI q 72 17 (J (mxS s (i + 1))), ⟨fr.sI rfl _, gI_eq⟩, ?_⟩
    rw [e_X8_reset_82]
    simp (disch := first | with_reducible assumption | exact Nat.le_of_ble_eq_true rfl | (simp only [WF_sI, WF_sL, WF_stR, WF_cpI]; with_reducible assumption) | omega | rfl | (show okF _ = true; decide)) only [r_push, r_iload_0, r_aload_0, r_lload_0, r_iload_1, r_aload_1, r_lload_1, r_iload_2, r_aload_2, r_lload_2, r_iload_3, r_aload_3, r_lload_3, r_iload_4, r_aload_4, r_lload_4, r_iload_5, r_aload_5, r_lload_5, r_iload_6, r_aload_6, r_lload_6, r_iload_7, r_aload_7, r_lload_7, r_iload_8, r_aload_8, r_lload_8, r_istore_00, r_astore_00, r_iinc_00, r_lstore_00, r_istore_1i, r_astore_1i, r_iinc_1i, r_lstore_1i, r_istore_1r, r_astore_1r, r_iinc_1r, r_lstore_1r, r_istore_1n, r_astore_1n, r_iinc_1n, r_lstore_1n, r_istore_1z, r_astore_1z, r_iinc_1z, r_lstore_1z, r_istore_2i, r_astore_2i, r_iinc_2i, r_lstore_2i, r_istore_2r, r_astore_2r, r_iinc_2r, r_lstore_2r, r_istore_2n, r_astore_2n, r_iinc_2n, r_lstore_2n, r_istore_2z, r_astore_2z, r_iinc_2z, r_lstore_2z, r_istore_3i, r_astore_3i, r_iinc_3i, r_lstore_3i, r_istore_3r, r_astore_3r, r_iinc_3r, r_lstore_3r, r_istore_3n, r_astore_3n, r_iinc_3n, r_lstore_3n, r_istore_3z, r_astore_3z, r_iinc_3z, r_lstore_3z, r_istore_4i, r_astore_4i, r_iinc_4i, r_lstore_4i, r_istore_4r, r_astore_4r, r_iinc_4r, r_lstore_4r, r_istore_4n, r_astore_4n, r_iinc_4n, r_lstore_4n, r_istore_4z, r_astore_4z, r_iinc_4z, r_lstore_4z, r_istore_5i, r_astore_5i, r_iinc_5i, r_lstore_5i, r_istore_5r, r_astore_5r, r_iinc_5r, r_lstore_5r, r_istore_5n, r_astore_5n, r_iinc_5n, r_lstore_5n, r_istore_5z, r_astore_5z, r_iinc_5z, r_lstore_5z, r_istore_6i, r_astore_6i, r_iinc_6i, r_lstore_6i, r_istore_6r, r_astore_6r, r_iinc_6r, r_lstore_6r, r_istore_6n, r_astore_6n, r_iinc_6n, r_lstore_6n, r_istore_6z, r_astore_6z, r_iinc_6z, r_lstore_6z, r_istore_7i, r_astore_7i, r_iinc_7i, r_lstore_7i, r_istore_7r, r_astore_7r, r_iinc_7r, r_lstore_7r, r_istore_7n, r_astore_7n, r_iinc_7n, r_lstore_7n, r_istore_7z, r_astore_7z, r_iinc_7z, r_lstore_7z, r_istore_8i, r_astore_8i, r_iinc_8i, r_istore_8r, r_astore_8r, r_iinc_8r, r_istore_8n, r_astore_8n, r_iinc_8n, r_istore_8z, r_astore_8z, r_iinc_8z, r_bin, r_lbin, r_div, r_ineg, r_i2l, r_i2b, r_i2c, r_lcmp, r_dup_i, r_dup_r, r_pop_i, r_pop_r, r_dup2, r_ifeq, r_iceq, r_iflt, r_iclt, r_ifge, r_icge, r_ifgt, r_icgt, r_ifle, r_icle, r_ifne, r_icne, r_putR, cs_nil, cs_int, cs_ref, cs_null, cs_long, r_aft_n, r_aft_v, r_aft_x, r_aftN_n, r_aftN_v, r_ireturn, r_zreturn, r_creturn, r_breturn, r_areturn, r_return, r_throw, r_ifnn_r, r_ifnn_n, r_objInit, r_tsw, r_ghost, r_lawret, r_rv, r_rv0, qs_0, qs_1, qs_2, qs_3, qs_4, qs_5, qs_6, q_max, q_min, if_true, if_false, and_self, and_true, true_and, and_false, false_and, not_true_eq_false, not_false_eq_true, or_true, true_or, or_false, false_or, eq_self, ne_eq, lit32, ofNat_N, neg_N1, N_add, N_mul, JN_add, NJ_add, J_add, N_lt, N_le, N_eq, N_nat, J_lt, J_le, J_eq, JN_lt, NJ_lt, JN_le, NJ_le, JN_eq, NJ_eq, J_nat, lt_tt, lt_ff, le_tt, le_ff, eqn_ff, ilt_tt, ilt_ff, ile_tt, ile_ff, ieq_ff, gI_sI, gI_sL, gL_sI, gL_sL, gR_sI, gR_sL, Nat.reduceEqDiff, qI_72, qP_72, qV0_72, qV1_72, qV2_72, qV3_72, qV4_72, q_72_0, q_72_9, q_72_10, q_72_11, q_72_1, q_72_2, q_72_3, q_72_4, q_72_5, q_72_6, q_72_7, q_72_12, qR_72_12, qI_73, qP_73, qV0_73, qV1_73, qV2_73, qV3_73, qV4_73, q_73_0, q_73_1, q_73_2, q_73_8, q_73_9, qA_74, qS_74, qc_74, qp_74, qf_74, qA_75, qS_75, qc_75, qp_75, qf_75, qA_76, qS_76, qc_76, qp_76, qf_76, qA_77, qS_77, qc_77, qp_77, qf_77, qA_78, qS_78, qc_78, qp_78, qf_78, qA_79, qS_79, qc_79, qp_79, qf_79, qA_80, qS_80, qc_80, qp_80, qf_80, qA_81, qS_81, qc_81, qp_81, qf_81, qA_82, qS_82, qc_82, qp_82, qf_82, qA_83, qS_83, qc_83, qp_83, qf_83, qA_84, qS_84, qc_84, qp_84, qf_84, qA_85, qS_85, qc_85, qp_85, qf_85, qA_86, qS_86, qc_86, qp_86, qf_86, qA_87, qS_87, qc_87, qp_87, qf_87, hs1, k1, J_max2, mxS]
  · intro fu q ⟨fr, k1⟩
    rw [e_X8_reset_82]
    simp (disch := first | with_reducible assumption | exact Nat.le_of_ble_eq_true rfl | (simp only [WF_sI, WF_sL, WF_stR, WF_cpI]; with_reducible assumption) | omega | rfl | (show okF _ = true; decide)) only [r_push, r_iload_0, r_aload_0, r_lload_0, r_iload_1, r_aload_1, r_lload_1, r_iload_2, r_aload_2, r_lload_2, r_iload_3, r_aload_3, r_lload_3, r_iload_4, r_aload_4, r_lload_4, r_iload_5, r_aload_5, r_lload_5, r_iload_6, r_aload_6, r_lload_6, r_iload_7, r_aload_7, r_lload_7, r_iload_8, r_aload_8, r_lload_8, r_istore_00, r_astore_00, r_iinc_00, r_lstore_00, r_istore_1i, r_astore_1i, r_iinc_1i, r_lstore_1i, r_istore_1r, r_astore_1r, r_iinc_1r, r_lstore_1r, r_istore_1n, r_astore_1n, r_iinc_1n, r_lstore_1n, r_istore_1z, r_astore_1z, r_iinc_1z, r_lstore_1z, r_istore_2i, r_astore_2i, r_iinc_2i, r_lstore_2i, r_istore_2r, r_astore_2r, r_iinc_2r, r_lstore_2r, r_istore_2n, r_astore_2n, r_iinc_2n, r_lstore_2n, r_istore_2z, r_astore_2z, r_iinc_2z, r_lstore_2z, r_istore_3i, r_astore_3i, r_iinc_3i, r_lstore_3i, r_istore_3r, r_astore_3r, r_iinc_3r, r_lstore_3r, r_istore_3n, r_astore_3n, r_iinc_3n, r_lstore_3n, r_istore_3z, r_astore_3z, r_iinc_3z, r_lstore_3z, r_istore_4i, r_astore_4i, r_iinc_4i, r_lstore_4i, r_istore_4r, r_astore_4r, r_iinc_4r, r_lstore_4r, r_istore_4n, r_astore_4n, r_iinc_4n, r_lstore_4n, r_istore_4z, r_astore_4z, r_iinc_4z, r_lstore_4z, r_istore_5i, r_astore_5i, r_iinc_5i, r_lstore_5i, r_istore_5r, r_astore_5r, r_iinc_5r, r_lstore_5r, r_istore_5n, r_astore_5n, r_iinc_5n, r_lstore_5n, r_istore_5z, r_astore_5z, r_iinc_5z, r_lstore_5z, r_istore_6i, r_astore_6i, r_iinc_6i, r_lstore_6i, r_istore_6r, r_astore_6r, r_iinc_6r, r_lstore_6r, r_istore_6n, r_astore_6n, r_iinc_6n, r_lstore_6n, r_istore_6z, r_astore_6z, r_iinc_6z, r_lstore_6z, r_istore_7i, r_astore_7i, r_iinc_7i, r_lstore_7i, r_istore_7r, r_astore_7r, r_iinc_7r, r_lstore_7r, r_istore_7n, r_astore_7n, r_iinc_7n, r_lstore_7n, r_istore_7z, r_astore_7z, r_iinc_7z, r_lstore_7z, r_istore_8i, r_astore_8i, r_iinc_8i, r_istore_8r, r_astore_8r, r_iinc_8r, r_istore_8n, r_astore_8n, r_iinc_8n, r_istore_8z, r_astore_8z, r_iinc_8z, r_bin, r_lbin, r_div, r_ineg, r_i2l, r_i2b, r_i2c, r_lcmp, r_dup_i, r_dup_r, r_pop_i, r_pop_r, r_dup2, r_ifeq, r_iceq, r_iflt, r_iclt, r_ifge, r_icge, r_ifgt, r_icgt, r_ifle, r_icle, r_ifne, r_icne, r_putR, cs_nil, cs_int, cs_ref, cs_null, cs_long, r_aft_n, r_aft_v, r_aft_x, r_aftN_n, r_aftN_v, r_ireturn, r_zreturn, r_creturn, r_breturn, r_areturn, r_return, r_throw, r_ifnn_r, r_ifnn_n, r_objInit, r_tsw, r_ghost, r_lawret, r_rv, r_rv0, qs_0, qs_1, qs_2, qs_3, qs_4, qs_5, qs_6, q_max, q_min, if_true, if_false, and_self, and_true, true_and, and_false, false_and, not_true_eq_false, not_false_eq_true, or_true, true_or, or_false, false_or, eq_self, ne_eq, lit32, ofNat_N, neg_N1, N_add, N_mul, JN_add, NJ_add, J_add, N_lt, N_le, N_eq, N_nat, J_lt, J_le, J_eq, JN_lt, NJ_lt, JN_le, NJ_le, JN_eq, NJ_eq, J_nat, lt_tt, lt_ff, le_tt, le_ff, eqn_ff, ilt_tt, ilt_ff, ile_tt, ile_ff, ieq_ff, gI_sI, gI_sL, gL_sI, gL_sL, gR_sI, gR_sL, Nat.reduceEqDiff]
    exact ⟨q, rfl, fr1.trans (fr.mono rfl rfl), cp1.fr fr rfl, k1, fun k => by rw [fr.row rfl, hh1]; simp (disch := first | decide | assumption | omega) only [gI_eq, gI_ne, gI_nk, gI_steq, gI_stne]⟩
