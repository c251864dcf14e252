/-! no violation; a pass over the drills -/
set_option maxHeartbeats 2000000 in
theorem mem_vC {s : Nat → Int} {q : PL} {t c d : Nat} (h : s d = (t : Int) ∧ pSt q d = -(c : Int)) : ∀ m, d < m → (t * 256 + c * 16 + d) ∈ vC s q t c m := by
  intro m
  induction m with
  | zero => intro hd; exact absurd hd (Nat.not_lt_zero _)
  | succ m ih =>
    intro hd
    apply List.mem_append.mpr
    by_cases e : d = m
    · right; subst e; rw [if_pos h]; exact List.mem_singleton.mpr rfl
    · left; exact ih (by omega)
set_option maxHeartbeats 2000000 in
theorem mem_vK {s : Nat → Int} {q : PL} {t c v : Nat} (h : v ∈ vC s q t (c + 1) 5) : ∀ m, c < m → v ∈ vK s q t m := by
  intro m
  induction m with
  | zero => intro hd; exact absurd hd (Nat.not_lt_zero _)
  | succ m ih =>
    intro hd
    apply List.mem_append.mpr
    by_cases e : c = m
    · right; subst e; exact h
    · left; exact ih (by omega)
set_option maxHeartbeats 2000000 in
theorem mem_vL {β : BD} {mis : Nat} {hz pl : Int32} {s : Nat → Int} {t v : Nat} (h : v ∈ vTl β mis hz pl s t) : ∀ m, t < m → v ∈ vL β mis hz pl s m := by
  intro m
  induction m with
  | zero => intro hd; exact absurd hd (Nat.not_lt_zero _)
  | succ m ih =>
    intro hd
    apply List.mem_append.mpr
    by_cases e : t = m
    · right; subst e; exact h
    · left; exact ih (by omega)
set_option maxHeartbeats 2000000 in
theorem vC_nil {s : Nat → Int} {q : PL} {t c : Nat} (h : ∀ d, d < 5 → ¬ (s d = (t : Int) ∧ pSt q d = -(c : Int))) : ∀ m, m ≤ 5 → vC s q t c m = [] := by
  intro m
  induction m with
  | zero => intro _; rfl
  | succ m ih =>
    intro hm
    show vC s q t c m ++ _ = []
    rw [ih (by omega), if_neg (h m (by omega))]; rfl
set_option maxHeartbeats 2000000 in
theorem vl0 {β : BD} (wb : WB β) {mis : Nat} {hz pl : Int32} {s : Nat → Int} (sb : SB s) (hs : ∀ d, nD β ≤ d → d < 5 → s d = -1) : (vL β mis hz pl s 48).length = 0 ↔ vld β mis hz pl s = true := by
  obtain ⟨⟨bN, bT, bE, bS, bD⟩, -⟩ := id wb
  obtain ⟨pb, fr⟩ := run_ok wb (mis := mis) (hz := hz) (pl := pl) hs 48 (Nat.le_refl _)
  constructor
  · intro h0
    have hnil : ∀ v, ¬ v ∈ vL β mis hz pl s 48 := fun v hv => by
      have := List.length_pos_of_mem hv
      omega
    unfold vld
    rw [Bool.and_eq_true]
    refine ⟨?_, ?_⟩
    · rw [Bool.not_eq_true', anyB_f]
      intro d hd
      apply decide_eq_false
      intro hneg
      obtain ⟨p1, -⟩ := pb.1 d (by omega)
      obtain ⟨s1, s2⟩ := sb d (by omega)
      have hs0 : 0 ≤ s d := by
        by_cases c : 0 ≤ s d
        · exact c
        · have := (fr d (by omega) (Or.inr (Or.inr (by omega)))).1
          omega
      obtain ⟨t, ht⟩ : ∃ t : Nat, s d = (t : Int) := ⟨(s d).toNat, by omega⟩
      obtain ⟨c, hc⟩ : ∃ c : Nat, pSt (run β mis hz pl s 48) d = -((c + 1 : Nat) : Int) := ⟨(-(pSt (run β mis hz pl s 48) d)).toNat - 1, by omega⟩
      exact hnil _ (mem_vL (t := t) (List.mem_append.mpr (Or.inl (mem_vK (mem_vC ⟨ht, hc⟩ 5 (by omega)) 4 (by omega)))) 48 (by omega))
    · rw [Bool.not_eq_true', anyB_f]
      intro t ht
      apply decide_eq_false
      intro hg
      have hg' : ¬ vGp β mis hz pl s t = 0 := hg
      have : (t * 256 + 5 * 16 + low12 (vGp β mis hz pl s t)) ∈ vTl β mis hz pl s t := by
        apply List.mem_append.mpr
        right
        rw [if_neg hg']
        exact List.mem_singleton.mpr rfl
      exact hnil _ (mem_vL this 48 ht)
  · intro hv
    unfold vld at hv
    rw [Bool.and_eq_true, Bool.not_eq_true', Bool.not_eq_true'] at hv
    have h1 := anyB_false hv.1
    have h2 := anyB_false hv.2
    have hT : ∀ t, t < 48 → vTl β mis hz pl s t = [] := by
      intro t ht
      have hc : ∀ c, 1 ≤ c → vC s (run β mis hz pl s 48) t c 5 = [] := fun c hc1 => vC_nil (fun d hd z => by
        by_cases e : d < nD β
        · have := of_decide_eq_false (h1 d e)
          omega
        · have := hs d (by omega) hd
          omega) 5 (Nat.le_refl _)
      have hK : ∀ c, vK s (run β mis hz pl s 48) t c = [] := by
        intro c
        induction c with
        | zero => rfl
        | succ c ih => show vK s _ t c ++ vC s _ t (c + 1) 5 = []; rw [ih, hc (c + 1) (by omega)]; rfl
      have hg : vGp β mis hz pl s t = 0 := by
        have := of_decide_eq_false (h2 t ht)
        unfold vGp
        omega
      show vK s _ t 4 ++ _ = []
      rw [hK, if_pos hg]; rfl
    have hL : ∀ m, m ≤ 48 → vL β mis hz pl s m = [] := by
      intro m
      induction m with
      | zero => intro _; rfl
      | succ m ih => intro hm; show vL β mis hz pl s m ++ vTl β mis hz pl s m = []; rw [ih (by omega), hT m (by omega)]; rfl
    rw [hL 48 (Nat.le_refl _)]; rfl
/-- one pass: the starts, and how many have changed -/
def cpS (β : BD) (hz pl : Int32) (s : Nat → Int) : Nat → (Nat → Int) × Nat
  | 0 => (s, 0)
  | d + 1 => if (cpS β hz pl s d).1 d = -1 then cpS β hz pl s d else (upZ (cpS β hz pl s d).1 d (oZ (setl β 0 hz pl (cpS β hz pl s d).1 d 24 0)), (cpS β hz pl s d).2 + (if oZ (setl β 0 hz pl (cpS β hz pl s d).1 d 24 0) = (cpS β hz pl s d).1 d then 0 else 1))
def wtN (s : Nat → Int) : Nat → Nat
  | 0 => 0
  | n + 1 => wtN s n + (s n + 1).toNat
set_option maxHeartbeats 2000000 in
theorem wtN_le {s : Nat → Int} (sb : SB s) : ∀ n, n ≤ 5 → wtN s n ≤ 24 * n := by
  intro n
  induction n with
  | zero => intro _; exact Nat.le_refl _
  | succ n ih =>
    intro hn
    have := ih (by omega)
    have := sb n (by omega)
    show wtN s n + (s n + 1).toNat ≤ 24 * (n + 1)
    omega
set_option maxHeartbeats 2000000 in
theorem wtN_up {s : Nat → Int} {d : Nat} {v : Int} (h1 : -1 ≤ v) (h2 : v ≤ s d) : ∀ n, wtN (upZ s d v) n + (if d < n then (s d - v).toNat else 0) = wtN s n := by
  intro n
  induction n with
  | zero => rw [if_neg (Nat.not_lt_zero _)]; rfl
  | succ n ih =>
    show wtN (upZ s d v) n + (upZ s d v n + 1).toNat + (if d < n + 1 then (s d - v).toNat else 0) = wtN s n + (s n + 1).toNat
    by_cases c : d < n
    · rw [if_pos c] at ih
      have e1 : upZ s d v n = s n := if_neg (by omega)
      rw [e1, if_pos (show d < n + 1 by omega)]
      omega
    · rw [if_neg c] at ih
      by_cases e : n = d
      · subst e
        have e1 : upZ s n v n = v := if_pos rfl
        rw [e1, if_pos (show n < n + 1 by omega)]
        omega
      · have e1 : upZ s d v n = s n := if_neg e
        rw [e1, if_neg (show ¬ d < n + 1 by omega)]
        omega
set_option maxHeartbeats 2000000 in
theorem upZ_self {s : Nat → Int} {d : Nat} : upZ s d (s d) = s := by
  funext j
  unfold upZ
  by_cases c : j = d
  · rw [if_pos c, c]
  · rw [if_neg c]
def OKS (β : BD) (hz pl : Int32) (s : Nat → Int) : Prop := SB s ∧ (∀ d, nD β ≤ d → d < 5 → s d = -1) ∧ vld β 0 hz pl s = true
set_option maxHeartbeats 2000000 in
theorem settle_le {β : BD} {hz pl : Int32} {s : Nat → Int} (ok : OKS β hz pl s) {d : Nat} (hd : d < nD β) (h5 : nD β ≤ 5) (hne : s d ≠ -1) : ∃ t : Nat, setl β 0 hz pl s d 24 0 = some t ∧ (t : Int) ≤ s d ∧ OKS β hz pl (upZ s d (t : Int)) := by
  obtain ⟨sb, hs, hv⟩ := ok
  have sbd := sb d (by omega)
  obtain ⟨u, hu⟩ : ∃ u : Nat, s d = (u : Int) := ⟨(s d).toNat, by omega⟩
  have hvu : vld β 0 hz pl (upZ s d (u : Int)) = true := by rw [← hu, upZ_self]; exact hv
  cases hr : setl β 0 hz pl s d 24 0 with
  | none =>
    have := setl_none 24 0 hr u (by omega) (by omega)
    rw [hvu] at this; cases this
  | some t =>
    obtain ⟨-, t2, t3, t4⟩ := setl_some 24 0 t hr
    have htu : t ≤ u := by
      by_cases c : t ≤ u
      · exact c
      · have := t4 u (by omega) (by omega)
        rw [hvu] at this; cases this
    exact ⟨t, rfl, by omega, SB_up sb (by omega) (by omega), hs_up hs hd _, t3⟩
set_option maxHeartbeats 2000000 in
theorem cpS_ok {β : BD} {hz pl : Int32} {s : Nat → Int} (ok : OKS β hz pl s) (h5 : nD β ≤ 5) : ∀ d, d ≤ nD β → OKS β hz pl (cpS β hz pl s d).1 ∧ wtN (cpS β hz pl s d).1 5 + (cpS β hz pl s d).2 ≤ wtN s 5 ∧ (cpS β hz pl s d).2 ≤ d := by
  intro d
  induction d with
  | zero => intro _; exact ⟨ok, Nat.le_refl _, Nat.le_refl _⟩
  | succ d ih =>
    intro hd
    obtain ⟨a1, a2, a3⟩ := ih (by omega)
    by_cases c : (cpS β hz pl s d).1 d = -1
    · have e : cpS β hz pl s (d + 1) = cpS β hz pl s d := if_pos c
      rw [e]; exact ⟨a1, a2, by omega⟩
    · obtain ⟨t, t1, t2, t3⟩ := settle_le a1 (d := d) (by omega) h5 c
      have e : cpS β hz pl s (d + 1) = (upZ (cpS β hz pl s d).1 d (oZ (setl β 0 hz pl (cpS β hz pl s d).1 d 24 0)), (cpS β hz pl s d).2 + (if oZ (setl β 0 hz pl (cpS β hz pl s d).1 d 24 0) = (cpS β hz pl s d).1 d then 0 else 1)) := if_neg c
      rw [e, t1]
      have eo : oZ (some t) = (t : Int) := rfl
      rw [eo]
      have hw := wtN_up (s := (cpS β hz pl s d).1) (d := d) (v := (t : Int)) (by omega) t2 5
      rw [if_pos (show d < 5 by omega)] at hw
      refine ⟨t3, ?_, ?_⟩
      · show wtN (upZ (cpS β hz pl s d).1 d (t : Int)) 5 + ((cpS β hz pl s d).2 + _) ≤ wtN s 5
        split <;> omega
      · show (cpS β hz pl s d).2 + _ ≤ d + 1
        split <;> omega
def cpL (β : BD) (hz pl : Int32) : Nat → (Nat → Int) → Nat → (Nat → Int) × Nat
  | 0, s, n => (s, n)
  | f + 1, s, n => if (cpS β hz pl s (nD β)).2 = 0 then ((cpS β hz pl s (nD β)).1, n) else cpL β hz pl f (cpS β hz pl s (nD β)).1 (n + (cpS β hz pl s (nD β)).2)
-- a pass of the class 
set_option maxHeartbeats 2000000 in
theorem c_once {β : BD} (wb : WB β) {h : AH} {b : Nat} (hb : b = 8 ∨ b = 29) (bc : BC β b h) (cl : CL β b h) (cv : CV β b h) (r8 : gR h 0 8 = some b) {hz pl : Int32} {s : Nat → Int} (ok : OKS β hz pl s) : ∀ m d hh, d + m = nD β → WF hh → Fr trA trQ h hh → GC β hh → TI72 b (2 ^ nE β - 1) hz pl (cpS β hz pl s d).1 hh → ∀ fu, m < fu → ∀ x,
    ∃ h', fX11_compactOnce_4 fu [some (.ref 0), some (.int (N (cpS β hz pl s d).2)), some (.int (N d)), x] [] hh = some (.inl (some (.int (N (cpS β hz pl s (nD β)).2))), h') ∧ WF h' ∧ Fr trA trQ h h' ∧ GC β h' ∧ TI72 b (2 ^ nE β - 1) hz pl (cpS β hz pl s (nD β)).1 h' := by
  obtain ⟨⟨bN, bT, bE, bS, bD⟩, -⟩ := id wb
  intro m
  induction m with
  | zero =>
    intro d hh h1 wh f gc ti fu hfu x
    obtain ⟨f0, rfl⟩ : ∃ f0, fu = f0 + 1 := ⟨fu - 1, by omega⟩
    have : d = nD β := by omega
    subst this
    have ec := (bc.fr hb f (by decide)).1.2.2.2.2.2.2.2.2
    have r8' : gR hh 0 8 = some b := (f.r 0 8).trans r8
    refine ⟨hh, ?_, wh, f, gc, ti⟩
    rw [e_X11_compactOnce_4]
    simp (disch := first | with_reducible assumption | exact Nat.le_of_ble_eq_true rfl | (simp only [WF_sI, WF_sL, WF_stR, WF_cpI]; with_reducible assumption) | omega | rfl | (show okF _ = true; decide)) only [r_push, r_iload_0, r_aload_0, r_lload_0, r_iload_1, r_aload_1, r_lload_1, r_iload_2, r_aload_2, r_lload_2, r_iload_3, r_aload_3, r_lload_3, r_iload_4, r_aload_4, r_lload_4, r_iload_5, r_aload_5, r_lload_5, r_iload_6, r_aload_6, r_lload_6, r_iload_7, r_aload_7, r_lload_7, r_iload_8, r_aload_8, r_lload_8, r_istore_00, r_astore_00, r_iinc_00, r_lstore_00, r_istore_1i, r_astore_1i, r_iinc_1i, r_lstore_1i, r_istore_1r, r_astore_1r, r_iinc_1r, r_lstore_1r, r_istore_1n, r_astore_1n, r_iinc_1n, r_lstore_1n, r_istore_1z, r_astore_1z, r_iinc_1z, r_lstore_1z, r_istore_2i, r_astore_2i, r_iinc_2i, r_lstore_2i, r_istore_2r, r_astore_2r, r_iinc_2r, r_lstore_2r, r_istore_2n, r_astore_2n, r_iinc_2n, r_lstore_2n, r_istore_2z, r_astore_2z, r_iinc_2z, r_lstore_2z, r_istore_3i, r_astore_3i, r_iinc_3i, r_lstore_3i, r_istore_3r, r_astore_3r, r_iinc_3r, r_lstore_3r, r_istore_3n, r_astore_3n, r_iinc_3n, r_lstore_3n, r_istore_3z, r_astore_3z, r_iinc_3z, r_lstore_3z, r_istore_4i, r_astore_4i, r_iinc_4i, r_lstore_4i, r_istore_4r, r_astore_4r, r_iinc_4r, r_lstore_4r, r_istore_4n, r_astore_4n, r_iinc_4n, r_lstore_4n, r_istore_4z, r_astore_4z, r_iinc_4z, r_lstore_4z, r_istore_5i, r_astore_5i, r_iinc_5i, r_lstore_5i, r_istore_5r, r_astore_5r, r_iinc_5r, r_lstore_5r, r_istore_5n, r_astore_5n, r_iinc_5n, r_lstore_5n, r_istore_5z, r_astore_5z, r_iinc_5z, r_lstore_5z, r_istore_6i, r_astore_6i, r_iinc_6i, r_lstore_6i, r_istore_6r, r_astore_6r, r_iinc_6r, r_lstore_6r, r_istore_6n, r_astore_6n, r_iinc_6n, r_lstore_6n, r_istore_6z, r_astore_6z, r_iinc_6z, r_lstore_6z, r_istore_7i, r_astore_7i, r_iinc_7i, r_lstore_7i, r_istore_7r, r_astore_7r, r_iinc_7r, r_lstore_7r, r_istore_7n, r_astore_7n, r_iinc_7n, r_lstore_7n, r_istore_7z, r_astore_7z, r_iinc_7z, r_lstore_7z, r_istore_8i, r_astore_8i, r_iinc_8i, r_istore_8r, r_astore_8r, r_iinc_8r, r_istore_8n, r_astore_8n, r_iinc_8n, r_istore_8z, r_astore_8z, r_iinc_8z, r_bin, r_lbin, r_div, r_ineg, r_i2l, r_i2b, r_i2c, r_lcmp, r_dup_i, r_dup_r, r_pop_i, r_pop_r, r_dup2, r_ifeq, r_iceq, r_iflt, r_iclt, r_ifge, r_icge, r_ifgt, r_icgt, r_ifle, r_icle, r_ifne, r_icne, r_putR, cs_nil, cs_int, cs_ref, cs_null, cs_long, r_aft_n, r_aft_v, r_aft_x, r_aftN_n, r_aftN_v, r_ireturn, r_zreturn, r_creturn, r_breturn, r_areturn, r_return, r_throw, r_ifnn_r, r_ifnn_n, r_objInit, r_tsw, r_ghost, r_lawret, r_rv, r_rv0, qs_0, qs_1, qs_2, qs_3, qs_4, qs_5, qs_6, q_max, q_min, if_true, if_false, and_self, and_true, true_and, and_false, false_and, not_true_eq_false, not_false_eq_true, or_true, true_or, or_false, false_or, eq_self, ne_eq, lit32, ofNat_N, neg_N1, N_add, N_mul, JN_add, NJ_add, J_add, N_lt, N_le, N_eq, N_nat, J_lt, J_le, J_eq, JN_lt, NJ_lt, JN_le, NJ_le, JN_eq, NJ_eq, J_nat, lt_tt, lt_ff, le_tt, le_ff, eqn_ff, ilt_tt, ilt_ff, ile_tt, ile_ff, ieq_ff, gI_sI, gI_sL, gL_sI, gL_sL, gR_sI, gR_sL, Nat.reduceEqDiff, qI_0, qP_0, qV0_0, qV1_0, qV2_0, qV3_0, qV4_0, q_0_0, q_0_1, q_0_2, q_0_3, q_0_4, q_0_5, q_0_6, q_0_7, q_0_8, qR_0_8, q_0_9, qR_0_9, qI_2, qP_2, qV0_2, qV1_2, qV2_2, qV3_2, qV4_2, q_2_0, q_2_1, q_2_2, qA_4, qS_4, qc_4, qp_4, qf_4, qA_5, qS_5, qc_5, qp_5, qf_5, qI_6, qP_6, qV0_6, qV1_6, qV2_6, qV3_6, qV4_6, q_6_1, qA_7, qS_7, qc_7, qp_7, qf_7, qI_50, qP_50, qV0_50, qV1_50, qV2_50, qV3_50, qV4_50, q_50_2, q_50_3, qR_50_3, qZ0_50, qZ1_50, qI_51, qP_51, qV0_51, qV1_51, qV2_51, qV3_51, qV4_51, q_51_1, q_51_2, q_51_3, q_51_4, q_51_0, qR_51_0, qA_52, qS_52, qc_52, qp_52, qf_52, qA_53, qS_53, qc_53, qp_53, qf_53, qA_54, qS_54, qc_54, qp_54, qf_54, qA_55, qS_55, qc_55, qp_55, qf_55, qI_88, qP_88, qV0_88, qV1_88, qV2_88, qV3_88, qV4_88, q_88_2, qI_B0, qP_B0, qV0_B0, qV1_B0, qV2_B0, qV3_B0, qV4_B0, q_B0_0, q_B0_1, q_B0_11, q_B0_12, q_B0_13, q_B0_14, q_B0_15, q_B0_16, qI_B1, qP_B1, qV0_B1, qV1_B1, qV2_B1, qV3_B1, qV4_B1, q_B1_1, q_B1_2, q_B1_3, qA_B2, qS_B2, qc_B2, qp_B2, qf_B2, qA_B3, qS_B3, qc_B3, qp_B3, qf_B3, qA_B4, qS_B4, qc_B4, qp_B4, qf_B4, qI_B5, qP_B5, qV0_B5, qV1_B5, qV2_B5, qV3_B5, qV4_B5, q_B5_1, q_B5_2, q_B5_3, q_B5_4, q_B5_5, q_B5_6, q_B5_7, q_B5_8, q_B5_9, qA_B6, qS_B6, qc_B6, qp_B6, qf_B6, qA_B7, qS_B7, qc_B7, qp_B7, qf_B7, qA_B8, qS_B8, qc_B8, qp_B8, qf_B8, qA_B9, qS_B9, qc_B9, qp_B9, qf_B9, qA_B10, qS_B10, qc_B10, qp_B10, qf_B10, qA_B11, qS_B11, qc_B11, qp_B11, qf_B11, qA_B12, qS_B12, qc_B12, qp_B12, qf_B12, qA_B13, qS_B13, qc_B13, qp_B13, qf_B13, qA_B14, qS_B14, qc_B14, qp_B14, qf_B14, qA_B15, qS_B15, qc_B15, qp_B15, qf_B15, qA_B16, qS_B16, qc_B16, qp_B16, qf_B16, qA_B17, qS_B17, qc_B17, qp_B17, qf_B17, qA_B18, qS_B18, qc_B18, qp_B18, qf_B18, qA_B19, qS_B19, qc_B19, qp_B19, qf_B19, qA_B20, qS_B20, qc_B20, qp_B20, qf_B20, r8', r_rv, ec]
  | succ m ih =>
    intro d hh h1 wh f gc ti fu hfu x
    obtain ⟨f0, rfl⟩ : ∃ f0, fu = f0 + 1 := ⟨fu - 1, by omega⟩
    have hd : d < nD β := by omega
    have hd5 : d < 5 := by omega
    have bch := bc.fr hb f (by decide)
    have clh := cl.fr hb f (by decide)
    have cvh : CV β b hh := ⟨(f.r 51 0).trans cv.1, fun s hs k hk => (f.row (by decide) _).trans (cv.2 s hs k hk)⟩
    have ec := bch.1.2.2.2.2.2.2.2.2
    have r8' : gR hh 0 8 = some b := (f.r 0 8).trans r8
    obtain ⟨ok1, -, hc5⟩ := cpS_ok ok bD d (by omega)
    have g79 := ti.2.2.2.2 d hd5
    have sbd := ok1.1 d hd5
    obtain ⟨P, hP⟩ : ∃ P, P = (cpS β hz pl s d).1 := ⟨_, rfl⟩
    obtain ⟨C, hC⟩ : ∃ C, C = (cpS β hz pl s d).2 := ⟨_, rfl⟩
    rw [← hP] at g79 sbd ok1 ti
    rw [← hC] at hc5
    rw [← hC]
    have es : cpS β hz pl s (d + 1) = if P d = -1 then (P, C) else (upZ P d (oZ (setl β 0 hz pl P d 24 0)), C + (if oZ (setl β 0 hz pl P d 24 0) = P d then 0 else 1)) := by rw [hP, hC]; rfl
    have cc : (J (P d) = J (-1)) = (P d = -1) := J_eq (by omega) (by omega) (by omega) (by omega)
    obtain ⟨y, hy⟩ : ∃ y, y = J (P d) := ⟨_, rfl⟩
    by_cases c : P d = -1
    · rw [if_pos c] at es
      rw [eq_true c] at cc
      obtain ⟨h', q, q2⟩ := ih (d + 1) hh (by omega) wh f gc (by rw [es]; exact ti) f0 (by omega) (some (.int y))
      refine ⟨h', ?_, q2⟩
      rw [es] at q
      rw [← hy] at cc g79
      rw [← q, e_X11_compactOnce_4]
      simp (disch := first | with_reducible assumption | exact Nat.le_of_ble_eq_true rfl | (simp only [WF_sI, WF_sL, WF_stR, WF_cpI]; with_reducible assumption) | omega | rfl | (show okF _ = true; decide)) only [r_push, r_iload_0, r_aload_0, r_lload_0, r_iload_1, r_aload_1, r_lload_1, r_iload_2, r_aload_2, r_lload_2, r_iload_3, r_aload_3, r_lload_3, r_iload_4, r_aload_4, r_lload_4, r_iload_5, r_aload_5, r_lload_5, r_iload_6, r_aload_6, r_lload_6, r_iload_7, r_aload_7, r_lload_7, r_iload_8, r_aload_8, r_lload_8, r_istore_00, r_astore_00, r_iinc_00, r_lstore_00, r_istore_1i, r_astore_1i, r_iinc_1i, r_lstore_1i, r_istore_1r, r_astore_1r, r_iinc_1r, r_lstore_1r, r_istore_1n, r_astore_1n, r_iinc_1n, r_lstore_1n, r_istore_1z, r_astore_1z, r_iinc_1z, r_lstore_1z, r_istore_2i, r_astore_2i, r_iinc_2i, r_lstore_2i, r_istore_2r, r_astore_2r, r_iinc_2r, r_lstore_2r, r_istore_2n, r_astore_2n, r_iinc_2n, r_lstore_2n, r_istore_2z, r_astore_2z, r_iinc_2z, r_lstore_2z, r_istore_3i, r_astore_3i, r_iinc_3i, r_lstore_3i, r_istore_3r, r_astore_3r, r_iinc_3r, r_lstore_3r, r_istore_3n, r_astore_3n, r_iinc_3n, r_lstore_3n, r_istore_3z, r_astore_3z, r_iinc_3z, r_lstore_3z, r_istore_4i, r_astore_4i, r_iinc_4i, r_lstore_4i, r_istore_4r, r_astore_4r, r_iinc_4r, r_lstore_4r, r_istore_4n, r_astore_4n, r_iinc_4n, r_lstore_4n, r_istore_4z, r_astore_4z, r_iinc_4z, r_lstore_4z, r_istore_5i, r_astore_5i, r_iinc_5i, r_lstore_5i, r_istore_5r, r_astore_5r, r_iinc_5r, r_lstore_5r, r_istore_5n, r_astore_5n, r_iinc_5n, r_lstore_5n, r_istore_5z, r_astore_5z, r_iinc_5z, r_lstore_5z, r_istore_6i, r_astore_6i, r_iinc_6i, r_lstore_6i, r_istore_6r, r_astore_6r, r_iinc_6r, r_lstore_6r, r_istore_6n, r_astore_6n, r_iinc_6n, r_lstore_6n, r_istore_6z, r_astore_6z, r_iinc_6z, r_lstore_6z, r_istore_7i, r_astore_7i, r_iinc_7i, r_lstore_7i, r_istore_7r, r_astore_7r, r_iinc_7r, r_lstore_7r, r_istore_7n, r_astore_7n, r_iinc_7n, r_lstore_7n, r_istore_7z, r_astore_7z, r_iinc_7z, r_lstore_7z, r_istore_8i, r_astore_8i, r_iinc_8i, r_istore_8r, r_astore_8r, r_iinc_8r, r_istore_8n, r_astore_8n, r_iinc_8n, r_istore_8z, r_astore_8z, r_iinc_8z, r_bin, r_lbin, r_div, r_ineg, r_i2l, r_i2b, r_i2c, r_lcmp, r_dup_i, r_dup_r, r_pop_i, r_pop_r, r_dup2, r_ifeq, r_iceq, r_iflt, r_iclt, r_ifge, r_icge, r_ifgt, r_icgt, r_ifle, r_icle, r_ifne, r_icne, r_putR, cs_nil, cs_int, cs_ref, cs_null, cs_long, r_aft_n, r_aft_v, r_aft_x, r_aftN_n, r_aftN_v, r_ireturn, r_zreturn, r_creturn, r_breturn, r_areturn, r_return, r_throw, r_ifnn_r, r_ifnn_n, r_objInit, r_tsw, r_ghost, r_lawret, r_rv, r_rv0, qs_0, qs_1, qs_2, qs_3, qs_4, qs_5, qs_6, q_max, q_min, if_true, if_false, and_self, and_true, true_and, and_false, false_and, not_true_eq_false, not_false_eq_true, or_true, true_or, or_false, false_or, eq_self, ne_eq, lit32, ofNat_N, neg_N1, N_add, N_mul, JN_add, NJ_add, J_add, N_lt, N_le, N_eq, N_nat, J_lt, J_le, J_eq, JN_lt, NJ_lt, JN_le, NJ_le, JN_eq, NJ_eq, J_nat, lt_tt, lt_ff, le_tt, le_ff, eqn_ff, ilt_tt, ilt_ff, ile_tt, ile_ff, ieq_ff, gI_sI, gI_sL, gL_sI, gL_sL, gR_sI, gR_sL, Nat.reduceEqDiff, qI_0, qP_0, qV0_0, qV1_0, qV2_0, qV3_0, qV4_0, q_0_0, q_0_1, q_0_2, q_0_3, q_0_4, q_0_5, q_0_6, q_0_7, q_0_8, qR_0_8, q_0_9, qR_0_9, qI_2, qP_2, qV0_2, qV1_2, qV2_2, qV3_2, qV4_2, q_2_0, q_2_1, q_2_2, qA_4, qS_4, qc_4, qp_4, qf_4, qA_5, qS_5, qc_5, qp_5, qf_5, qI_6, qP_6, qV0_6, qV1_6, qV2_6, qV3_6, qV4_6, q_6_1, qA_7, qS_7, qc_7, qp_7, qf_7, qI_50, qP_50, qV0_50, qV1_50, qV2_50, qV3_50, qV4_50, q_50_2, q_50_3, qR_50_3, qZ0_50, qZ1_50, qI_51, qP_51, qV0_51, qV1_51, qV2_51, qV3_51, qV4_51, q_51_1, q_51_2, q_51_3, q_51_4, q_51_0, qR_51_0, qA_52, qS_52, qc_52, qp_52, qf_52, qA_53, qS_53, qc_53, qp_53, qf_53, qA_54, qS_54, qc_54, qp_54, qf_54, qA_55, qS_55, qc_55, qp_55, qf_55, qI_88, qP_88, qV0_88, qV1_88, qV2_88, qV3_88, qV4_88, q_88_2, qI_B0, qP_B0, qV0_B0, qV1_B0, qV2_B0, qV3_B0, qV4_B0, q_B0_0, q_B0_1, q_B0_11, q_B0_12, q_B0_13, q_B0_14, q_B0_15, q_B0_16, qI_B1, qP_B1, qV0_B1, qV1_B1, qV2_B1, qV3_B1, qV4_B1, q_B1_1, q_B1_2, q_B1_3, qA_B2, qS_B2, qc_B2, qp_B2, qf_B2, qA_B3, qS_B3, qc_B3, qp_B3, qf_B3, qA_B4, qS_B4, qc_B4, qp_B4, qf_B4, qI_B5, qP_B5, qV0_B5, qV1_B5, qV2_B5, qV3_B5, qV4_B5, q_B5_1, q_B5_2, q_B5_3, q_B5_4, q_B5_5, q_B5_6, q_B5_7, q_B5_8, q_B5_9, qA_B6, qS_B6, qc_B6, qp_B6, qf_B6, qA_B7, qS_B7, qc_B7, qp_B7, qf_B7, qA_B8, qS_B8, qc_B8, qp_B8, qf_B8, qA_B9, qS_B9, qc_B9, qp_B9, qf_B9, qA_B10, qS_B10, qc_B10, qp_B10, qf_B10, qA_B11, qS_B11, qc_B11, qp_B11, qf_B11, qA_B12, qS_B12, qc_B12, qp_B12, qf_B12, qA_B13, qS_B13, qc_B13, qp_B13, qf_B13, qA_B14, qS_B14, qc_B14, qp_B14, qf_B14, qA_B15, qS_B15, qc_B15, qp_B15, qf_B15, qA_B16, qS_B16, qc_B16, qp_B16, qf_B16, qA_B17, qS_B17, qc_B17, qp_B17, qf_B17, qA_B18, qS_B18, qc_B18, qp_B18, qf_B18, qA_B19, qS_B19, qc_B19, qp_B19, qf_B19, qA_B20, qS_B20, qc_B20, qp_B20, qf_B20, qI_72, qP_72, qV0_72, qV1_72, qV2_72, qV3_72, qV4_72, q_72_0, q_72_9, q_72_10, q_72_11, q_72_1, q_72_2, q_72_3, q_72_4, q_72_5, q_72_6, q_72_7, q_72_12, qR_72_12, qI_73, qP_73, qV0_73, qV1_73, qV2_73, qV3_73, qV4_73, q_73_0, q_73_1, q_73_2, q_73_8, q_73_9, qA_74, qS_74, qc_74, qp_74, qf_74, qA_75, qS_75, qc_75, qp_75, qf_75, qA_76, qS_76, qc_76, qp_76, qf_76, qA_77, qS_77, qc_77, qp_77, qf_77, qA_78, qS_78, qc_78, qp_78, qf_78, qA_79, qS_79, qc_79, qp_79, qf_79, qA_80, qS_80, qc_80, qp_80, qf_80, qA_81, qS_81, qc_81, qp_81, qf_81, qA_82, qS_82, qc_82, qp_82, qf_82, qA_83, qS_83, qc_83, qp_83, qf_83, qA_84, qS_84, qc_84, qp_84, qf_84, qA_85, qS_85, qc_85, qp_85, qf_85, qA_86, qS_86, qc_86, qp_86, qf_86, qA_87, qS_87, qc_87, qp_87, qf_87, r8', r_rv, ec, u_X8_startOf, e_X8_startOf_0, g79, cc, e_X11_compactOnce_48]
    · rw [if_neg c] at es
      rw [eq_false c] at cc
      obtain ⟨xx, h2, e2, hx2, f2, gc2, ti2, -⟩ := c_place wb wh hb bch clh cvh gc ti (stf_0 _) ok1.1 ok1.2.1 hd (least := 0) (by omega)
      have w2 := f2.wf wh
      obtain ⟨t, t1, t2, t3⟩ := settle_le ok1 hd bD c
      have hx2 : xx = oJ (setl β 0 hz pl P d 24 0) := hx2
      have ti2 : TI72 b (2 ^ nE β - 1) hz pl (upZ P d (oZ (setl β 0 hz pl P d 24 0))) h2 := ti2
      rw [t1] at hx2 ti2 es
      have eo : oZ (some t) = (t : Int) := rfl
      rw [eo] at ti2 es
      have hxt : xx = N t := hx2
      have ct : (N t = J (P d)) = ((t : Int) = P d) := NJ_eq (by omega) (by omega) (by omega)
      rw [← hy] at cc g79 ct
      rw [hxt] at e2
      by_cases ce : (t : Int) = P d
      · rw [eq_true ce] at ct
        rw [if_pos ce, Nat.add_zero] at es
        obtain ⟨h', q, q2⟩ := ih (d + 1) h2 (by omega) w2 (f.trans (f2.mono (by decide) (by decide))) gc2 (by rw [es]; exact ti2) f0 (by omega) (some (.int y))
        refine ⟨h', ?_, q2⟩
        rw [es] at q
        rw [← q, e_X11_compactOnce_4]
        simp (disch := first | with_reducible assumption | exact Nat.le_of_ble_eq_true rfl | (simp only [WF_sI, WF_sL, WF_stR, WF_cpI]; with_reducible assumption) | omega | rfl | (show okF _ = true; decide)) only [r_push, r_iload_0, r_aload_0, r_lload_0, r_iload_1, r_aload_1, r_lload_1, r_iload_2, r_aload_2, r_lload_2, r_iload_3, r_aload_3, r_lload_3, r_iload_4, r_aload_4, r_lload_4, r_iload_5, r_aload_5, r_lload_5, r_iload_6, r_aload_6, r_lload_6, r_iload_7, r_aload_7, r_lload_7, r_iload_8, r_aload_8, r_lload_8, r_istore_00, r_astore_00, r_iinc_00, r_lstore_00, r_istore_1i, r_astore_1i, r_iinc_1i, r_lstore_1i, r_istore_1r, r_astore_1r, r_iinc_1r, r_lstore_1r, r_istore_1n, r_astore_1n, r_iinc_1n, r_lstore_1n, r_istore_1z, r_astore_1z, r_iinc_1z, r_lstore_1z, r_istore_2i, r_astore_2i, r_iinc_2i, r_lstore_2i, r_istore_2r, r_astore_2r, r_iinc_2r, r_lstore_2r, r_istore_2n, r_astore_2n, r_iinc_2n, r_lstore_2n, r_istore_2z, r_astore_2z, r_iinc_2z, r_lstore_2z, r_istore_3i, r_astore_3i, r_iinc_3i, r_lstore_3i, r_istore_3r, r_astore_3r, r_iinc_3r, r_lstore_3r, r_istore_3n, r_astore_3n, r_iinc_3n, r_lstore_3n, r_istore_3z, r_astore_3z, r_iinc_3z, r_lstore_3z, r_istore_4i, r_astore_4i, r_iinc_4i, r_lstore_4i, r_istore_4r, r_astore_4r, r_iinc_4r, r_lstore_4r, r_istore_4n, r_astore_4n, r_iinc_4n, r_lstore_4n, r_istore_4z, r_astore_4z, r_iinc_4z, r_lstore_4z, r_istore_5i, r_astore_5i, r_iinc_5i, r_lstore_5i, r_istore_5r, r_astore_5r, r_iinc_5r, r_lstore_5r, r_istore_5n, r_astore_5n, r_iinc_5n, r_lstore_5n, r_istore_5z, r_astore_5z, r_iinc_5z, r_lstore_5z, r_istore_6i, r_astore_6i, r_iinc_6i, r_lstore_6i, r_istore_6r, r_astore_6r, r_iinc_6r, r_lstore_6r, r_istore_6n, r_astore_6n, r_iinc_6n, r_lstore_6n, r_istore_6z, r_astore_6z, r_iinc_6z, r_lstore_6z, r_istore_7i, r_astore_7i, r_iinc_7i, r_lstore_7i, r_istore_7r, r_astore_7r, r_iinc_7r, r_lstore_7r, r_istore_7n, r_astore_7n, r_iinc_7n, r_lstore_7n, r_istore_7z, r_astore_7z, r_iinc_7z, r_lstore_7z, r_istore_8i, r_astore_8i, r_iinc_8i, r_istore_8r, r_astore_8r, r_iinc_8r, r_istore_8n, r_astore_8n, r_iinc_8n, r_istore_8z, r_astore_8z, r_iinc_8z, r_bin, r_lbin, r_div, r_ineg, r_i2l, r_i2b, r_i2c, r_lcmp, r_dup_i, r_dup_r, r_pop_i, r_pop_r, r_dup2, r_ifeq, r_iceq, r_iflt, r_iclt, r_ifge, r_icge, r_ifgt, r_icgt, r_ifle, r_icle, r_ifne, r_icne, r_putR, cs_nil, cs_int, cs_ref, cs_null, cs_long, r_aft_n, r_aft_v, r_aft_x, r_aftN_n, r_aftN_v, r_ireturn, r_zreturn, r_creturn, r_breturn, r_areturn, r_return, r_throw, r_ifnn_r, r_ifnn_n, r_objInit, r_tsw, r_ghost, r_lawret, r_rv, r_rv0, qs_0, qs_1, qs_2, qs_3, qs_4, qs_5, qs_6, q_max, q_min, if_true, if_false, and_self, and_true, true_and, and_false, false_and, not_true_eq_false, not_false_eq_true, or_true, true_or, or_false, false_or, eq_self, ne_eq, lit32, ofNat_N, neg_N1, N_add, N_mul, JN_add, NJ_add, J_add, N_lt, N_le, N_eq, N_nat, J_lt, J_le, J_eq, JN_lt, NJ_lt, JN_le, NJ_le, JN_eq, NJ_eq, J_nat, lt_tt, lt_ff, le_tt, le_ff, eqn_ff, ilt_tt, ilt_ff, ile_tt, ile_ff, ieq_ff, gI_sI, gI_sL, gL_sI, gL_sL, gR_sI, gR_sL, Nat.reduceEqDiff, qI_0, qP_0, qV0_0, qV1_0, qV2_0, qV3_0, qV4_0, q_0_0, q_0_1, q_0_2, q_0_3, q_0_4, q_0_5, q_0_6, q_0_7, q_0_8, qR_0_8, q_0_9, qR_0_9, qI_2, qP_2, qV0_2, qV1_2, qV2_2, qV3_2, qV4_2, q_2_0, q_2_1, q_2_2, qA_4, qS_4, qc_4, qp_4, qf_4, qA_5, qS_5, qc_5, qp_5, qf_5, qI_6, qP_6, qV0_6, qV1_6, qV2_6, qV3_6, qV4_6, q_6_1, qA_7, qS_7, qc_7, qp_7, qf_7, qI_50, qP_50, qV0_50, qV1_50, qV2_50, qV3_50, qV4_50, q_50_2, q_50_3, qR_50_3, qZ0_50, qZ1_50, qI_51, qP_51, qV0_51, qV1_51, qV2_51, qV3_51, qV4_51, q_51_1, q_51_2, q_51_3, q_51_4, q_51_0, qR_51_0, qA_52, qS_52, qc_52, qp_52, qf_52, qA_53, qS_53, qc_53, qp_53, qf_53, qA_54, qS_54, qc_54, qp_54, qf_54, qA_55, qS_55, qc_55, qp_55, qf_55, qI_88, qP_88, qV0_88, qV1_88, qV2_88, qV3_88, qV4_88, q_88_2, qI_B0, qP_B0, qV0_B0, qV1_B0, qV2_B0, qV3_B0, qV4_B0, q_B0_0, q_B0_1, q_B0_11, q_B0_12, q_B0_13, q_B0_14, q_B0_15, q_B0_16, qI_B1, qP_B1, qV0_B1, qV1_B1, qV2_B1, qV3_B1, qV4_B1, q_B1_1, q_B1_2, q_B1_3, qA_B2, qS_B2, qc_B2, qp_B2, qf_B2, qA_B3, qS_B3, qc_B3, qp_B3, qf_B3, qA_B4, qS_B4, qc_B4, qp_B4, qf_B4, qI_B5, qP_B5, qV0_B5, qV1_B5, qV2_B5, qV3_B5, qV4_B5, q_B5_1, q_B5_2, q_B5_3, q_B5_4, q_B5_5, q_B5_6, q_B5_7, q_B5_8, q_B5_9, qA_B6, qS_B6, qc_B6, qp_B6, qf_B6, qA_B7, qS_B7, qc_B7, qp_B7, qf_B7, qA_B8, qS_B8, qc_B8, qp_B8, qf_B8, qA_B9, qS_B9, qc_B9, qp_B9, qf_B9, qA_B10, qS_B10, qc_B10, qp_B10, qf_B10, qA_B11, qS_B11, qc_B11, qp_B11, qf_B11, qA_B12, qS_B12, qc_B12, qp_B12, qf_B12, qA_B13, qS_B13, qc_B13, qp_B13, qf_B13, qA_B14, qS_B14, qc_B14, qp_B14, qf_B14, qA_B15, qS_B15, qc_B15, qp_B15, qf_B15, qA_B16, qS_B16, qc_B16, qp_B16, qf_B16, qA_B17, qS_B17, qc_B17, qp_B17, qf_B17, qA_B18, qS_B18, qc_B18, qp_B18, qf_B18, qA_B19, qS_B19, qc_B19, qp_B19, qf_B19, qA_B20, qS_B20, qc_B20, qp_B20, qf_B20, qI_72, qP_72, qV0_72, qV1_72, qV2_72, qV3_72, qV4_72, q_72_0, q_72_9, q_72_10, q_72_11, q_72_1, q_72_2, q_72_3, q_72_4, q_72_5, q_72_6, q_72_7, q_72_12, qR_72_12, qI_73, qP_73, qV0_73, qV1_73, qV2_73, qV3_73, qV4_73, q_73_0, q_73_1, q_73_2, q_73_8, q_73_9, qA_74, qS_74, qc_74, qp_74, qf_74, qA_75, qS_75, qc_75, qp_75, qf_75, qA_76, qS_76, qc_76, qp_76, qf_76, qA_77, qS_77, qc_77, qp_77, qf_77, qA_78, qS_78, qc_78, qp_78, qf_78, qA_79, qS_79, qc_79, qp_79, qf_79, qA_80, qS_80, qc_80, qp_80, qf_80, qA_81, qS_81, qc_81, qp_81, qf_81, qA_82, qS_82, qc_82, qp_82, qf_82, qA_83, qS_83, qc_83, qp_83, qf_83, qA_84, qS_84, qc_84, qp_84, qf_84, qA_85, qS_85, qc_85, qp_85, qf_85, qA_86, qS_86, qc_86, qp_86, qf_86, qA_87, qS_87, qc_87, qp_87, qf_87, r8', r_rv, ec, u_X8_startOf, e_X8_startOf_0, g79, cc, e2, ct, e_X11_compactOnce_48, Nat.add_zero]
      · rw [eq_false ce] at ct
        rw [if_neg ce] at es
        obtain ⟨h', q, q2⟩ := ih (d + 1) h2 (by omega) w2 (f.trans (f2.mono (by decide) (by decide))) gc2 (by rw [es]; exact ti2) f0 (by omega) (some (.int y))
        refine ⟨h', ?_, q2⟩
        rw [es] at q
        rw [← q, e_X11_compactOnce_4]
        simp (disch := first | with_reducible assumption | exact Nat.le_of_ble_eq_true rfl | (simp only [WF_sI, WF_sL, WF_stR, WF_cpI]; with_reducible assumption) | omega | rfl | (show okF _ = true; decide)) only [r_push, r_iload_0, r_aload_0, r_lload_0, r_iload_1, r_aload_1, r_lload_1, r_iload_2, r_aload_2, r_lload_2, r_iload_3, r_aload_3, r_lload_3, r_iload_4, r_aload_4, r_lload_4, r_iload_5, r_aload_5, r_lload_5, r_iload_6, r_aload_6, r_lload_6, r_iload_7, r_aload_7, r_lload_7, r_iload_8, r_aload_8, r_lload_8, r_istore_00, r_astore_00, r_iinc_00, r_lstore_00, r_istore_1i, r_astore_1i, r_iinc_1i, r_lstore_1i, r_istore_1r, r_astore_1r, r_iinc_1r, r_lstore_1r, r_istore_1n, r_astore_1n, r_iinc_1n, r_lstore_1n, r_istore_1z, r_astore_1z, r_iinc_1z, r_lstore_1z, r_istore_2i, r_astore_2i, r_iinc_2i, r_lstore_2i, r_istore_2r, r_astore_2r, r_iinc_2r, r_lstore_2r, r_istore_2n, r_astore_2n, r_iinc_2n, r_lstore_2n, r_istore_2z, r_astore_2z, r_iinc_2z, r_lstore_2z, r_istore_3i, r_astore_3i, r_iinc_3i, r_lstore_3i, r_istore_3r, r_astore_3r, r_iinc_3r, r_lstore_3r, r_istore_3n, r_astore_3n, r_iinc_3n, r_lstore_3n, r_istore_3z, r_astore_3z, r_iinc_3z, r_lstore_3z, r_istore_4i, r_astore_4i, r_iinc_4i, r_lstore_4i, r_istore_4r, r_astore_4r, r_iinc_4r, r_lstore_4r, r_istore_4n, r_astore_4n, r_iinc_4n, r_lstore_4n, r_istore_4z, r_astore_4z, r_iinc_4z, r_lstore_4z, r_istore_5i, r_astore_5i, r_iinc_5i, r_lstore_5i, r_istore_5r, r_astore_5r, r_iinc_5r, r_lstore_5r, r_istore_5n, r_astore_5n, r_iinc_5n, r_lstore_5n, r_istore_5z, r_astore_5z, r_iinc_5z, r_lstore_5z, r_istore_6i, r_astore_6i, r_iinc_6i, r_lstore_6i, r_istore_6r, r_astore_6r, r_iinc_6r, r_lstore_6r, r_istore_6n, r_astore_6n, r_iinc_6n, r_lstore_6n, r_istore_6z, r_astore_6z, r_iinc_6z, r_lstore_6z, r_istore_7i, r_astore_7i, r_iinc_7i, r_lstore_7i, r_istore_7r, r_astore_7r, r_iinc_7r, r_lstore_7r, r_istore_7n, r_astore_7n, r_iinc_7n, r_lstore_7n, r_istore_7z, r_astore_7z, r_iinc_7z, r_lstore_7z, r_istore_8i, r_astore_8i, r_iinc_8i, r_istore_8r, r_astore_8r, r_iinc_8r, r_istore_8n, r_astore_8n, r_iinc_8n, r_istore_8z, r_astore_8z, r_iinc_8z, r_bin, r_lbin, r_div, r_ineg, r_i2l, r_i2b, r_i2c, r_lcmp, r_dup_i, r_dup_r, r_pop_i, r_pop_r, r_dup2, r_ifeq, r_iceq, r_iflt, r_iclt, r_ifge, r_icge, r_ifgt, r_icgt, r_ifle, r_icle, r_ifne, r_icne, r_putR, cs_nil, cs_int, cs_ref, cs_null, cs_long, r_aft_n, r_aft_v, r_aft_x, r_aftN_n, r_aftN_v, r_ireturn, r_zreturn, r_creturn, r_breturn, r_areturn, r_return, r_throw, r_ifnn_r, r_ifnn_n, r_objInit, r_tsw, r_ghost, r_lawret, r_rv, r_rv0, qs_0, qs_1, qs_2, qs_3, qs_4, qs_5, qs_6, q_max, q_min, if_true, if_false, and_self, and_true, true_and, and_false, false_and, not_true_eq_false, not_false_eq_true, or_true, true_or, or_false, false_or, eq_self, ne_eq, lit32, ofNat_N, neg_N1, N_add, N_mul, JN_add, NJ_add, J_add, N_lt, N_le, N_eq, N_nat, J_lt, J_le, J_eq, JN_lt, NJ_lt, JN_le, NJ_le, JN_eq, NJ_eq, J_nat, lt_tt, lt_ff, le_tt, le_ff, eqn_ff, ilt_tt, ilt_ff, ile_tt, ile_ff, ieq_ff, gI_sI, gI_sL, gL_sI, gL_sL, gR_sI, gR_sL, Nat.reduceEqDiff, qI_0, qP_0, qV0_0, qV1_0, qV2_0, qV3_0, qV4_0, q_0_0, q_0_1, q_0_2, q_0_3, q_0_4, q_0_5, q_0_6, q_0_7, q_0_8, qR_0_8, q_0_9, qR_0_9, qI_2, qP_2, qV0_2, qV1_2, qV2_2, qV3_2, qV4_2, q_2_0, q_2_1, q_2_2, qA_4, qS_4, qc_4, qp_4, qf_4, qA_5, qS_5, qc_5, qp_5, qf_5, qI_6, qP_6, qV0_6, qV1_6, qV2_6, qV3_6, qV4_6, q_6_1, qA_7, qS_7, qc_7, qp_7, qf_7, qI_50, qP_50, qV0_50, qV1_50, qV2_50, qV3_50, qV4_50, q_50_2, q_50_3, qR_50_3, qZ0_50, qZ1_50, qI_51, qP_51, qV0_51, qV1_51, qV2_51, qV3_51, qV4_51, q_51_1, q_51_2, q_51_3, q_51_4, q_51_0, qR_51_0, qA_52, qS_52, qc_52, qp_52, qf_52, qA_53, qS_53, qc_53, qp_53, qf_53, qA_54, qS_54, qc_54, qp_54, qf_54, qA_55, qS_55, qc_55, qp_55, qf_55, qI_88, qP_88, qV0_88, qV1_88, qV2_88, qV3_88, qV4_88, q_88_2, qI_B0, qP_B0, qV0_B0, qV1_B0, qV2_B0, qV3_B0, qV4_B0, q_B0_0, q_B0_1, q_B0_11, q_B0_12, q_B0_13, q_B0_14, q_B0_15, q_B0_16, qI_B1, qP_B1, qV0_B1, qV1_B1, qV2_B1, qV3_B1, qV4_B1, q_B1_1, q_B1_2, q_B1_3, qA_B2, qS_B2, qc_B2, qp_B2, qf_B2, qA_B3, qS_B3, qc_B3, qp_B3, qf_B3, qA_B4, qS_B4, qc_B4, qp_B4, qf_B4, qI_B5, qP_B5, qV0_B5, qV1_B5, qV2_B5, qV3_B5, qV4_B5, q_B5_1, q_B5_2, q_B5_3, q_B5_4, q_B5_5, q_B5_6, q_B5_7, q_B5_8, q_B5_9, qA_B6, qS_B6, qc_B6, qp_B6, qf_B6, qA_B7, qS_B7, qc_B7, qp_B7, qf_B7, qA_B8, qS_B8, qc_B8, qp_B8, qf_B8, qA_B9, qS_B9, qc_B9, qp_B9, qf_B9, qA_B10, qS_B10, qc_B10, qp_B10, qf_B10, qA_B11, qS_B11, qc_B11, qp_B11, qf_B11, qA_B12, qS_B12, qc_B12, qp_B12, qf_B12, qA_B13, qS_B13, qc_B13, qp_B13, qf_B13, qA_B14, qS_B14, qc_B14, qp_B14, qf_B14, qA_B15, qS_B15, qc_B15, qp_B15, qf_B15, qA_B16, qS_B16, qc_B16, qp_B16, qf_B16, qA_B17, qS_B17, qc_B17, qp_B17, qf_B17, qA_B18, qS_B18, qc_B18, qp_B18, qf_B18, qA_B19, qS_B19, qc_B19, qp_B19, qf_B19, qA_B20, qS_B20, qc_B20, qp_B20, qf_B20, qI_72, qP_72, qV0_72, qV1_72, qV2_72, qV3_72, qV4_72, q_72_0, q_72_9, q_72_10, q_72_11, q_72_1, q_72_2, q_72_3, q_72_4, q_72_5, q_72_6, q_72_7, q_72_12, qR_72_12, qI_73, qP_73, qV0_73, qV1_73, qV2_73, qV3_73, qV4_73, q_73_0, q_73_1, q_73_2, q_73_8, q_73_9, qA_74, qS_74, qc_74, qp_74, qf_74, qA_75, qS_75, qc_75, qp_75, qf_75, qA_76, qS_76, qc_76, qp_76, qf_76, qA_77, qS_77, qc_77, qp_77, qf_77, qA_78, qS_78, qc_78, qp_78, qf_78, qA_79, qS_79, qc_79, qp_79, qf_79, qA_80, qS_80, qc_80, qp_80, qf_80, qA_81, qS_81, qc_81, qp_81, qf_81, qA_82, qS_82, qc_82, qp_82, qf_82, qA_83, qS_83, qc_83, qp_83, qf_83, qA_84, qS_84, qc_84, qp_84, qf_84, qA_85, qS_85, qc_85, qp_85, qf_85, qA_86, qS_86, qc_86, qp_86, qf_86, qA_87, qS_87, qc_87, qp_87, qf_87, r8', r_rv, ec, u_X8_startOf, e_X8_startOf_0, g79, cc, e2, ct, e_X11_compactOnce_48, Nat.add_zero]
