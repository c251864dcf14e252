/-! violations, one after the other -/
set_option maxHeartbeats 2000000 in
theorem N_shr {v k : Nat} (hv : v < 2147483648) (hk : k < 32) : N v >>> (N k &&& N 31) = N (v / 2 ^ k) := by
  have hz : ∀ m, 31 ≤ m → v.testBit m = false := fun m hm => Nat.testBit_lt_two_pow (Nat.lt_of_lt_of_le hv (Nat.pow_le_pow_right (n := 2) (by decide) hm))
  refine bt_ext (fun j hj => ?_)
  rw [bt_N hj, Nat.testBit_div_two_pow]
  have e : bt (N v >>> (N k &&& N 31)) j = (if k + j < 32 then bt (N v) (k + j) else bt (N v) 31) := by
    unfold bt
    rw [shr_bv _ hk, BitVec.getLsbD_sshiftRight, BitVec.msb_eq_getLsbD_last]
    simp [hj]
  rw [e]
  by_cases c : k + j < 32
  · rw [if_pos c, bt_N c, Nat.add_comm]
  · rw [if_neg c, bt_N (by omega), hz 31 (Nat.le_refl _), hz (j + k) (by omega)]
set_option maxHeartbeats 2000000 in
theorem N_shl8 {t : Nat} (h : t < 48) : N t <<< (N 8 &&& N 31) = N (t * 256) := by
  have : ∀ i : Fin 48, N i.val <<< (N 8 &&& N 31) = N (i.val * 256) := by decide
  exact this ⟨t, h⟩
set_option maxHeartbeats 2000000 in
theorem N_shl4 {c : Nat} (h : c < 6) : N c <<< (N 4 &&& N 31) = N (c * 16) := by
  have : ∀ i : Fin 6, N i.val <<< (N 4 &&& N 31) = N (i.val * 16) := by decide
  exact this ⟨c, h⟩
set_option maxHeartbeats 2000000 in
theorem vio_or {t c d : Nat} (hc : c < 6) (hd : d < 16) : t * 256 ||| c * 16 ||| d = t * 256 + c * 16 + d := by
  have h1 := Nat.two_pow_add_eq_or_of_lt (i := 8) (b := c * 16) (by omega) t
  have h2 := Nat.two_pow_add_eq_or_of_lt (i := 4) (b := d) (by omega) (t * 16 + c)
  rw [show 2 ^ 8 * t = t * 256 by omega] at h1
  rw [show 2 ^ 4 * (t * 16 + c) = t * 256 + c * 16 by omega] at h2
  rw [← h1, ← h2]
def vC (s : Nat → Int) (q : PL) (t c : Nat) : Nat → List Nat
  | 0 => []
  | d + 1 => vC s q t c d ++ (if s d = (t : Int) ∧ pSt q d = -(c : Int) then [t * 256 + c * 16 + d] else [])
def vK (s : Nat → Int) (q : PL) (t : Nat) : Nat → List Nat
  | 0 => []
  | c + 1 => vK s q t c ++ vC s q t (c + 1) 5
def low12 (a : Nat) : Nat := match fnd (fun k => a.testBit k) 12 0 with
  | some k => k
  | none => 12
def vGp (β : BD) (mis : Nat) (hz pl : Int32) (s : Nat → Int) (t : Nat) : Nat := gapN β (avN β mis t (run β mis hz pl s (t + 1)))
def vTl (β : BD) (mis : Nat) (hz pl : Int32) (s : Nat → Int) (t : Nat) : List Nat := vK s (run β mis hz pl s 48) t 4 ++ (if vGp β mis hz pl s t = 0 then [] else [t * 256 + 5 * 16 + low12 (vGp β mis hz pl s t)])
def vL (β : BD) (mis : Nat) (hz pl : Int32) (s : Nat → Int) : Nat → List Nat
  | 0 => []
  | t + 1 => vL β mis hz pl s t ++ vTl β mis hz pl s t
set_option maxHeartbeats 2000000 in
theorem cntH_add {f g k : Nat → Bool} : ∀ n, (∀ d, d < n → (f d = true → k d = true) ∧ (g d = true → k d = true) ∧ ¬ (f d = true ∧ g d = true)) → cntH f n + cntH g n ≤ cntH k n := by
  intro n
  induction n with
  | zero => intro _; exact Nat.le_refl _
  | succ n ih =>
    intro h
    have h1 := ih (fun d hd => h d (by omega))
    obtain ⟨a, b, c⟩ := h n (by omega)
    show (cntH f n + (if f n = true then 1 else 0)) + (cntH g n + (if g n = true then 1 else 0)) ≤ cntH k n + (if k n = true then 1 else 0)
    by_cases x : f n = true
    · rw [if_pos x, if_neg (fun z => c ⟨x, z⟩), if_pos (a x)]; omega
    · rw [if_neg x]
      by_cases y : g n = true
      · rw [if_pos y, if_pos (b y)]; omega
      · rw [if_neg y]; omega
set_option maxHeartbeats 2000000 in
theorem vC_len (s : Nat → Int) (q : PL) (t c : Nat) : ∀ d, (vC s q t c d).length = cntH (fun d => decide (s d = (t : Int) ∧ pSt q d = -(c : Int))) d := by
  intro d
  induction d with
  | zero => rfl
  | succ d ih =>
    show (vC s q t c d ++ _).length = cntH _ d + _
    rw [List.length_append, ih]
    by_cases x : s d = (t : Int) ∧ pSt q d = -(c : Int)
    · rw [if_pos x, if_pos (decide_eq_true x)]; rfl
    · rw [if_neg x, if_neg (by simpa using x)]; rfl
set_option maxHeartbeats 2000000 in
theorem vC_mono (s : Nat → Int) (q : PL) (t c : Nat) {d e : Nat} (h : d ≤ e) : (vC s q t c d).length ≤ (vC s q t c e).length := by
  induction e with
  | zero => have : d = 0 := by omega
            subst this; exact Nat.le_refl _
  | succ e ih =>
    by_cases z : d = e + 1
    · rw [z]; exact Nat.le_refl _
    · exact Nat.le_trans (ih (by omega)) (by show _ ≤ (vC s q t c e ++ _).length; rw [List.length_append]; omega)
set_option maxHeartbeats 2000000 in
theorem vK_len (s : Nat → Int) (q : PL) (t : Nat) : ∀ c, (vK s q t c).length ≤ cntH (fun d => decide (s d = (t : Int) ∧ -(c : Int) ≤ pSt q d ∧ pSt q d < 0)) 5 := by
  intro c
  induction c with
  | zero => exact Nat.zero_le _
  | succ c ih =>
    show (vK s q t c ++ vC s q t (c + 1) 5).length ≤ _
    rw [List.length_append, vC_len]
    refine Nat.le_trans (Nat.add_le_add_right ih _) (cntH_add 5 (fun d _ => ⟨fun z => ?_, fun z => ?_, fun z => ?_⟩))
    · have z := of_decide_eq_true z; exact decide_eq_true (by omega)
    · have z := of_decide_eq_true z; exact decide_eq_true (by omega)
    · have z1 := of_decide_eq_true z.1
      have z2 := of_decide_eq_true z.2
      omega
set_option maxHeartbeats 2000000 in
theorem vK_mono (s : Nat → Int) (q : PL) (t : Nat) {d e : Nat} (h : d ≤ e) : (vK s q t d).length ≤ (vK s q t e).length := by
  induction e with
  | zero => have : d = 0 := by omega
            subst this; exact Nat.le_refl _
  | succ e ih =>
    by_cases z : d = e + 1
    · rw [z]; exact Nat.le_refl _
    · exact Nat.le_trans (ih (by omega)) (by show _ ≤ (vK s q t e ++ _).length; rw [List.length_append]; omega)
set_option maxHeartbeats 2000000 in
theorem vL_mono (β : BD) (mis : Nat) (hz pl : Int32) (s : Nat → Int) {d e : Nat} (h : d ≤ e) : (vL β mis hz pl s d).length ≤ (vL β mis hz pl s e).length := by
  induction e with
  | zero => have : d = 0 := by omega
            subst this; exact Nat.le_refl _
  | succ e ih =>
    by_cases z : d = e + 1
    · rw [z]; exact Nat.le_refl _
    · exact Nat.le_trans (ih (by omega)) (by show _ ≤ (vL β mis hz pl s e ++ _).length; rw [List.length_append]; omega)
set_option maxHeartbeats 2000000 in
theorem vL_len (β : BD) (mis : Nat) (hz pl : Int32) (s : Nat → Int) : (vL β mis hz pl s 48).length ≤ 53 := by
  have key : ∀ n, (vL β mis hz pl s n).length ≤ n + cntH (fun d => decide (0 ≤ s d ∧ s d < (n : Int))) 5 := by
    intro n
    induction n with
    | zero => exact Nat.zero_le _
    | succ n ih =>
      show (vL β mis hz pl s n ++ (vK _ _ n 4 ++ _)).length ≤ _
      rw [List.length_append, List.length_append]
      have h1 := vK_len s (run β mis hz pl s 48) n 4
      have h2 : ((if vGp β mis hz pl s n = 0 then [] else [n * 256 + 5 * 16 + low12 (vGp β mis hz pl s n)]) : List Nat).length ≤ 1 := by
        split
        · exact Nat.zero_le _
        · exact Nat.le_refl _
      have h3 : cntH (fun d => decide (0 ≤ s d ∧ s d < (n : Int))) 5 + cntH (fun d => decide (s d = (n : Int) ∧ -((4 : Nat) : Int) ≤ pSt (run β mis hz pl s 48) d ∧ pSt (run β mis hz pl s 48) d < 0)) 5 ≤ cntH (fun d => decide (0 ≤ s d ∧ s d < ((n + 1 : Nat) : Int))) 5 := by
        refine cntH_add 5 (fun d _ => ⟨fun z => ?_, fun z => ?_, fun z => ?_⟩)
        · have z := of_decide_eq_true z; exact decide_eq_true (by omega)
        · have z := of_decide_eq_true z; exact decide_eq_true (by omega)
        · have z1 := of_decide_eq_true z.1
          have z2 := of_decide_eq_true z.2
          omega
      omega
  have h1 := key 48
  have h2 := cntH_le (fun d => decide (0 ≤ s d ∧ s d < ((48 : Nat) : Int))) 5
  omega
set_option maxHeartbeats 2000000 in
theorem getD_app {L : List Nat} {v k : Nat} (hk : k < L.length + 1) : (L ++ [v]).getD k 0 = if k = L.length then v else L.getD k 0 := by
  by_cases c : k = L.length
  · rw [if_pos c, c]; simp
  · rw [if_neg c]
    rw [List.getD_eq_getElem?_getD, List.getD_eq_getElem?_getD, List.getElem?_append_left (by omega)]
/-- the class's list -/
def VR (L : List Nat) (h : AH) : Prop := gI h 56 8 = N L.length ∧ ∀ k, k < L.length → gI h 70 k = N (L.getD k 0)
set_option maxHeartbeats 2000000 in
theorem c_addV {h : AH} (w : WF h) {L : List Nat} (v : VR L h) (hL : L.length < 53) {t c d : Nat} (ht : t < 48) (hc : c < 6) (hd : d < 16) :
    RetN (fun h' => Fr [70] [(56, 8)] h h' ∧ VR (L ++ [t * 256 + c * 16 + d]) h') (mX8_addViolation [.ref 56, .int (N t), .int (N c), .int (N d)] h) := by
  obtain ⟨v1, v2⟩ := v
  have e1 := N_shl8 ht
  have e2 := N_shl4 hc
  have e3 : t * 256 ||| c * 16 ||| d = t * 256 + c * 16 + d := vio_or hc hd
  refine ⟨sI (sI h 70 L.length (N (t * 256 + c * 16 + d))) 56 8 (N (L.length + 1)), ?_, ((Fr.refl _ _ _).sI rfl _).sI rfl _, ?_, ?_⟩
  · rw [u_X8_addViolation, e_X8_addViolation_0]
    simp (disch := first | with_reducible assumption | exact Nat.le_of_ble_eq_true rfl | (simp only [WF_sI, WF_sL, WF_stR, WF_cpI]; with_reducible assumption) | omega | rfl | (show okF _ = true; decide)) only [r_push, r_iload_0, r_aload_0, r_lload_0, r_iload_1, r_aload_1, r_lload_1, r_iload_2, r_aload_2, r_lload_2, r_iload_3, r_aload_3, r_lload_3, r_iload_4, r_aload_4, r_lload_4, r_iload_5, r_aload_5, r_lload_5, r_iload_6, r_aload_6, r_lload_6, r_iload_7, r_aload_7, r_lload_7, r_iload_8, r_aload_8, r_lload_8, r_istore_00, r_astore_00, r_iinc_00, r_lstore_00, r_istore_1i, r_astore_1i, r_iinc_1i, r_lstore_1i, r_istore_1r, r_astore_1r, r_iinc_1r, r_lstore_1r, r_istore_1n, r_astore_1n, r_iinc_1n, r_lstore_1n, r_istore_1z, r_astore_1z, r_iinc_1z, r_lstore_1z, r_istore_2i, r_astore_2i, r_iinc_2i, r_lstore_2i, r_istore_2r, r_astore_2r, r_iinc_2r, r_lstore_2r, r_istore_2n, r_astore_2n, r_iinc_2n, r_lstore_2n, r_istore_2z, r_astore_2z, r_iinc_2z, r_lstore_2z, r_istore_3i, r_astore_3i, r_iinc_3i, r_lstore_3i, r_istore_3r, r_astore_3r, r_iinc_3r, r_lstore_3r, r_istore_3n, r_astore_3n, r_iinc_3n, r_lstore_3n, r_istore_3z, r_astore_3z, r_iinc_3z, r_lstore_3z, r_istore_4i, r_astore_4i, r_iinc_4i, r_lstore_4i, r_istore_4r, r_astore_4r, r_iinc_4r, r_lstore_4r, r_istore_4n, r_astore_4n, r_iinc_4n, r_lstore_4n, r_istore_4z, r_astore_4z, r_iinc_4z, r_lstore_4z, r_istore_5i, r_astore_5i, r_iinc_5i, r_lstore_5i, r_istore_5r, r_astore_5r, r_iinc_5r, r_lstore_5r, r_istore_5n, r_astore_5n, r_iinc_5n, r_lstore_5n, r_istore_5z, r_astore_5z, r_iinc_5z, r_lstore_5z, r_istore_6i, r_astore_6i, r_iinc_6i, r_lstore_6i, r_istore_6r, r_astore_6r, r_iinc_6r, r_lstore_6r, r_istore_6n, r_astore_6n, r_iinc_6n, r_lstore_6n, r_istore_6z, r_astore_6z, r_iinc_6z, r_lstore_6z, r_istore_7i, r_astore_7i, r_iinc_7i, r_lstore_7i, r_istore_7r, r_astore_7r, r_iinc_7r, r_lstore_7r, r_istore_7n, r_astore_7n, r_iinc_7n, r_lstore_7n, r_istore_7z, r_astore_7z, r_iinc_7z, r_lstore_7z, r_istore_8i, r_astore_8i, r_iinc_8i, r_istore_8r, r_astore_8r, r_iinc_8r, r_istore_8n, r_astore_8n, r_iinc_8n, r_istore_8z, r_astore_8z, r_iinc_8z, r_bin, r_lbin, r_div, r_ineg, r_i2l, r_i2b, r_i2c, r_lcmp, r_dup_i, r_dup_r, r_pop_i, r_pop_r, r_dup2, r_ifeq, r_iceq, r_iflt, r_iclt, r_ifge, r_icge, r_ifgt, r_icgt, r_ifle, r_icle, r_ifne, r_icne, r_putR, cs_nil, cs_int, cs_ref, cs_null, cs_long, r_aft_n, r_aft_v, r_aft_x, r_aftN_n, r_aftN_v, r_ireturn, r_zreturn, r_creturn, r_breturn, r_areturn, r_return, r_throw, r_ifnn_r, r_ifnn_n, r_objInit, r_tsw, r_ghost, r_lawret, r_rv, r_rv0, qs_0, qs_1, qs_2, qs_3, qs_4, qs_5, qs_6, q_max, q_min, if_true, if_false, and_self, and_true, true_and, and_false, false_and, not_true_eq_false, not_false_eq_true, or_true, true_or, or_false, false_or, eq_self, ne_eq, lit32, ofNat_N, neg_N1, N_add, N_mul, JN_add, NJ_add, J_add, N_lt, N_le, N_eq, N_nat, J_lt, J_le, J_eq, JN_lt, NJ_lt, JN_le, NJ_le, JN_eq, NJ_eq, J_nat, lt_tt, lt_ff, le_tt, le_ff, eqn_ff, ilt_tt, ilt_ff, ile_tt, ile_ff, ieq_ff, gI_sI, gI_sL, gL_sI, gL_sL, gR_sI, gR_sL, Nat.reduceEqDiff, qI_56, qP_56, qV0_56, qV1_56, qV2_56, qV3_56, qV4_56, q_56_0, q_56_9, q_56_10, q_56_11, q_56_1, q_56_2, q_56_3, q_56_4, q_56_5, q_56_6, q_56_7, q_56_12, qR_56_12, qI_57, qP_57, qV0_57, qV1_57, qV2_57, qV3_57, qV4_57, q_57_0, q_57_1, q_57_2, q_57_8, q_57_9, qA_58, qS_58, qc_58, qp_58, qf_58, qA_59, qS_59, qc_59, qp_59, qf_59, qA_60, qS_60, qc_60, qp_60, qf_60, qA_61, qS_61, qc_61, qp_61, qf_61, qA_62, qS_62, qc_62, qp_62, qf_62, qA_63, qS_63, qc_63, qp_63, qf_63, qA_64, qS_64, qc_64, qp_64, qf_64, qA_65, qS_65, qc_65, qp_65, qf_65, qA_66, qS_66, qc_66, qp_66, qf_66, qA_67, qS_67, qc_67, qp_67, qf_67, qA_68, qS_68, qc_68, qp_68, qf_68, qA_69, qS_69, qc_69, qp_69, qf_69, qA_70, qS_70, qc_70, qp_70, qf_70, qA_71, qS_71, qc_71, qp_71, qf_71, v1, e1, e2, N_or, e3]
  · rw [gI_eq, List.length_append]; rfl
  · intro k hk
    rw [List.length_append] at hk
    have hk : k < L.length + 1 := hk
    rw [getD_app hk, gI_ne (by omega)]
    by_cases z : k = L.length
    · rw [if_pos z, z, gI_eq]
    · rw [if_neg z, gI_nk z]; exact v2 k (by omega)
set_option maxHeartbeats 2000000 in
theorem N_negc {c : Nat} (h : c < 6) : -(N c) = J (-(c : Int)) := by
  have : ∀ i : Fin 6, -(N i.val) = J (-(i.val : Int)) := by decide
  exact this ⟨c, h⟩
set_option maxHeartbeats 2000000 in
theorem c_listC {h : AH} (w : WF h) {L : List Nat} (v : VR L h) {s : Nat → Int} {q : PL} (sb : SB s) (e63 : ∀ d, d < 5 → gI h 63 d = J (s d)) (e64 : ∀ d, d < 5 → gI h 64 d = J (pSt q d)) (hq : ∀ d, d < 5 → -4 ≤ pSt q d ∧ pSt q d ≤ 1) {t c : Nat} (ht : t < 48) (hc : c < 6) (hlen : (L ++ vC s q t c 5).length ≤ 53) :
    RetN (fun h' => Fr [70] [(56, 8)] h h' ∧ VR (L ++ vC s q t c 5) h') (mX8_listCancelled [.ref 56, .int (N t), .int (N c)] h) := by
  have en := N_negc hc
  rw [List.length_append] at hlen
  have key : ∀ k d hh, d + k = 5 → WF hh → Fr [70] [(56, 8)] h hh → VR (L ++ vC s q t c d) hh → ∀ fu, k < fu →
      RetN (fun h' => Fr [70] [(56, 8)] h h' ∧ VR (L ++ vC s q t c 5) h') (fX8_listCancelled_2 fu [some (.ref 56), some (.int (N t)), some (.int (N c)), some (.int (N d))] [] hh) := by
    intro k
    induction k with
    | zero =>
      intro d hh h1 wh f vr fu hfu
      obtain ⟨f0, rfl⟩ : ∃ f0, fu = f0 + 1 := ⟨fu - 1, by omega⟩
      have : d = 5 := by omega
      subst this
      refine ⟨hh, ?_, f, vr⟩
      rw [e_X8_listCancelled_2]
      simp (disch := first | with_reducible assumption | exact Nat.le_of_ble_eq_true rfl | (simp only [WF_sI, WF_sL, WF_stR, WF_cpI]; with_reducible assumption) | omega | rfl | (show okF _ = true; decide)) only [r_push, r_iload_0, r_aload_0, r_lload_0, r_iload_1, r_aload_1, r_lload_1, r_iload_2, r_aload_2, r_lload_2, r_iload_3, r_aload_3, r_lload_3, r_iload_4, r_aload_4, r_lload_4, r_iload_5, r_aload_5, r_lload_5, r_iload_6, r_aload_6, r_lload_6, r_iload_7, r_aload_7, r_lload_7, r_iload_8, r_aload_8, r_lload_8, r_istore_00, r_astore_00, r_iinc_00, r_lstore_00, r_istore_1i, r_astore_1i, r_iinc_1i, r_lstore_1i, r_istore_1r, r_astore_1r, r_iinc_1r, r_lstore_1r, r_istore_1n, r_astore_1n, r_iinc_1n, r_lstore_1n, r_istore_1z, r_astore_1z, r_iinc_1z, r_lstore_1z, r_istore_2i, r_astore_2i, r_iinc_2i, r_lstore_2i, r_istore_2r, r_astore_2r, r_iinc_2r, r_lstore_2r, r_istore_2n, r_astore_2n, r_iinc_2n, r_lstore_2n, r_istore_2z, r_astore_2z, r_iinc_2z, r_lstore_2z, r_istore_3i, r_astore_3i, r_iinc_3i, r_lstore_3i, r_istore_3r, r_astore_3r, r_iinc_3r, r_lstore_3r, r_istore_3n, r_astore_3n, r_iinc_3n, r_lstore_3n, r_istore_3z, r_astore_3z, r_iinc_3z, r_lstore_3z, r_istore_4i, r_astore_4i, r_iinc_4i, r_lstore_4i, r_istore_4r, r_astore_4r, r_iinc_4r, r_lstore_4r, r_istore_4n, r_astore_4n, r_iinc_4n, r_lstore_4n, r_istore_4z, r_astore_4z, r_iinc_4z, r_lstore_4z, r_istore_5i, r_astore_5i, r_iinc_5i, r_lstore_5i, r_istore_5r, r_astore_5r, r_iinc_5r, r_lstore_5r, r_istore_5n, r_astore_5n, r_iinc_5n, r_lstore_5n, r_istore_5z, r_astore_5z, r_iinc_5z, r_lstore_5z, r_istore_6i, r_astore_6i, r_iinc_6i, r_lstore_6i, r_istore_6r, r_astore_6r, r_iinc_6r, r_lstore_6r, r_istore_6n, r_astore_6n, r_iinc_6n, r_lstore_6n, r_istore_6z, r_astore_6z, r_iinc_6z, r_lstore_6z, r_istore_7i, r_astore_7i, r_iinc_7i, r_lstore_7i, r_istore_7r, r_astore_7r, r_iinc_7r, r_lstore_7r, r_istore_7n, r_astore_7n, r_iinc_7n, r_lstore_7n, r_istore_7z, r_astore_7z, r_iinc_7z, r_lstore_7z, r_istore_8i, r_astore_8i, r_iinc_8i, r_istore_8r, r_astore_8r, r_iinc_8r, r_istore_8n, r_astore_8n, r_iinc_8n, r_istore_8z, r_astore_8z, r_iinc_8z, r_bin, r_lbin, r_div, r_ineg, r_i2l, r_i2b, r_i2c, r_lcmp, r_dup_i, r_dup_r, r_pop_i, r_pop_r, r_dup2, r_ifeq, r_iceq, r_iflt, r_iclt, r_ifge, r_icge, r_ifgt, r_icgt, r_ifle, r_icle, r_ifne, r_icne, r_putR, cs_nil, cs_int, cs_ref, cs_null, cs_long, r_aft_n, r_aft_v, r_aft_x, r_aftN_n, r_aftN_v, r_ireturn, r_zreturn, r_creturn, r_breturn, r_areturn, r_return, r_throw, r_ifnn_r, r_ifnn_n, r_objInit, r_tsw, r_ghost, r_lawret, r_rv, r_rv0, qs_0, qs_1, qs_2, qs_3, qs_4, qs_5, qs_6, q_max, q_min, if_true, if_false, and_self, and_true, true_and, and_false, false_and, not_true_eq_false, not_false_eq_true, or_true, true_or, or_false, false_or, eq_self, ne_eq, lit32, ofNat_N, neg_N1, N_add, N_mul, JN_add, NJ_add, J_add, N_lt, N_le, N_eq, N_nat, J_lt, J_le, J_eq, JN_lt, NJ_lt, JN_le, NJ_le, JN_eq, NJ_eq, J_nat, lt_tt, lt_ff, le_tt, le_ff, eqn_ff, ilt_tt, ilt_ff, ile_tt, ile_ff, ieq_ff, gI_sI, gI_sL, gL_sI, gL_sL, gR_sI, gR_sL, Nat.reduceEqDiff, qI_56, qP_56, qV0_56, qV1_56, qV2_56, qV3_56, qV4_56, q_56_0, q_56_9, q_56_10, q_56_11, q_56_1, q_56_2, q_56_3, q_56_4, q_56_5, q_56_6, q_56_7, q_56_12, qR_56_12, qI_57, qP_57, qV0_57, qV1_57, qV2_57, qV3_57, qV4_57, q_57_0, q_57_1, q_57_2, q_57_8, q_57_9, qA_58, qS_58, qc_58, qp_58, qf_58, qA_59, qS_59, qc_59, qp_59, qf_59, qA_60, qS_60, qc_60, qp_60, qf_60, qA_61, qS_61, qc_61, qp_61, qf_61, qA_62, qS_62, qc_62, qp_62, qf_62, qA_63, qS_63, qc_63, qp_63, qf_63, qA_64, qS_64, qc_64, qp_64, qf_64, qA_65, qS_65, qc_65, qp_65, qf_65, qA_66, qS_66, qc_66, qp_66, qf_66, qA_67, qS_67, qc_67, qp_67, qf_67, qA_68, qS_68, qc_68, qp_68, qf_68, qA_69, qS_69, qc_69, qp_69, qf_69, qA_70, qS_70, qc_70, qp_70, qf_70, qA_71, qS_71, qc_71, qp_71, qf_71]
    | succ k ih =>
      intro d hh h1 wh f vr fu hfu
      obtain ⟨f0, rfl⟩ : ∃ f0, fu = f0 + 1 := ⟨fu - 1, by omega⟩
      have g63 : gI hh 63 d = J (s d) := (f.row rfl d).trans (e63 d (by omega))
      have g64 : gI hh 64 d = J (pSt q d) := (f.row rfl d).trans (e64 d (by omega))
      obtain ⟨q1, q2⟩ := hq d (by omega)
      obtain ⟨s1, s2⟩ := sb d (by omega)
      have es : vC s q t c (d + 1) = vC s q t c d ++ (if s d = (t : Int) ∧ pSt q d = -(c : Int) then [t * 256 + c * 16 + d] else []) := rfl
      have hm := vC_mono s q t c (show d + 1 ≤ 5 by omega)
      have c1 : (J (s d) = N t) = (s d = (t : Int)) := JN_eq (by omega) (by omega) (by omega)
      have c2 : (J (pSt q d) = J (-(c : Int))) = (pSt q d = -(c : Int)) := J_eq (by omega) (by omega) (by omega) (by omega)
      by_cases z : s d = (t : Int) ∧ pSt q d = -(c : Int)
      · rw [if_pos z] at es
        rw [es, List.length_append] at hm
        have hm : (vC s q t c d).length + 1 ≤ (vC s q t c 5).length := hm
        obtain ⟨h2, x1, x2, x3⟩ := c_addV wh vr (by rw [List.length_append]; omega) ht hc (d := d) (by omega)
        rw [List.append_assoc, ← es] at x3
        obtain ⟨h', y1, y2⟩ := ih (d + 1) h2 (by omega) (x2.wf wh) (f.trans x2) x3 f0 (by omega)
        refine ⟨h', ?_, y2⟩
        have w2 := x2.wf wh
        rw [← y1, e_X8_listCancelled_2]
        have g63' : gI hh 63 d = N t := by rw [g63, z.1]; rfl
        have g64' : gI hh 64 d = J (-(c : Int)) := by rw [g64, z.2]
        simp (disch := first | with_reducible assumption | exact Nat.le_of_ble_eq_true rfl | (simp only [WF_sI, WF_sL, WF_stR, WF_cpI]; with_reducible assumption) | omega | rfl | (show okF _ = true; decide)) only [r_push, r_iload_0, r_aload_0, r_lload_0, r_iload_1, r_aload_1, r_lload_1, r_iload_2, r_aload_2, r_lload_2, r_iload_3, r_aload_3, r_lload_3, r_iload_4, r_aload_4, r_lload_4, r_iload_5, r_aload_5, r_lload_5, r_iload_6, r_aload_6, r_lload_6, r_iload_7, r_aload_7, r_lload_7, r_iload_8, r_aload_8, r_lload_8, r_istore_00, r_astore_00, r_iinc_00, r_lstore_00, r_istore_1i, r_astore_1i, r_iinc_1i, r_lstore_1i, r_istore_1r, r_astore_1r, r_iinc_1r, r_lstore_1r, r_istore_1n, r_astore_1n, r_iinc_1n, r_lstore_1n, r_istore_1z, r_astore_1z, r_iinc_1z, r_lstore_1z, r_istore_2i, r_astore_2i, r_iinc_2i, r_lstore_2i, r_istore_2r, r_astore_2r, r_iinc_2r, r_lstore_2r, r_istore_2n, r_astore_2n, r_iinc_2n, r_lstore_2n, r_istore_2z, r_astore_2z, r_iinc_2z, r_lstore_2z, r_istore_3i, r_astore_3i, r_iinc_3i, r_lstore_3i, r_istore_3r, r_astore_3r, r_iinc_3r, r_lstore_3r, r_istore_3n, r_astore_3n, r_iinc_3n, r_lstore_3n, r_istore_3z, r_astore_3z, r_iinc_3z, r_lstore_3z, r_istore_4i, r_astore_4i, r_iinc_4i, r_lstore_4i, r_istore_4r, r_astore_4r, r_iinc_4r, r_lstore_4r, r_istore_4n, r_astore_4n, r_iinc_4n, r_lstore_4n, r_istore_4z, r_astore_4z, r_iinc_4z, r_lstore_4z, r_istore_5i, r_astore_5i, r_iinc_5i, r_lstore_5i, r_istore_5r, r_astore_5r, r_iinc_5r, r_lstore_5r, r_istore_5n, r_astore_5n, r_iinc_5n, r_lstore_5n, r_istore_5z, r_astore_5z, r_iinc_5z, r_lstore_5z, r_istore_6i, r_astore_6i, r_iinc_6i, r_lstore_6i, r_istore_6r, r_astore_6r, r_iinc_6r, r_lstore_6r, r_istore_6n, r_astore_6n, r_iinc_6n, r_lstore_6n, r_istore_6z, r_astore_6z, r_iinc_6z, r_lstore_6z, r_istore_7i, r_astore_7i, r_iinc_7i, r_lstore_7i, r_istore_7r, r_astore_7r, r_iinc_7r, r_lstore_7r, r_istore_7n, r_astore_7n, r_iinc_7n, r_lstore_7n, r_istore_7z, r_astore_7z, r_iinc_7z, r_lstore_7z, r_istore_8i, r_astore_8i, r_iinc_8i, r_istore_8r, r_astore_8r, r_iinc_8r, r_istore_8n, r_astore_8n, r_iinc_8n, r_istore_8z, r_astore_8z, r_iinc_8z, r_bin, r_lbin, r_div, r_ineg, r_i2l, r_i2b, r_i2c, r_lcmp, r_dup_i, r_dup_r, r_pop_i, r_pop_r, r_dup2, r_ifeq, r_iceq, r_iflt, r_iclt, r_ifge, r_icge, r_ifgt, r_icgt, r_ifle, r_icle, r_ifne, r_icne, r_putR, cs_nil, cs_int, cs_ref, cs_null, cs_long, r_aft_n, r_aft_v, r_aft_x, r_aftN_n, r_aftN_v, r_ireturn, r_zreturn, r_creturn, r_breturn, r_areturn, r_return, r_throw, r_ifnn_r, r_ifnn_n, r_objInit, r_tsw, r_ghost, r_lawret, r_rv, r_rv0, qs_0, qs_1, qs_2, qs_3, qs_4, qs_5, qs_6, q_max, q_min, if_true, if_false, and_self, and_true, true_and, and_false, false_and, not_true_eq_false, not_false_eq_true, or_true, true_or, or_false, false_or, eq_self, ne_eq, lit32, ofNat_N, neg_N1, N_add, N_mul, JN_add, NJ_add, J_add, N_lt, N_le, N_eq, N_nat, J_lt, J_le, J_eq, JN_lt, NJ_lt, JN_le, NJ_le, JN_eq, NJ_eq, J_nat, lt_tt, lt_ff, le_tt, le_ff, eqn_ff, ilt_tt, ilt_ff, ile_tt, ile_ff, ieq_ff, gI_sI, gI_sL, gL_sI, gL_sL, gR_sI, gR_sL, Nat.reduceEqDiff, qI_56, qP_56, qV0_56, qV1_56, qV2_56, qV3_56, qV4_56, q_56_0, q_56_9, q_56_10, q_56_11, q_56_1, q_56_2, q_56_3, q_56_4, q_56_5, q_56_6, q_56_7, q_56_12, qR_56_12, qI_57, qP_57, qV0_57, qV1_57, qV2_57, qV3_57, qV4_57, q_57_0, q_57_1, q_57_2, q_57_8, q_57_9, qA_58, qS_58, qc_58, qp_58, qf_58, qA_59, qS_59, qc_59, qp_59, qf_59, qA_60, qS_60, qc_60, qp_60, qf_60, qA_61, qS_61, qc_61, qp_61, qf_61, qA_62, qS_62, qc_62, qp_62, qf_62, qA_63, qS_63, qc_63, qp_63, qf_63, qA_64, qS_64, qc_64, qp_64, qf_64, qA_65, qS_65, qc_65, qp_65, qf_65, qA_66, qS_66, qc_66, qp_66, qf_66, qA_67, qS_67, qc_67, qp_67, qf_67, qA_68, qS_68, qc_68, qp_68, qf_68, qA_69, qS_69, qc_69, qp_69, qf_69, qA_70, qS_70, qc_70, qp_70, qf_70, qA_71, qS_71, qc_71, qp_71, qf_71, e_X8_listCancelled_35, g63', g64', r_ineg, en, x1]
      · rw [if_neg z, List.append_nil] at es
        obtain ⟨h', y1, y2⟩ := ih (d + 1) hh (by omega) wh f (by rw [es]; exact vr) f0 (by omega)
        refine ⟨h', ?_, y2⟩
        rw [← y1, e_X8_listCancelled_2]
        by_cases z1 : s d = (t : Int)
        · have z2F := eq_false (fun z2 => z ⟨z1, z2⟩)
          rw [z2F] at c2
          have g63' : gI hh 63 d = N t := by rw [g63, z1]; rfl
          obtain ⟨y, hy⟩ : ∃ y, y = J (pSt q d) := ⟨_, rfl⟩
          obtain ⟨y', hy'⟩ : ∃ y, y = J (-(c : Int)) := ⟨_, rfl⟩
          rw [← hy, ← hy'] at c2
          rw [← hy] at g64
          rw [← hy'] at en
          simp (disch := first | with_reducible assumption | exact Nat.le_of_ble_eq_true rfl | (simp only [WF_sI, WF_sL, WF_stR, WF_cpI]; with_reducible assumption) | omega | rfl | (show okF _ = true; decide)) only [r_push, r_iload_0, r_aload_0, r_lload_0, r_iload_1, r_aload_1, r_lload_1, r_iload_2, r_aload_2, r_lload_2, r_iload_3, r_aload_3, r_lload_3, r_iload_4, r_aload_4, r_lload_4, r_iload_5, r_aload_5, r_lload_5, r_iload_6, r_aload_6, r_lload_6, r_iload_7, r_aload_7, r_lload_7, r_iload_8, r_aload_8, r_lload_8, r_istore_00, r_astore_00, r_iinc_00, r_lstore_00, r_istore_1i, r_astore_1i, r_iinc_1i, r_lstore_1i, r_istore_1r, r_astore_1r, r_iinc_1r, r_lstore_1r, r_istore_1n, r_astore_1n, r_iinc_1n, r_lstore_1n, r_istore_1z, r_astore_1z, r_iinc_1z, r_lstore_1z, r_istore_2i, r_astore_2i, r_iinc_2i, r_lstore_2i, r_istore_2r, r_astore_2r, r_iinc_2r, r_lstore_2r, r_istore_2n, r_astore_2n, r_iinc_2n, r_lstore_2n, r_istore_2z, r_astore_2z, r_iinc_2z, r_lstore_2z, r_istore_3i, r_astore_3i, r_iinc_3i, r_lstore_3i, r_istore_3r, r_astore_3r, r_iinc_3r, r_lstore_3r, r_istore_3n, r_astore_3n, r_iinc_3n, r_lstore_3n, r_istore_3z, r_astore_3z, r_iinc_3z, r_lstore_3z, r_istore_4i, r_astore_4i, r_iinc_4i, r_lstore_4i, r_istore_4r, r_astore_4r, r_iinc_4r, r_lstore_4r, r_istore_4n, r_astore_4n, r_iinc_4n, r_lstore_4n, r_istore_4z, r_astore_4z, r_iinc_4z, r_lstore_4z, r_istore_5i, r_astore_5i, r_iinc_5i, r_lstore_5i, r_istore_5r, r_astore_5r, r_iinc_5r, r_lstore_5r, r_istore_5n, r_astore_5n, r_iinc_5n, r_lstore_5n, r_istore_5z, r_astore_5z, r_iinc_5z, r_lstore_5z, r_istore_6i, r_astore_6i, r_iinc_6i, r_lstore_6i, r_istore_6r, r_astore_6r, r_iinc_6r, r_lstore_6r, r_istore_6n, r_astore_6n, r_iinc_6n, r_lstore_6n, r_istore_6z, r_astore_6z, r_iinc_6z, r_lstore_6z, r_istore_7i, r_astore_7i, r_iinc_7i, r_lstore_7i, r_istore_7r, r_astore_7r, r_iinc_7r, r_lstore_7r, r_istore_7n, r_astore_7n, r_iinc_7n, r_lstore_7n, r_istore_7z, r_astore_7z, r_iinc_7z, r_lstore_7z, r_istore_8i, r_astore_8i, r_iinc_8i, r_istore_8r, r_astore_8r, r_iinc_8r, r_istore_8n, r_astore_8n, r_iinc_8n, r_istore_8z, r_astore_8z, r_iinc_8z, r_bin, r_lbin, r_div, r_ineg, r_i2l, r_i2b, r_i2c, r_lcmp, r_dup_i, r_dup_r, r_pop_i, r_pop_r, r_dup2, r_ifeq, r_iceq, r_iflt, r_iclt, r_ifge, r_icge, r_ifgt, r_icgt, r_ifle, r_icle, r_ifne, r_icne, r_putR, cs_nil, cs_int, cs_ref, cs_null, cs_long, r_aft_n, r_aft_v, r_aft_x, r_aftN_n, r_aftN_v, r_ireturn, r_zreturn, r_creturn, r_breturn, r_areturn, r_return, r_throw, r_ifnn_r, r_ifnn_n, r_objInit, r_tsw, r_ghost, r_lawret, r_rv, r_rv0, qs_0, qs_1, qs_2, qs_3, qs_4, qs_5, qs_6, q_max, q_min, if_true, if_false, and_self, and_true, true_and, and_false, false_and, not_true_eq_false, not_false_eq_true, or_true, true_or, or_false, false_or, eq_self, ne_eq, lit32, ofNat_N, neg_N1, N_add, N_mul, JN_add, NJ_add, J_add, N_lt, N_le, N_eq, N_nat, J_lt, J_le, J_eq, JN_lt, NJ_lt, JN_le, NJ_le, JN_eq, NJ_eq, J_nat, lt_tt, lt_ff, le_tt, le_ff, eqn_ff, ilt_tt, ilt_ff, ile_tt, ile_ff, ieq_ff, gI_sI, gI_sL, gL_sI, gL_sL, gR_sI, gR_sL, Nat.reduceEqDiff, qI_56, qP_56, qV0_56, qV1_56, qV2_56, qV3_56, qV4_56, q_56_0, q_56_9, q_56_10, q_56_11, q_56_1, q_56_2, q_56_3, q_56_4, q_56_5, q_56_6, q_56_7, q_56_12, qR_56_12, qI_57, qP_57, qV0_57, qV1_57, qV2_57, qV3_57, qV4_57, q_57_0, q_57_1, q_57_2, q_57_8, q_57_9, qA_58, qS_58, qc_58, qp_58, qf_58, qA_59, qS_59, qc_59, qp_59, qf_59, qA_60, qS_60, qc_60, qp_60, qf_60, qA_61, qS_61, qc_61, qp_61, qf_61, qA_62, qS_62, qc_62, qp_62, qf_62, qA_63, qS_63, qc_63, qp_63, qf_63, qA_64, qS_64, qc_64, qp_64, qf_64, qA_65, qS_65, qc_65, qp_65, qf_65, qA_66, qS_66, qc_66, qp_66, qf_66, qA_67, qS_67, qc_67, qp_67, qf_67, qA_68, qS_68, qc_68, qp_68, qf_68, qA_69, qS_69, qc_69, qp_69, qf_69, qA_70, qS_70, qc_70, qp_70, qf_70, qA_71, qS_71, qc_71, qp_71, qf_71, e_X8_listCancelled_35, g63', g64, r_ineg, en, c2]
        · have z1F := eq_false z1
          rw [z1F] at c1
          obtain ⟨y, hy⟩ : ∃ y, y = J (s d) := ⟨_, rfl⟩
          rw [← hy] at c1 g63
          simp (disch := first | with_reducible assumption | exact Nat.le_of_ble_eq_true rfl | (simp only [WF_sI, WF_sL, WF_stR, WF_cpI]; with_reducible assumption) | omega | rfl | (show okF _ = true; decide)) only [r_push, r_iload_0, r_aload_0, r_lload_0, r_iload_1, r_aload_1, r_lload_1, r_iload_2, r_aload_2, r_lload_2, r_iload_3, r_aload_3, r_lload_3, r_iload_4, r_aload_4, r_lload_4, r_iload_5, r_aload_5, r_lload_5, r_iload_6, r_aload_6, r_lload_6, r_iload_7, r_aload_7, r_lload_7, r_iload_8, r_aload_8, r_lload_8, r_istore_00, r_astore_00, r_iinc_00, r_lstore_00, r_istore_1i, r_astore_1i, r_iinc_1i, r_lstore_1i, r_istore_1r, r_astore_1r, r_iinc_1r, r_lstore_1r, r_istore_1n, r_astore_1n, r_iinc_1n, r_lstore_1n, r_istore_1z, r_astore_1z, r_iinc_1z, r_lstore_1z, r_istore_2i, r_astore_2i, r_iinc_2i, r_lstore_2i, r_istore_2r, r_astore_2r, r_iinc_2r, r_lstore_2r, r_istore_2n, r_astore_2n, r_iinc_2n, r_lstore_2n, r_istore_2z, r_astore_2z, r_iinc_2z, r_lstore_2z, r_istore_3i, r_astore_3i, r_iinc_3i, r_lstore_3i, r_istore_3r, r_astore_3r, r_iinc_3r, r_lstore_3r, r_istore_3n, r_astore_3n, r_iinc_3n, r_lstore_3n, r_istore_3z, r_astore_3z, r_iinc_3z, r_lstore_3z, r_istore_4i, r_astore_4i, r_iinc_4i, r_lstore_4i, r_istore_4r, r_astore_4r, r_iinc_4r, r_lstore_4r, r_istore_4n, r_astore_4n, r_iinc_4n, r_lstore_4n, r_istore_4z, r_astore_4z, r_iinc_4z, r_lstore_4z, r_istore_5i, r_astore_5i, r_iinc_5i, r_lstore_5i, r_istore_5r, r_astore_5r, r_iinc_5r, r_lstore_5r, r_istore_5n, r_astore_5n, r_iinc_5n, r_lstore_5n, r_istore_5z, r_astore_5z, r_iinc_5z, r_lstore_5z, r_istore_6i, r_astore_6i, r_iinc_6i, r_lstore_6i, r_istore_6r, r_astore_6r, r_iinc_6r, r_lstore_6r, r_istore_6n, r_astore_6n, r_iinc_6n, r_lstore_6n, r_istore_6z, r_astore_6z, r_iinc_6z, r_lstore_6z, r_istore_7i, r_astore_7i, r_iinc_7i, r_lstore_7i, r_istore_7r, r_astore_7r, r_iinc_7r, r_lstore_7r, r_istore_7n, r_astore_7n, r_iinc_7n, r_lstore_7n, r_istore_7z, r_astore_7z, r_iinc_7z, r_lstore_7z, r_istore_8i, r_astore_8i, r_iinc_8i, r_istore_8r, r_astore_8r, r_iinc_8r, r_istore_8n, r_astore_8n, r_iinc_8n, r_istore_8z, r_astore_8z, r_iinc_8z, r_bin, r_lbin, r_div, r_ineg, r_i2l, r_i2b, r_i2c, r_lcmp, r_dup_i, r_dup_r, r_pop_i, r_pop_r, r_dup2, r_ifeq, r_iceq, r_iflt, r_iclt, r_ifge, r_icge, r_ifgt, r_icgt, r_ifle, r_icle, r_ifne, r_icne, r_putR, cs_nil, cs_int, cs_ref, cs_null, cs_long, r_aft_n, r_aft_v, r_aft_x, r_aftN_n, r_aftN_v, r_ireturn, r_zreturn, r_creturn, r_breturn, r_areturn, r_return, r_throw, r_ifnn_r, r_ifnn_n, r_objInit, r_tsw, r_ghost, r_lawret, r_rv, r_rv0, qs_0, qs_1, qs_2, qs_3, qs_4, qs_5, qs_6, q_max, q_min, if_true, if_false, and_self, and_true, true_and, and_false, false_and, not_true_eq_false, not_false_eq_true, or_true, true_or, or_false, false_or, eq_self, ne_eq, lit32, ofNat_N, neg_N1, N_add, N_mul, JN_add, NJ_add, J_add, N_lt, N_le, N_eq, N_nat, J_lt, J_le, J_eq, JN_lt, NJ_lt, JN_le, NJ_le, JN_eq, NJ_eq, J_nat, lt_tt, lt_ff, le_tt, le_ff, eqn_ff, ilt_tt, ilt_ff, ile_tt, ile_ff, ieq_ff, gI_sI, gI_sL, gL_sI, gL_sL, gR_sI, gR_sL, Nat.reduceEqDiff, qI_56, qP_56, qV0_56, qV1_56, qV2_56, qV3_56, qV4_56, q_56_0, q_56_9, q_56_10, q_56_11, q_56_1, q_56_2, q_56_3, q_56_4, q_56_5, q_56_6, q_56_7, q_56_12, qR_56_12, qI_57, qP_57, qV0_57, qV1_57, qV2_57, qV3_57, qV4_57, q_57_0, q_57_1, q_57_2, q_57_8, q_57_9, qA_58, qS_58, qc_58, qp_58, qf_58, qA_59, qS_59, qc_59, qp_59, qf_59, qA_60, qS_60, qc_60, qp_60, qf_60, qA_61, qS_61, qc_61, qp_61, qf_61, qA_62, qS_62, qc_62, qp_62, qf_62, qA_63, qS_63, qc_63, qp_63, qf_63, qA_64, qS_64, qc_64, qp_64, qf_64, qA_65, qS_65, qc_65, qp_65, qf_65, qA_66, qS_66, qc_66, qp_66, qf_66, qA_67, qS_67, qc_67, qp_67, qf_67, qA_68, qS_68, qc_68, qp_68, qf_68, qA_69, qS_69, qc_69, qp_69, qf_69, qA_70, qS_70, qc_70, qp_70, qf_70, qA_71, qS_71, qc_71, qp_71, qf_71, e_X8_listCancelled_35, g63, c1]
  rw [u_X8_listCancelled, e_X8_listCancelled_0]
  obtain ⟨h', e, f⟩ := key 5 0 h (by omega) w (Fr.refl _ _ _) (by show VR (L ++ []) h; rw [List.append_nil]; exact v) fuelN (by unfold fuelN; omega)
  refine ⟨h', ?_, f⟩
  rw [← e]
  simp (disch := first | with_reducible assumption | exact Nat.le_of_ble_eq_true rfl | (simp only [WF_sI, WF_sL, WF_stR, WF_cpI]; with_reducible assumption) | omega | rfl | (show okF _ = true; decide)) only [r_push, r_iload_0, r_aload_0, r_lload_0, r_iload_1, r_aload_1, r_lload_1, r_iload_2, r_aload_2, r_lload_2, r_iload_3, r_aload_3, r_lload_3, r_iload_4, r_aload_4, r_lload_4, r_iload_5, r_aload_5, r_lload_5, r_iload_6, r_aload_6, r_lload_6, r_iload_7, r_aload_7, r_lload_7, r_iload_8, r_aload_8, r_lload_8, r_istore_00, r_astore_00, r_iinc_00, r_lstore_00, r_istore_1i, r_astore_1i, r_iinc_1i, r_lstore_1i, r_istore_1r, r_astore_1r, r_iinc_1r, r_lstore_1r, r_istore_1n, r_astore_1n, r_iinc_1n, r_lstore_1n, r_istore_1z, r_astore_1z, r_iinc_1z, r_lstore_1z, r_istore_2i, r_astore_2i, r_iinc_2i, r_lstore_2i, r_istore_2r, r_astore_2r, r_iinc_2r, r_lstore_2r, r_istore_2n, r_astore_2n, r_iinc_2n, r_lstore_2n, r_istore_2z, r_astore_2z, r_iinc_2z, r_lstore_2z, r_istore_3i, r_astore_3i, r_iinc_3i, r_lstore_3i, r_istore_3r, r_astore_3r, r_iinc_3r, r_lstore_3r, r_istore_3n, r_astore_3n, r_iinc_3n, r_lstore_3n, r_istore_3z, r_astore_3z, r_iinc_3z, r_lstore_3z, r_istore_4i, r_astore_4i, r_iinc_4i, r_lstore_4i, r_istore_4r, r_astore_4r, r_iinc_4r, r_lstore_4r, r_istore_4n, r_astore_4n, r_iinc_4n, r_lstore_4n, r_istore_4z, r_astore_4z, r_iinc_4z, r_lstore_4z, r_istore_5i, r_astore_5i, r_iinc_5i, r_lstore_5i, r_istore_5r, r_astore_5r, r_iinc_5r, r_lstore_5r, r_istore_5n, r_astore_5n, r_iinc_5n, r_lstore_5n, r_istore_5z, r_astore_5z, r_iinc_5z, r_lstore_5z, r_istore_6i, r_astore_6i, r_iinc_6i, r_lstore_6i, r_istore_6r, r_astore_6r, r_iinc_6r, r_lstore_6r, r_istore_6n, r_astore_6n, r_iinc_6n, r_lstore_6n, r_istore_6z, r_astore_6z, r_iinc_6z, r_lstore_6z, r_istore_7i, r_astore_7i, r_iinc_7i, r_lstore_7i, r_istore_7r, r_astore_7r, r_iinc_7r, r_lstore_7r, r_istore_7n, r_astore_7n, r_iinc_7n, r_lstore_7n, r_istore_7z, r_astore_7z, r_iinc_7z, r_lstore_7z, r_istore_8i, r_astore_8i, r_iinc_8i, r_istore_8r, r_astore_8r, r_iinc_8r, r_istore_8n, r_astore_8n, r_iinc_8n, r_istore_8z, r_astore_8z, r_iinc_8z, r_bin, r_lbin, r_div, r_ineg, r_i2l, r_i2b, r_i2c, r_lcmp, r_dup_i, r_dup_r, r_pop_i, r_pop_r, r_dup2, r_ifeq, r_iceq, r_iflt, r_iclt, r_ifge, r_icge, r_ifgt, r_icgt, r_ifle, r_icle, r_ifne, r_icne, r_putR, cs_nil, cs_int, cs_ref, cs_null, cs_long, r_aft_n, r_aft_v, r_aft_x, r_aftN_n, r_aftN_v, r_ireturn, r_zreturn, r_creturn, r_breturn, r_areturn, r_return, r_throw, r_ifnn_r, r_ifnn_n, r_objInit, r_tsw, r_ghost, r_lawret, r_rv, r_rv0, qs_0, qs_1, qs_2, qs_3, qs_4, qs_5, qs_6, q_max, q_min, if_true, if_false, and_self, and_true, true_and, and_false, false_and, not_true_eq_false, not_false_eq_true, or_true, true_or, or_false, false_or, eq_self, ne_eq, lit32, ofNat_N, neg_N1, N_add, N_mul, JN_add, NJ_add, J_add, N_lt, N_le, N_eq, N_nat, J_lt, J_le, J_eq, JN_lt, NJ_lt, JN_le, NJ_le, JN_eq, NJ_eq, J_nat, lt_tt, lt_ff, le_tt, le_ff, eqn_ff, ilt_tt, ilt_ff, ile_tt, ile_ff, ieq_ff, gI_sI, gI_sL, gL_sI, gL_sL, gR_sI, gR_sL, Nat.reduceEqDiff, qI_56, qP_56, qV0_56, qV1_56, qV2_56, qV3_56, qV4_56, q_56_0, q_56_9, q_56_10, q_56_11, q_56_1, q_56_2, q_56_3, q_56_4, q_56_5, q_56_6, q_56_7, q_56_12, qR_56_12, qI_57, qP_57, qV0_57, qV1_57, qV2_57, qV3_57, qV4_57, q_57_0, q_57_1, q_57_2, q_57_8, q_57_9, qA_58, qS_58, qc_58, qp_58, qf_58, qA_59, qS_59, qc_59, qp_59, qf_59, qA_60, qS_60, qc_60, qp_60, qf_60, qA_61, qS_61, qc_61, qp_61, qf_61, qA_62, qS_62, qc_62, qp_62, qf_62, qA_63, qS_63, qc_63, qp_63, qf_63, qA_64, qS_64, qc_64, qp_64, qf_64, qA_65, qS_65, qc_65, qp_65, qf_65, qA_66, qS_66, qc_66, qp_66, qf_66, qA_67, qS_67, qc_67, qp_67, qf_67, qA_68, qS_68, qc_68, qp_68, qf_68, qA_69, qS_69, qc_69, qp_69, qf_69, qA_70, qS_70, qc_70, qp_70, qf_70, qA_71, qS_71, qc_71, qp_71, qf_71]
set_option maxHeartbeats 2000000 in
theorem low_spec {a : Nat} (h0 : a ≠ 0) (h1 : a < 4096) : low12 a < 12 ∧ a.testBit (low12 a) = true ∧ ∀ j, j < low12 a → a.testBit j = false := by
  unfold low12
  cases hf : fnd (fun k => a.testBit k) 12 0 with
  | some k =>
    obtain ⟨-, x2, x3⟩ := fnd_some 12 0 k hf
    refine ⟨by simpa using x2, x3, ?_⟩
    have : ∀ m i k, fnd (fun k => a.testBit k) m i = some k → ∀ j, i ≤ j → j < k → a.testBit j = false := by
      intro m
      induction m with
      | zero => intro i k h; cases h
      | succ m ih =>
        intro i k h j h1 h2
        unfold fnd at h
        by_cases c : a.testBit i = true
        · rw [if_pos c] at h; cases h; omega
        · rw [if_neg c] at h
          by_cases e : j = i
          · rw [e]; simpa using c
          · exact ih (i + 1) k h j (by omega) h2
    exact fun j hj => this 12 0 k hf j (Nat.zero_le _) hj
  | none =>
    exfalso
    have hn := fnd_none 12 0 hf
    apply h0
    apply Nat.eq_of_testBit_eq
    intro j
    rw [Nat.zero_testBit]
    by_cases c : j < 12
    · exact hn j (by omega) (by omega)
    · exact Nat.testBit_lt_two_pow (Nat.lt_of_lt_of_le h1 (Nat.pow_le_pow_right (n := 2) (by decide) (show 12 ≤ j by omega)))
set_option maxHeartbeats 2000000 in
theorem c_first' {a : Nat} (h0 : a ≠ 0) (h1 : a < 4096) (h : AH) : mX8_firstOf [.int (N a)] h = some (.inl (some (.int (N (low12 a)))), h) := by
  obtain ⟨l1, l2, l3⟩ := low_spec h0 h1
  have key : ∀ d i, i + d = low12 a → ∀ fu, d < fu → fX8_firstOf_2 fu [some (.int (N a)), some (.int (N i))] [] h = some (.inl (some (.int (N (low12 a)))), h) := by
    intro d
    induction d with
    | zero =>
      intro i hi fu hfu
      obtain ⟨f0, rfl⟩ : ∃ f0, fu = f0 + 1 := ⟨fu - 1, by omega⟩
      have : i = low12 a := by omega
      have hb := bit_0 (N a) (k := i) (by omega)
      rw [bt_N (by omega), this, l2] at hb
      have hb : (N a >>> (N (low12 a) &&& N 31) &&& N 1 = N 0) = False := by rw [hb]; exact eq_false (by decide)
      rw [this, e_X8_firstOf_2]
      simp (disch := first | with_reducible assumption | exact Nat.le_of_ble_eq_true rfl | (simp only [WF_sI, WF_sL, WF_stR, WF_cpI]; with_reducible assumption) | omega | rfl | (show okF _ = true; decide)) only [r_push, r_iload_0, r_aload_0, r_lload_0, r_iload_1, r_aload_1, r_lload_1, r_iload_2, r_aload_2, r_lload_2, r_iload_3, r_aload_3, r_lload_3, r_iload_4, r_aload_4, r_lload_4, r_iload_5, r_aload_5, r_lload_5, r_iload_6, r_aload_6, r_lload_6, r_iload_7, r_aload_7, r_lload_7, r_iload_8, r_aload_8, r_lload_8, r_istore_00, r_astore_00, r_iinc_00, r_lstore_00, r_istore_1i, r_astore_1i, r_iinc_1i, r_lstore_1i, r_istore_1r, r_astore_1r, r_iinc_1r, r_lstore_1r, r_istore_1n, r_astore_1n, r_iinc_1n, r_lstore_1n, r_istore_1z, r_astore_1z, r_iinc_1z, r_lstore_1z, r_istore_2i, r_astore_2i, r_iinc_2i, r_lstore_2i, r_istore_2r, r_astore_2r, r_iinc_2r, r_lstore_2r, r_istore_2n, r_astore_2n, r_iinc_2n, r_lstore_2n, r_istore_2z, r_astore_2z, r_iinc_2z, r_lstore_2z, r_istore_3i, r_astore_3i, r_iinc_3i, r_lstore_3i, r_istore_3r, r_astore_3r, r_iinc_3r, r_lstore_3r, r_istore_3n, r_astore_3n, r_iinc_3n, r_lstore_3n, r_istore_3z, r_astore_3z, r_iinc_3z, r_lstore_3z, r_istore_4i, r_astore_4i, r_iinc_4i, r_lstore_4i, r_istore_4r, r_astore_4r, r_iinc_4r, r_lstore_4r, r_istore_4n, r_astore_4n, r_iinc_4n, r_lstore_4n, r_istore_4z, r_astore_4z, r_iinc_4z, r_lstore_4z, r_istore_5i, r_astore_5i, r_iinc_5i, r_lstore_5i, r_istore_5r, r_astore_5r, r_iinc_5r, r_lstore_5r, r_istore_5n, r_astore_5n, r_iinc_5n, r_lstore_5n, r_istore_5z, r_astore_5z, r_iinc_5z, r_lstore_5z, r_istore_6i, r_astore_6i, r_iinc_6i, r_lstore_6i, r_istore_6r, r_astore_6r, r_iinc_6r, r_lstore_6r, r_istore_6n, r_astore_6n, r_iinc_6n, r_lstore_6n, r_istore_6z, r_astore_6z, r_iinc_6z, r_lstore_6z, r_istore_7i, r_astore_7i, r_iinc_7i, r_lstore_7i, r_istore_7r, r_astore_7r, r_iinc_7r, r_lstore_7r, r_istore_7n, r_astore_7n, r_iinc_7n, r_lstore_7n, r_istore_7z, r_astore_7z, r_iinc_7z, r_lstore_7z, r_istore_8i, r_astore_8i, r_iinc_8i, r_istore_8r, r_astore_8r, r_iinc_8r, r_istore_8n, r_astore_8n, r_iinc_8n, r_istore_8z, r_astore_8z, r_iinc_8z, r_bin, r_lbin, r_div, r_ineg, r_i2l, r_i2b, r_i2c, r_lcmp, r_dup_i, r_dup_r, r_pop_i, r_pop_r, r_dup2, r_ifeq, r_iceq, r_iflt, r_iclt, r_ifge, r_icge, r_ifgt, r_icgt, r_ifle, r_icle, r_ifne, r_icne, r_putR, cs_nil, cs_int, cs_ref, cs_null, cs_long, r_aft_n, r_aft_v, r_aft_x, r_aftN_n, r_aftN_v, r_ireturn, r_zreturn, r_creturn, r_breturn, r_areturn, r_return, r_throw, r_ifnn_r, r_ifnn_n, r_objInit, r_tsw, r_ghost, r_lawret, r_rv, r_rv0, qs_0, qs_1, qs_2, qs_3, qs_4, qs_5, qs_6, q_max, q_min, if_true, if_false, and_self, and_true, true_and, and_false, false_and, not_true_eq_false, not_false_eq_true, or_true, true_or, or_false, false_or, eq_self, ne_eq, lit32, ofNat_N, neg_N1, N_add, N_mul, JN_add, NJ_add, J_add, N_lt, N_le, N_eq, N_nat, J_lt, J_le, J_eq, JN_lt, NJ_lt, JN_le, NJ_le, JN_eq, NJ_eq, J_nat, lt_tt, lt_ff, le_tt, le_ff, eqn_ff, ilt_tt, ilt_ff, ile_tt, ile_ff, ieq_ff, gI_sI, gI_sL, gL_sI, gL_sL, gR_sI, gR_sL, Nat.reduceEqDiff, e_X8_firstOf_22, hb]
    | succ d ih =>
      intro i hi fu hfu
      obtain ⟨f0, rfl⟩ : ∃ f0, fu = f0 + 1 := ⟨fu - 1, by omega⟩
      have hb := bit_0 (N a) (k := i) (by omega)
      rw [bt_N (by omega), l3 i (by omega)] at hb
      have hb : (N a >>> (N i &&& N 31) &&& N 1 = N 0) = True := by rw [hb]; exact eq_true rfl
      rw [← ih (i + 1) (by omega) f0 (by omega), e_X8_firstOf_2]
      simp (disch := first | with_reducible assumption | exact Nat.le_of_ble_eq_true rfl | (simp only [WF_sI, WF_sL, WF_stR, WF_cpI]; with_reducible assumption) | omega | rfl | (show okF _ = true; decide)) only [r_push, r_iload_0, r_aload_0, r_lload_0, r_iload_1, r_aload_1, r_lload_1, r_iload_2, r_aload_2, r_lload_2, r_iload_3, r_aload_3, r_lload_3, r_iload_4, r_aload_4, r_lload_4, r_iload_5, r_aload_5, r_lload_5, r_iload_6, r_aload_6, r_lload_6, r_iload_7, r_aload_7, r_lload_7, r_iload_8, r_aload_8, r_lload_8, r_istore_00, r_astore_00, r_iinc_00, r_lstore_00, r_istore_1i, r_astore_1i, r_iinc_1i, r_lstore_1i, r_istore_1r, r_astore_1r, r_iinc_1r, r_lstore_1r, r_istore_1n, r_astore_1n, r_iinc_1n, r_lstore_1n, r_istore_1z, r_astore_1z, r_iinc_1z, r_lstore_1z, r_istore_2i, r_astore_2i, r_iinc_2i, r_lstore_2i, r_istore_2r, r_astore_2r, r_iinc_2r, r_lstore_2r, r_istore_2n, r_astore_2n, r_iinc_2n, r_lstore_2n, r_istore_2z, r_astore_2z, r_iinc_2z, r_lstore_2z, r_istore_3i, r_astore_3i, r_iinc_3i, r_lstore_3i, r_istore_3r, r_astore_3r, r_iinc_3r, r_lstore_3r, r_istore_3n, r_astore_3n, r_iinc_3n, r_lstore_3n, r_istore_3z, r_astore_3z, r_iinc_3z, r_lstore_3z, r_istore_4i, r_astore_4i, r_iinc_4i, r_lstore_4i, r_istore_4r, r_astore_4r, r_iinc_4r, r_lstore_4r, r_istore_4n, r_astore_4n, r_iinc_4n, r_lstore_4n, r_istore_4z, r_astore_4z, r_iinc_4z, r_lstore_4z, r_istore_5i, r_astore_5i, r_iinc_5i, r_lstore_5i, r_istore_5r, r_astore_5r, r_iinc_5r, r_lstore_5r, r_istore_5n, r_astore_5n, r_iinc_5n, r_lstore_5n, r_istore_5z, r_astore_5z, r_iinc_5z, r_lstore_5z, r_istore_6i, r_astore_6i, r_iinc_6i, r_lstore_6i, r_istore_6r, r_astore_6r, r_iinc_6r, r_lstore_6r, r_istore_6n, r_astore_6n, r_iinc_6n, r_lstore_6n, r_istore_6z, r_astore_6z, r_iinc_6z, r_lstore_6z, r_istore_7i, r_astore_7i, r_iinc_7i, r_lstore_7i, r_istore_7r, r_astore_7r, r_iinc_7r, r_lstore_7r, r_istore_7n, r_astore_7n, r_iinc_7n, r_lstore_7n, r_istore_7z, r_astore_7z, r_iinc_7z, r_lstore_7z, r_istore_8i, r_astore_8i, r_iinc_8i, r_istore_8r, r_astore_8r, r_iinc_8r, r_istore_8n, r_astore_8n, r_iinc_8n, r_istore_8z, r_astore_8z, r_iinc_8z, r_bin, r_lbin, r_div, r_ineg, r_i2l, r_i2b, r_i2c, r_lcmp, r_dup_i, r_dup_r, r_pop_i, r_pop_r, r_dup2, r_ifeq, r_iceq, r_iflt, r_iclt, r_ifge, r_icge, r_ifgt, r_icgt, r_ifle, r_icle, r_ifne, r_icne, r_putR, cs_nil, cs_int, cs_ref, cs_null, cs_long, r_aft_n, r_aft_v, r_aft_x, r_aftN_n, r_aftN_v, r_ireturn, r_zreturn, r_creturn, r_breturn, r_areturn, r_return, r_throw, r_ifnn_r, r_ifnn_n, r_objInit, r_tsw, r_ghost, r_lawret, r_rv, r_rv0, qs_0, qs_1, qs_2, qs_3, qs_4, qs_5, qs_6, q_max, q_min, if_true, if_false, and_self, and_true, true_and, and_false, false_and, not_true_eq_false, not_false_eq_true, or_true, true_or, or_false, false_or, eq_self, ne_eq, lit32, ofNat_N, neg_N1, N_add, N_mul, JN_add, NJ_add, J_add, N_lt, N_le, N_eq, N_nat, J_lt, J_le, J_eq, JN_lt, NJ_lt, JN_le, NJ_le, JN_eq, NJ_eq, J_nat, lt_tt, lt_ff, le_tt, le_ff, eqn_ff, ilt_tt, ilt_ff, ile_tt, ile_ff, ieq_ff, gI_sI, gI_sL, gL_sI, gL_sL, gR_sI, gR_sL, Nat.reduceEqDiff, e_X8_firstOf_22, hb]
  rw [u_X8_firstOf, e_X8_firstOf_0, ← key (low12 a) 0 (by omega) fuelN (by unfold fuelN; omega)]
  simp (disch := first | with_reducible assumption | exact Nat.le_of_ble_eq_true rfl | (simp only [WF_sI, WF_sL, WF_stR, WF_cpI]; with_reducible assumption) | omega | rfl | (show okF _ = true; decide)) only [r_push, r_iload_0, r_aload_0, r_lload_0, r_iload_1, r_aload_1, r_lload_1, r_iload_2, r_aload_2, r_lload_2, r_iload_3, r_aload_3, r_lload_3, r_iload_4, r_aload_4, r_lload_4, r_iload_5, r_aload_5, r_lload_5, r_iload_6, r_aload_6, r_lload_6, r_iload_7, r_aload_7, r_lload_7, r_iload_8, r_aload_8, r_lload_8, r_istore_00, r_astore_00, r_iinc_00, r_lstore_00, r_istore_1i, r_astore_1i, r_iinc_1i, r_lstore_1i, r_istore_1r, r_astore_1r, r_iinc_1r, r_lstore_1r, r_istore_1n, r_astore_1n, r_iinc_1n, r_lstore_1n, r_istore_1z, r_astore_1z, r_iinc_1z, r_lstore_1z, r_istore_2i, r_astore_2i, r_iinc_2i, r_lstore_2i, r_istore_2r, r_astore_2r, r_iinc_2r, r_lstore_2r, r_istore_2n, r_astore_2n, r_iinc_2n, r_lstore_2n, r_istore_2z, r_astore_2z, r_iinc_2z, r_lstore_2z, r_istore_3i, r_astore_3i, r_iinc_3i, r_lstore_3i, r_istore_3r, r_astore_3r, r_iinc_3r, r_lstore_3r, r_istore_3n, r_astore_3n, r_iinc_3n, r_lstore_3n, r_istore_3z, r_astore_3z, r_iinc_3z, r_lstore_3z, r_istore_4i, r_astore_4i, r_iinc_4i, r_lstore_4i, r_istore_4r, r_astore_4r, r_iinc_4r, r_lstore_4r, r_istore_4n, r_astore_4n, r_iinc_4n, r_lstore_4n, r_istore_4z, r_astore_4z, r_iinc_4z, r_lstore_4z, r_istore_5i, r_astore_5i, r_iinc_5i, r_lstore_5i, r_istore_5r, r_astore_5r, r_iinc_5r, r_lstore_5r, r_istore_5n, r_astore_5n, r_iinc_5n, r_lstore_5n, r_istore_5z, r_astore_5z, r_iinc_5z, r_lstore_5z, r_istore_6i, r_astore_6i, r_iinc_6i, r_lstore_6i, r_istore_6r, r_astore_6r, r_iinc_6r, r_lstore_6r, r_istore_6n, r_astore_6n, r_iinc_6n, r_lstore_6n, r_istore_6z, r_astore_6z, r_iinc_6z, r_lstore_6z, r_istore_7i, r_astore_7i, r_iinc_7i, r_lstore_7i, r_istore_7r, r_astore_7r, r_iinc_7r, r_lstore_7r, r_istore_7n, r_astore_7n, r_iinc_7n, r_lstore_7n, r_istore_7z, r_astore_7z, r_iinc_7z, r_lstore_7z, r_istore_8i, r_astore_8i, r_iinc_8i, r_istore_8r, r_astore_8r, r_iinc_8r, r_istore_8n, r_astore_8n, r_iinc_8n, r_istore_8z, r_astore_8z, r_iinc_8z, r_bin, r_lbin, r_div, r_ineg, r_i2l, r_i2b, r_i2c, r_lcmp, r_dup_i, r_dup_r, r_pop_i, r_pop_r, r_dup2, r_ifeq, r_iceq, r_iflt, r_iclt, r_ifge, r_icge, r_ifgt, r_icgt, r_ifle, r_icle, r_ifne, r_icne, r_putR, cs_nil, cs_int, cs_ref, cs_null, cs_long, r_aft_n, r_aft_v, r_aft_x, r_aftN_n, r_aftN_v, r_ireturn, r_zreturn, r_creturn, r_breturn, r_areturn, r_return, r_throw, r_ifnn_r, r_ifnn_n, r_objInit, r_tsw, r_ghost, r_lawret, r_rv, r_rv0, qs_0, qs_1, qs_2, qs_3, qs_4, qs_5, qs_6, q_max, q_min, if_true, if_false, and_self, and_true, true_and, and_false, false_and, not_true_eq_false, not_false_eq_true, or_true, true_or, or_false, false_or, eq_self, ne_eq, lit32, ofNat_N, neg_N1, N_add, N_mul, JN_add, NJ_add, J_add, N_lt, N_le, N_eq, N_nat, J_lt, J_le, J_eq, JN_lt, NJ_lt, JN_le, NJ_le, JN_eq, NJ_eq, J_nat, lt_tt, lt_ff, le_tt, le_ff, eqn_ff, ilt_tt, ilt_ff, ile_tt, ile_ff, ieq_ff, gI_sI, gI_sL, gL_sI, gL_sL, gR_sI, gR_sL, Nat.reduceEqDiff]
set_option maxHeartbeats 2000000 in
theorem m_lowest {a : Nat} (h0 : a ≠ 0) (h1 : a < 4096) (h : AH) : mX12_lowest [.int (N a)] h = some (.inl (some (.int (N (low12 a)))), h) := by
  obtain ⟨l1, l2, l3⟩ := low_spec h0 h1
  have key : ∀ d i, i + d = low12 a → ∀ fu, d < fu → fX12_lowest_2 fu [some (.int (N a)), some (.int (N i))] [] h = some (.inl (some (.int (N (low12 a)))), h) := by
    intro d
    induction d with
    | zero =>
      intro i hi fu hfu
      obtain ⟨f0, rfl⟩ : ∃ f0, fu = f0 + 1 := ⟨fu - 1, by omega⟩
      have : i = low12 a := by omega
      have hb := m_has (x := N a) (k := i) (by omega) h
      rw [bt_N (by omega), this, l2, bi_t] at hb
      rw [this, e_X12_lowest_2]
      simp (disch := first | with_reducible assumption | exact Nat.le_of_ble_eq_true rfl | (simp only [WF_sI, WF_sL, WF_stR, WF_cpI]; with_reducible assumption) | omega | rfl | (show okF _ = true; decide)) only [r_push, r_iload_0, r_aload_0, r_lload_0, r_iload_1, r_aload_1, r_lload_1, r_iload_2, r_aload_2, r_lload_2, r_iload_3, r_aload_3, r_lload_3, r_iload_4, r_aload_4, r_lload_4, r_iload_5, r_aload_5, r_lload_5, r_iload_6, r_aload_6, r_lload_6, r_iload_7, r_aload_7, r_lload_7, r_iload_8, r_aload_8, r_lload_8, r_istore_00, r_astore_00, r_iinc_00, r_lstore_00, r_istore_1i, r_astore_1i, r_iinc_1i, r_lstore_1i, r_istore_1r, r_astore_1r, r_iinc_1r, r_lstore_1r, r_istore_1n, r_astore_1n, r_iinc_1n, r_lstore_1n, r_istore_1z, r_astore_1z, r_iinc_1z, r_lstore_1z, r_istore_2i, r_astore_2i, r_iinc_2i, r_lstore_2i, r_istore_2r, r_astore_2r, r_iinc_2r, r_lstore_2r, r_istore_2n, r_astore_2n, r_iinc_2n, r_lstore_2n, r_istore_2z, r_astore_2z, r_iinc_2z, r_lstore_2z, r_istore_3i, r_astore_3i, r_iinc_3i, r_lstore_3i, r_istore_3r, r_astore_3r, r_iinc_3r, r_lstore_3r, r_istore_3n, r_astore_3n, r_iinc_3n, r_lstore_3n, r_istore_3z, r_astore_3z, r_iinc_3z, r_lstore_3z, r_istore_4i, r_astore_4i, r_iinc_4i, r_lstore_4i, r_istore_4r, r_astore_4r, r_iinc_4r, r_lstore_4r, r_istore_4n, r_astore_4n, r_iinc_4n, r_lstore_4n, r_istore_4z, r_astore_4z, r_iinc_4z, r_lstore_4z, r_istore_5i, r_astore_5i, r_iinc_5i, r_lstore_5i, r_istore_5r, r_astore_5r, r_iinc_5r, r_lstore_5r, r_istore_5n, r_astore_5n, r_iinc_5n, r_lstore_5n, r_istore_5z, r_astore_5z, r_iinc_5z, r_lstore_5z, r_istore_6i, r_astore_6i, r_iinc_6i, r_lstore_6i, r_istore_6r, r_astore_6r, r_iinc_6r, r_lstore_6r, r_istore_6n, r_astore_6n, r_iinc_6n, r_lstore_6n, r_istore_6z, r_astore_6z, r_iinc_6z, r_lstore_6z, r_istore_7i, r_astore_7i, r_iinc_7i, r_lstore_7i, r_istore_7r, r_astore_7r, r_iinc_7r, r_lstore_7r, r_istore_7n, r_astore_7n, r_iinc_7n, r_lstore_7n, r_istore_7z, r_astore_7z, r_iinc_7z, r_lstore_7z, r_istore_8i, r_astore_8i, r_iinc_8i, r_istore_8r, r_astore_8r, r_iinc_8r, r_istore_8n, r_astore_8n, r_iinc_8n, r_istore_8z, r_astore_8z, r_iinc_8z, r_bin, r_lbin, r_div, r_ineg, r_i2l, r_i2b, r_i2c, r_lcmp, r_dup_i, r_dup_r, r_pop_i, r_pop_r, r_dup2, r_ifeq, r_iceq, r_iflt, r_iclt, r_ifge, r_icge, r_ifgt, r_icgt, r_ifle, r_icle, r_ifne, r_icne, r_putR, cs_nil, cs_int, cs_ref, cs_null, cs_long, r_aft_n, r_aft_v, r_aft_x, r_aftN_n, r_aftN_v, r_ireturn, r_zreturn, r_creturn, r_breturn, r_areturn, r_return, r_throw, r_ifnn_r, r_ifnn_n, r_objInit, r_tsw, r_ghost, r_lawret, r_rv, r_rv0, qs_0, qs_1, qs_2, qs_3, qs_4, qs_5, qs_6, q_max, q_min, if_true, if_false, and_self, and_true, true_and, and_false, false_and, not_true_eq_false, not_false_eq_true, or_true, true_or, or_false, false_or, eq_self, ne_eq, lit32, ofNat_N, neg_N1, N_add, N_mul, JN_add, NJ_add, J_add, N_lt, N_le, N_eq, N_nat, J_lt, J_le, J_eq, JN_lt, NJ_lt, JN_le, NJ_le, JN_eq, NJ_eq, J_nat, lt_tt, lt_ff, le_tt, le_ff, eqn_ff, ilt_tt, ilt_ff, ile_tt, ile_ff, ieq_ff, gI_sI, gI_sL, gL_sI, gL_sL, gR_sI, gR_sL, Nat.reduceEqDiff, hb]
    | succ d ih =>
      intro i hi fu hfu
      obtain ⟨f0, rfl⟩ : ∃ f0, fu = f0 + 1 := ⟨fu - 1, by omega⟩
      have hb := m_has (x := N a) (k := i) (by omega) h
      rw [bt_N (by omega), l3 i (by omega), bi_f] at hb
      rw [← ih (i + 1) (by omega) f0 (by omega), e_X12_lowest_2]
      simp (disch := first | with_reducible assumption | exact Nat.le_of_ble_eq_true rfl | (simp only [WF_sI, WF_sL, WF_stR, WF_cpI]; with_reducible assumption) | omega | rfl | (show okF _ = true; decide)) only [r_push, r_iload_0, r_aload_0, r_lload_0, r_iload_1, r_aload_1, r_lload_1, r_iload_2, r_aload_2, r_lload_2, r_iload_3, r_aload_3, r_lload_3, r_iload_4, r_aload_4, r_lload_4, r_iload_5, r_aload_5, r_lload_5, r_iload_6, r_aload_6, r_lload_6, r_iload_7, r_aload_7, r_lload_7, r_iload_8, r_aload_8, r_lload_8, r_istore_00, r_astore_00, r_iinc_00, r_lstore_00, r_istore_1i, r_astore_1i, r_iinc_1i, r_lstore_1i, r_istore_1r, r_astore_1r, r_iinc_1r, r_lstore_1r, r_istore_1n, r_astore_1n, r_iinc_1n, r_lstore_1n, r_istore_1z, r_astore_1z, r_iinc_1z, r_lstore_1z, r_istore_2i, r_astore_2i, r_iinc_2i, r_lstore_2i, r_istore_2r, r_astore_2r, r_iinc_2r, r_lstore_2r, r_istore_2n, r_astore_2n, r_iinc_2n, r_lstore_2n, r_istore_2z, r_astore_2z, r_iinc_2z, r_lstore_2z, r_istore_3i, r_astore_3i, r_iinc_3i, r_lstore_3i, r_istore_3r, r_astore_3r, r_iinc_3r, r_lstore_3r, r_istore_3n, r_astore_3n, r_iinc_3n, r_lstore_3n, r_istore_3z, r_astore_3z, r_iinc_3z, r_lstore_3z, r_istore_4i, r_astore_4i, r_iinc_4i, r_lstore_4i, r_istore_4r, r_astore_4r, r_iinc_4r, r_lstore_4r, r_istore_4n, r_astore_4n, r_iinc_4n, r_lstore_4n, r_istore_4z, r_astore_4z, r_iinc_4z, r_lstore_4z, r_istore_5i, r_astore_5i, r_iinc_5i, r_lstore_5i, r_istore_5r, r_astore_5r, r_iinc_5r, r_lstore_5r, r_istore_5n, r_astore_5n, r_iinc_5n, r_lstore_5n, r_istore_5z, r_astore_5z, r_iinc_5z, r_lstore_5z, r_istore_6i, r_astore_6i, r_iinc_6i, r_lstore_6i, r_istore_6r, r_astore_6r, r_iinc_6r, r_lstore_6r, r_istore_6n, r_astore_6n, r_iinc_6n, r_lstore_6n, r_istore_6z, r_astore_6z, r_iinc_6z, r_lstore_6z, r_istore_7i, r_astore_7i, r_iinc_7i, r_lstore_7i, r_istore_7r, r_astore_7r, r_iinc_7r, r_lstore_7r, r_istore_7n, r_astore_7n, r_iinc_7n, r_lstore_7n, r_istore_7z, r_astore_7z, r_iinc_7z, r_lstore_7z, r_istore_8i, r_astore_8i, r_iinc_8i, r_istore_8r, r_astore_8r, r_iinc_8r, r_istore_8n, r_astore_8n, r_iinc_8n, r_istore_8z, r_astore_8z, r_iinc_8z, r_bin, r_lbin, r_div, r_ineg, r_i2l, r_i2b, r_i2c, r_lcmp, r_dup_i, r_dup_r, r_pop_i, r_pop_r, r_dup2, r_ifeq, r_iceq, r_iflt, r_iclt, r_ifge, r_icge, r_ifgt, r_icgt, r_ifle, r_icle, r_ifne, r_icne, r_putR, cs_nil, cs_int, cs_ref, cs_null, cs_long, r_aft_n, r_aft_v, r_aft_x, r_aftN_n, r_aftN_v, r_ireturn, r_zreturn, r_creturn, r_breturn, r_areturn, r_return, r_throw, r_ifnn_r, r_ifnn_n, r_objInit, r_tsw, r_ghost, r_lawret, r_rv, r_rv0, qs_0, qs_1, qs_2, qs_3, qs_4, qs_5, qs_6, q_max, q_min, if_true, if_false, and_self, and_true, true_and, and_false, false_and, not_true_eq_false, not_false_eq_true, or_true, true_or, or_false, false_or, eq_self, ne_eq, lit32, ofNat_N, neg_N1, N_add, N_mul, JN_add, NJ_add, J_add, N_lt, N_le, N_eq, N_nat, J_lt, J_le, J_eq, JN_lt, NJ_lt, JN_le, NJ_le, JN_eq, NJ_eq, J_nat, lt_tt, lt_ff, le_tt, le_ff, eqn_ff, ilt_tt, ilt_ff, ile_tt, ile_ff, ieq_ff, gI_sI, gI_sL, gL_sI, gL_sL, gR_sI, gR_sL, Nat.reduceEqDiff, hb]
  rw [u_X12_lowest, e_X12_lowest_0, ← key (low12 a) 0 (by omega) fuelN (by unfold fuelN; omega)]
  simp (disch := first | with_reducible assumption | exact Nat.le_of_ble_eq_true rfl | (simp only [WF_sI, WF_sL, WF_stR, WF_cpI]; with_reducible assumption) | omega | rfl | (show okF _ = true; decide)) only [r_push, r_iload_0, r_aload_0, r_lload_0, r_iload_1, r_aload_1, r_lload_1, r_iload_2, r_aload_2, r_lload_2, r_iload_3, r_aload_3, r_lload_3, r_iload_4, r_aload_4, r_lload_4, r_iload_5, r_aload_5, r_lload_5, r_iload_6, r_aload_6, r_lload_6, r_iload_7, r_aload_7, r_lload_7, r_iload_8, r_aload_8, r_lload_8, r_istore_00, r_astore_00, r_iinc_00, r_lstore_00, r_istore_1i, r_astore_1i, r_iinc_1i, r_lstore_1i, r_istore_1r, r_astore_1r, r_iinc_1r, r_lstore_1r, r_istore_1n, r_astore_1n, r_iinc_1n, r_lstore_1n, r_istore_1z, r_astore_1z, r_iinc_1z, r_lstore_1z, r_istore_2i, r_astore_2i, r_iinc_2i, r_lstore_2i, r_istore_2r, r_astore_2r, r_iinc_2r, r_lstore_2r, r_istore_2n, r_astore_2n, r_iinc_2n, r_lstore_2n, r_istore_2z, r_astore_2z, r_iinc_2z, r_lstore_2z, r_istore_3i, r_astore_3i, r_iinc_3i, r_lstore_3i, r_istore_3r, r_astore_3r, r_iinc_3r, r_lstore_3r, r_istore_3n, r_astore_3n, r_iinc_3n, r_lstore_3n, r_istore_3z, r_astore_3z, r_iinc_3z, r_lstore_3z, r_istore_4i, r_astore_4i, r_iinc_4i, r_lstore_4i, r_istore_4r, r_astore_4r, r_iinc_4r, r_lstore_4r, r_istore_4n, r_astore_4n, r_iinc_4n, r_lstore_4n, r_istore_4z, r_astore_4z, r_iinc_4z, r_lstore_4z, r_istore_5i, r_astore_5i, r_iinc_5i, r_lstore_5i, r_istore_5r, r_astore_5r, r_iinc_5r, r_lstore_5r, r_istore_5n, r_astore_5n, r_iinc_5n, r_lstore_5n, r_istore_5z, r_astore_5z, r_iinc_5z, r_lstore_5z, r_istore_6i, r_astore_6i, r_iinc_6i, r_lstore_6i, r_istore_6r, r_astore_6r, r_iinc_6r, r_lstore_6r, r_istore_6n, r_astore_6n, r_iinc_6n, r_lstore_6n, r_istore_6z, r_astore_6z, r_iinc_6z, r_lstore_6z, r_istore_7i, r_astore_7i, r_iinc_7i, r_lstore_7i, r_istore_7r, r_astore_7r, r_iinc_7r, r_lstore_7r, r_istore_7n, r_astore_7n, r_iinc_7n, r_lstore_7n, r_istore_7z, r_astore_7z, r_iinc_7z, r_lstore_7z, r_istore_8i, r_astore_8i, r_iinc_8i, r_istore_8r, r_astore_8r, r_iinc_8r, r_istore_8n, r_astore_8n, r_iinc_8n, r_istore_8z, r_astore_8z, r_iinc_8z, r_bin, r_lbin, r_div, r_ineg, r_i2l, r_i2b, r_i2c, r_lcmp, r_dup_i, r_dup_r, r_pop_i, r_pop_r, r_dup2, r_ifeq, r_iceq, r_iflt, r_iclt, r_ifge, r_icge, r_ifgt, r_icgt, r_ifle, r_icle, r_ifne, r_icne, r_putR, cs_nil, cs_int, cs_ref, cs_null, cs_long, r_aft_n, r_aft_v, r_aft_x, r_aftN_n, r_aftN_v, r_ireturn, r_zreturn, r_creturn, r_breturn, r_areturn, r_return, r_throw, r_ifnn_r, r_ifnn_n, r_objInit, r_tsw, r_ghost, r_lawret, r_rv, r_rv0, qs_0, qs_1, qs_2, qs_3, qs_4, qs_5, qs_6, q_max, q_min, if_true, if_false, and_self, and_true, true_and, and_false, false_and, not_true_eq_false, not_false_eq_true, or_true, true_or, or_false, false_or, eq_self, ne_eq, lit32, ofNat_N, neg_N1, N_add, N_mul, JN_add, NJ_add, J_add, N_lt, N_le, N_eq, N_nat, J_lt, J_le, J_eq, JN_lt, NJ_lt, JN_le, NJ_le, JN_eq, NJ_eq, J_nat, lt_tt, lt_ff, le_tt, le_ff, eqn_ff, ilt_tt, ilt_ff, ile_tt, ile_ff, ieq_ff, gI_sI, gI_sL, gL_sI, gL_sL, gR_sI, gR_sL, Nat.reduceEqDiff]
