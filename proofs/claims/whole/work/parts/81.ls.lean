/-! statement by statement -/
def hdL : List (Nat × Nat × Nat) := [(0, 2, 2), (0, 3, 3), (0, 4, 4), (0, 5, 5), (0, 6, 1), (0, 7, 8), (0, 8, 9), (0, 9, 10), (1, 0, 6), (5, 0, 7)]
def HC (b : Nat) (β : BD) (h : AH) : Prop := ∀ p ∈ hdL, gI h (b + p.1) p.2.1 = N (β 0 p.2.2)
set_option maxHeartbeats 2000000 in
theorem hdL_inj : ∀ p ∈ hdL, ∀ q ∈ hdL, (p.2.2 = q.2.2 ↔ (p.1 = q.1 ∧ p.2.1 = q.2.1)) := by decide
set_option maxHeartbeats 2000000 in
theorem hdL_lt : ∀ p ∈ hdL, p.1 < 6 := by decide
set_option maxHeartbeats 2000000 in
theorem rC_lt : ∀ p ∈ rC, p.2 < 21 := by decide
set_option maxHeartbeats 2000000 in
theorem HC.upd {b : Nat} {β : BD} {h : AH} (r : HC b β h) {j k i v : Nat} (hp : (j, k, i) ∈ hdL) : HC b (ub β 0 i v) (sI h (b + j) k (N v)) := by
  intro p hpp
  have := hdL_inj p hpp _ hp
  dsimp only at this
  by_cases e : p.2.2 = i
  · obtain ⟨e1, e2⟩ := this.mp e
    rw [e1, e2, e, gI_eq, ub_eq]
  · rw [ub_nk e, gI_sI, if_neg (fun z => e (this.mpr ⟨by have := z.1; omega, z.2⟩))]
    exact r p hpp
set_option maxHeartbeats 2000000 in
theorem HC.row {b : Nat} {β : BD} {h : AH} (r : HC b β h) {a k v c m : Nat} {x : Int32} (ha : a ≠ 0) (hc : ∀ j, j < 6 → c ≠ b + j ∨ (j ≠ 0 ∧ j ≠ 1 ∧ j ≠ 5)) : HC b (ub β a k v) (sI h c m x) := by
  have h2 : ∀ p ∈ hdL, p.1 < 6 ∧ ¬ (p.1 ≠ 0 ∧ p.1 ≠ 1 ∧ p.1 ≠ 5) := by decide
  intro p hp
  obtain ⟨p1, p2⟩ := h2 p hp
  rw [ub_ne (fun z => ha z.symm), gI_ne (by
    rcases hc p.1 p1 with z | z
    · exact fun y => z y.symm
    · exact absurd z p2)]
  exact r p hp
set_option maxHeartbeats 2000000 in
theorem HC.oth {b : Nat} {β : BD} {h : AH} (r : HC b β h) {c m : Nat} {x : Int32} (hc : ∀ p ∈ hdL, ¬ (b + p.1 = c ∧ p.2.1 = m)) : HC b β (sI h c m x) := fun p hp => by
  rw [gI_sI, if_neg (hc p hp)]; exact r p hp
set_option maxHeartbeats 2000000 in
theorem HC.ub {b : Nat} {β : BD} {h : AH} (r : HC b β h) {a k v : Nat} (ha : a ≠ 0) : HC b (ub β a k v) h := fun p hp => by
  rw [ub_ne (fun z => ha z.symm)]; exact r p hp
set_option maxHeartbeats 2000000 in
theorem HC.fr {b : Nat} (hb : b = 8 ∨ b = 29) {β : BD} {h h' : AH} {A : List Nat} {Q : List (Nat × Nat)} (r : HC b β h) (f : Fr A Q h h') (ok : okR A Q [b, b + 1, b + 5] [] = true) : HC b β h' := fun p hp => by
  have h2 : ∀ p ∈ hdL, p.1 = 0 ∨ p.1 = 1 ∨ p.1 = 5 := by decide
  have : (b + p.1) ∈ [b, b + 1, b + 5] := by rcases h2 p hp with z | z | z <;> rw [z] <;> simp
  exact (f.row (okR_r ok this) _).trans (r p hp)
set_option maxHeartbeats 2000000 in
theorem RowC.headu {b : Nat} {c : Nat → Nat} {β : BD} {h : AH} (r : RowC b c β h) {i v j k : Nat} {x : Int32} (hj : j = 0 ∨ j = 1 ∨ j = 5) : RowC b c (ub β 0 i v) (sI h (b + j) k x) := by
  have h2 : ∀ p ∈ rC, p.1 ≠ 0 ∧ p.2 ≠ 0 ∧ p.2 ≠ 1 ∧ p.2 ≠ 5 := by decide
  intro p hp m hm
  obtain ⟨a1, a2, a3, a4⟩ := h2 p hp
  rw [VJ_ub (fun z => a1 z.1), gI_ne (by omega)]
  exact r p hp m hm
set_option maxHeartbeats 2000000 in
theorem RowC.oth {b : Nat} {c : Nat → Nat} {β : BD} {h : AH} (r : RowC b c β h) {a k : Nat} {x : Int32} (ha : ∀ p ∈ rC, b + p.2 ≠ a) : RowC b c β (sI h a k x) := fun p hp m hm => by
  rw [gI_ne (ha p hp)]; exact r p hp m hm
/-- the roads' matrix -/
def rm (β : BD) : Nat → Nat → Nat
  | 0, k => if k % 13 = 0 then 0 else 1000000
  | r + 1, k => if k = 12 * β 91 r + β 92 r ∨ k = 12 * β 92 r + β 91 r then Nat.min (rm β r (12 * β 91 r + β 92 r)) (β 93 r) else rm β r k
set_option maxHeartbeats 2000000 in
theorem rm_cong {β β' : BD} : ∀ r, (∀ j, j < r → β' 91 j = β 91 j ∧ β' 92 j = β 92 j ∧ β' 93 j = β 93 j) → rm β' r = rm β r := by
  intro r
  induction r with
  | zero => intro _; rfl
  | succ r ih =>
    intro h
    obtain ⟨a, b, c⟩ := h r (by omega)
    funext k
    unfold rm
    rw [a, b, c, ih (fun j hj => h j (by omega))]
set_option maxHeartbeats 2000000 in
theorem rm_le (β : BD) : ∀ r k, rm β r k ≤ 1000000 := by
  intro r
  induction r with
  | zero => intro k; unfold rm; split <;> omega
  | succ r ih =>
    intro k
    unfold rm
    split
    · exact Nat.le_trans (Nat.min_le_left _ _) (ih _)
    · exact ih k
set_option maxHeartbeats 2000000 in
theorem rm_sym (β : BD) : ∀ r x y, x < 12 → y < 12 → (∀ j, j < r → β 91 j < 12 ∧ β 92 j < 12) → rm β r (12 * x + y) = rm β r (12 * y + x) := by
  intro r
  induction r with
  | zero =>
    intro x y hx hy _
    unfold rm
    have : ((12 * x + y) % 13 = 0) = ((12 * y + x) % 13 = 0) := propext ⟨by omega, by omega⟩
    simp only [this]
  | succ r ih =>
    intro x y hx hy hr
    obtain ⟨r1, r2⟩ := hr r (by omega)
    unfold rm
    by_cases c : 12 * x + y = 12 * β 91 r + β 92 r ∨ 12 * x + y = 12 * β 92 r + β 91 r
    · rw [if_pos c, if_pos (by omega)]
    · rw [if_neg c, if_neg (by omega)]
      exact ih x y hx hy (fun j hj => hr j (by omega))
def RMC (b : Nat) (β : BD) (h : AH) : Prop := ∀ k, k < 144 → gI h (b + 17) k = N (rm β (β 0 3) k)
/-- what has been read is in its ranges -/
def WP (β : BD) : Prop := CB β ∧ ND β ∧ (10 ≤ β 0 1 ∧ β 0 1 ≤ 60 ∧ β 0 8 ≤ 40 ∧ 1 ≤ β 0 9 ∧ β 0 9 ≤ 12 ∧ 1 ≤ β 0 10 ∧ β 0 10 ≤ 12) ∧
  (∀ k, k < β 0 3 → β 91 k < β 0 2 ∧ β 92 k < β 0 2 ∧ 1 ≤ β 93 k ∧ β 93 k ≤ 60) ∧ (∀ s, s < β 0 4 → β 95 s < β 0 2) ∧ (∀ e, e < β 0 5 → β 97 e < 3 ∧ β 98 e < β 0 4) ∧
  (∀ s, s < β 0 6 → β 99 s < β 0 2 ∧ β 100 s ≤ 120 ∧ β 101 s ≤ 3) ∧
  ∀ d, d < β 0 7 → β 103 d < β 0 2 ∧ 1 ≤ β 104 d ∧ β 104 d ≤ 8 ∧ β 106 d ≤ 40 ∧ β 107 d < 2 ^ d ∧ β 108 d ≤ 23 ∧ (∀ k, k < 3 → β 105 (3 * d + k) ≤ 4) ∧ ∃ k, k < 3 ∧ 0 < β 105 (3 * d + k)
def LZ (bs : Nat → Nat) (n K b : Nat) (β : BD) (i : Nat) (sl ho : Bool) (hc hr : AH) : Prop :=
  CR bs n K i hc hr ∧ (gR hc 50 3 = some b ∧ gI hc 50 5 = bi sl ∧ gI hc 50 6 = bi ho ∧ HC b β hc ∧ RowC b (cnt β) β hc ∧ NMC b β hc ∧ RMC b β hc) ∧
  (gI hr 89 47 = bi sl ∧ gI hr 89 48 = bi ho ∧ HdM β hr ∧ RowM (cnt β) β hr) ∧ WP β
def fcS (b : Nat) : List Nat := [50, b, b + 1, b + 2, b + 3, b + 4, b + 5, b + 6, b + 7, b + 8, b + 9, b + 10, b + 11, b + 12, b + 13, b + 14, b + 15, b + 16, b + 17, b + 18, b + 19, b + 20]
def fmA : List Nat := [90, 91, 92, 93, 94, 95, 96, 97, 98, 99, 100, 101, 102, 103, 104, 105, 106, 107, 108]
def fmQ : List (Nat × Nat) := fm ++ [(89, 1), (89, 2), (89, 3), (89, 4), (89, 5), (89, 6), (89, 7), (89, 8), (89, 9), (89, 10), (89, 47), (89, 48)]
def SimS (bs : Nat → Nat) (n K b : Nat) (P : AH → AH → Prop) (hc hr : AH) (oc or : Option Ou) : Prop := ∃ ok hc' hr', oc = some (.inl (some (.int (bi ok))), hc') ∧ or = some (.inl (some (.int (bi ok))), hr') ∧ Fr (fcS b) [] hc hc' ∧ Fr fmA fmQ hr hr' ∧ (ok = true → P hc' hr') ∧ (ok = false → FL bs n K hc' hr')
def PZ (bs : Nat → Nat) (n K b i : Nat) (hc hr : AH) : Prop := ∃ i' β sl ho, i ≤ i' ∧ LZ bs n K b β i' sl ho hc hr
set_option maxHeartbeats 2000000 in
theorem fc_S {b : Nat} (hb : b = 8 ∨ b = 29) {h h' : AH} (f : Fr [] fc h h') : Fr (fcS b) [] h h' := f.mono rfl (by rcases hb with rfl | rfl <;> rfl)
set_option maxHeartbeats 2000000 in
theorem fm_S {h h' : AH} (f : Fr [] fm h h') : Fr fmA fmQ h h' := f.mono rfl rfl
-- a failure within a statement 
set_option maxHeartbeats 2000000 in
theorem SimS.no {bs : Nat → Nat} {n K b : Nat} {P : AH → AH → Prop} {hc hr hc' hr' : AH} {oc or : Option Ou} (f : Fr (fcS b) [] hc hc') (g : Fr fmA fmQ hr hr') (fl : FL bs n K hc' hr') (e1 : oc = some (.inl (some (.int (N 0))), hc')) (e2 : or = some (.inl (some (.int (N 0))), hr')) : SimS bs n K b P hc hr oc or :=
  ⟨false, hc', hr', e1, e2, f, g, (fun z => by cases z), fun _ => fl⟩
set_option maxHeartbeats 2000000 in
theorem SimS.yes {bs : Nat → Nat} {n K b : Nat} {P : AH → AH → Prop} {hc hr hc' hr' : AH} {oc or : Option Ou} (f : Fr (fcS b) [] hc hc') (g : Fr fmA fmQ hr hr') (p : P hc' hr') (e1 : oc = some (.inl (some (.int (N 1))), hc')) (e2 : or = some (.inl (some (.int (N 1))), hr')) : SimS bs n K b P hc hr oc or :=
  ⟨true, hc', hr', e1, e2, f, g, fun _ => p, (fun z => by cases z)⟩
set_option maxHeartbeats 2000000 in
theorem LZ.step {bs : Nat → Nat} {n K b : Nat} (hb : b = 8 ∨ b = 29) {β : BD} {i i' : Nat} {sl ho : Bool} {hc hr hc' hr' : AH} (l : LZ bs n K b β i sl ho hc hr) (f : Fr [] fc hc hc') (g : Fr [] fm hr hr') (c : CR bs n K i' hc' hr') : LZ bs n K b β i' sl ho hc' hr' := by
  obtain ⟨l1, ⟨a1, a2, a3, a4, a5, a6, a7⟩, ⟨b1, b2, b3, b4⟩, l4⟩ := l
  have hrow : ∀ j, j < 21 → ∀ k, gI hc' (b + j) k = gI hc (b + j) k := fun j hj k => f.row (by
    have : ∀ j, j < 21 → (([] : List Nat).contains (8 + j) || fc.any (fun q => q.1 == 8 + j)) = false ∧ (([] : List Nat).contains (29 + j) || fc.any (fun q => q.1 == 29 + j)) = false := by decide
    rcases hb with rfl | rfl
    · exact (this j hj).1
    · exact (this j hj).2) k
  refine ⟨c, ⟨(f.r 50 3).trans a1, (f.i 50 5 rfl).trans a2, (f.i 50 6 rfl).trans a3, fun p hp => ?_, fun p hp k hk => ?_, ?_, fun k hk => ?_⟩, ⟨(g.i 89 47 rfl).trans b1, (g.i 89 48 rfl).trans b2, b3.fr g rfl, b4.fr g rfl⟩, l4⟩
  · have : ∀ p ∈ hdL, p.1 < 21 := by decide
    rw [hrow _ (this p hp)]; exact a4 p hp
  · have : ∀ p ∈ rC, p.2 < 21 := by decide
    rw [hrow _ (this p hp)]; exact a5 p hp k hk
  · obtain ⟨n1, ob, n2, n3⟩ := a6
    exact ⟨(hrow 0 (by decide) 10).trans n1, ob, fun i hi => by rw [hrow 15 (by decide), hrow 16 (by decide)]; exact n2 i hi, n3⟩
  · rw [hrow 17 (by decide)]; exact a7 k hk
set_option maxHeartbeats 2000000 in
theorem nc_cnt (β : BD) {s : Nat} (hs : s < 4) : nc β s = cnt β (nrow s) := by
  rcases (show s = 0 ∨ s = 1 ∨ s = 2 ∨ s = 3 by omega) with rfl | rfl | rfl | rfl <;> rfl
set_option maxHeartbeats 2000000 in
theorem nrow_rL {s : Nat} (hs : s < 4) : nrow s ∈ rL := by
  rcases (show s = 0 ∨ s = 1 ∨ s = 2 ∨ s = 3 by omega) with rfl | rfl | rfl | rfl <;> decide
set_option maxHeartbeats 2000000 in
theorem RowM.nr {β : BD} {h : AH} (r : RowM (cnt β) β h) : NR β h := fun s hs k hk => r.2 _ (nrow_rL hs) k (by rw [← nc_cnt β hs]; exact hk)
set_option maxHeartbeats 2000000 in
theorem m_mayAdd (g : Bool) {h : AH} (w : WF h) (at' : Int32) (h0 : gI h 89 40 = N 0) : mX12_mayAdd [.ref 89, .int (bi g), .int at'] h = some (.inl (some (.int (bi g))), if g = true then h else sI (sI h 89 40 (N 4)) 89 41 at') := by
  have eg := m_failsAt w (N 4) at' h0
  rw [u_X12_mayAdd, e_X12_mayAdd_0]
  cases g with
  | true => simp (disch := first | with_reducible assumption | exact Nat.le_of_ble_eq_true rfl | (simp only [WF_sI, WF_sL, WF_stR, WF_cpI]; with_reducible assumption) | omega | rfl | (show okF _ = true; decide)) only [e_X12_mayAdd_13, e_X12_mayAdd_18, r_push, r_iload_0, r_aload_0, r_lload_0, r_iload_1, r_aload_1, r_lload_1, r_iload_2, r_aload_2, r_lload_2, r_iload_3, r_aload_3, r_lload_3, r_iload_4, r_aload_4, r_lload_4, r_iload_5, r_aload_5, r_lload_5, r_iload_6, r_aload_6, r_lload_6, r_iload_7, r_aload_7, r_lload_7, r_iload_8, r_aload_8, r_lload_8, r_istore_00, r_astore_00, r_iinc_00, r_lstore_00, r_istore_1i, r_astore_1i, r_iinc_1i, r_lstore_1i, r_istore_1r, r_astore_1r, r_iinc_1r, r_lstore_1r, r_istore_1n, r_astore_1n, r_iinc_1n, r_lstore_1n, r_istore_1z, r_astore_1z, r_iinc_1z, r_lstore_1z, r_istore_2i, r_astore_2i, r_iinc_2i, r_lstore_2i, r_istore_2r, r_astore_2r, r_iinc_2r, r_lstore_2r, r_istore_2n, r_astore_2n, r_iinc_2n, r_lstore_2n, r_istore_2z, r_astore_2z, r_iinc_2z, r_lstore_2z, r_istore_3i, r_astore_3i, r_iinc_3i, r_lstore_3i, r_istore_3r, r_astore_3r, r_iinc_3r, r_lstore_3r, r_istore_3n, r_astore_3n, r_iinc_3n, r_lstore_3n, r_istore_3z, r_astore_3z, r_iinc_3z, r_lstore_3z, r_istore_4i, r_astore_4i, r_iinc_4i, r_lstore_4i, r_istore_4r, r_astore_4r, r_iinc_4r, r_lstore_4r, r_istore_4n, r_astore_4n, r_iinc_4n, r_lstore_4n, r_istore_4z, r_astore_4z, r_iinc_4z, r_lstore_4z, r_istore_5i, r_astore_5i, r_iinc_5i, r_lstore_5i, r_istore_5r, r_astore_5r, r_iinc_5r, r_lstore_5r, r_istore_5n, r_astore_5n, r_iinc_5n, r_lstore_5n, r_istore_5z, r_astore_5z, r_iinc_5z, r_lstore_5z, r_istore_6i, r_astore_6i, r_iinc_6i, r_lstore_6i, r_istore_6r, r_astore_6r, r_iinc_6r, r_lstore_6r, r_istore_6n, r_astore_6n, r_iinc_6n, r_lstore_6n, r_istore_6z, r_astore_6z, r_iinc_6z, r_lstore_6z, r_istore_7i, r_astore_7i, r_iinc_7i, r_lstore_7i, r_istore_7r, r_astore_7r, r_iinc_7r, r_lstore_7r, r_istore_7n, r_astore_7n, r_iinc_7n, r_lstore_7n, r_istore_7z, r_astore_7z, r_iinc_7z, r_lstore_7z, r_istore_8i, r_astore_8i, r_iinc_8i, r_istore_8r, r_astore_8r, r_iinc_8r, r_istore_8n, r_astore_8n, r_iinc_8n, r_istore_8z, r_astore_8z, r_iinc_8z, r_bin, r_lbin, r_div, r_ineg, r_i2l, r_i2b, r_i2c, r_lcmp, r_dup_i, r_dup_r, r_pop_i, r_pop_r, r_dup2, r_ifeq, r_iceq, r_iflt, r_iclt, r_ifge, r_icge, r_ifgt, r_icgt, r_ifle, r_icle, r_ifne, r_icne, r_putR, cs_nil, cs_int, cs_ref, cs_null, cs_long, r_aft_n, r_aft_v, r_aft_x, r_aftN_n, r_aftN_v, r_ireturn, r_zreturn, r_creturn, r_breturn, r_areturn, r_return, r_throw, r_ifnn_r, r_ifnn_n, r_objInit, r_tsw, r_ghost, r_lawret, r_rv, r_rv0, qs_0, qs_1, qs_2, qs_3, qs_4, qs_5, qs_6, q_max, q_min, if_true, if_false, and_self, and_true, true_and, and_false, false_and, not_true_eq_false, not_false_eq_true, or_true, true_or, or_false, false_or, eq_self, ne_eq, lit32, ofNat_N, neg_N1, N_add, N_mul, JN_add, NJ_add, J_add, N_lt, N_le, N_eq, N_nat, J_lt, J_le, J_eq, JN_lt, NJ_lt, JN_le, NJ_le, JN_eq, NJ_eq, J_nat, lt_tt, lt_ff, le_tt, le_ff, eqn_ff, ilt_tt, ilt_ff, ile_tt, ile_ff, ieq_ff, gI_sI, gI_sL, gL_sI, gL_sL, gR_sI, gR_sL, Nat.reduceEqDiff, qI_89, qP_89, qV0_89, qV1_89, qV2_89, qV3_89, qV4_89, q_89_11, q_89_12, q_89_13, q_89_14, q_89_15, q_89_16, q_89_17, q_89_18, q_89_19, q_89_20, q_89_21, q_89_22, q_89_23, q_89_24, q_89_25, q_89_26, q_89_27, q_89_28, q_89_29, q_89_30, q_89_31, q_89_32, q_89_35, q_89_36, q_89_53, q_89_54, q_89_56, q_89_57, q_89_61, q_89_62, q_89_63, q_89_64, q_89_65, q_89_66, q_89_67, q_89_68, q_89_69, q_89_70, q_89_71, q_89_76, q_89_81, q_89_82, q_89_85, qL_89, qPL_89, qZ0_89, qZ1_89, qA_91, qS_91, qc_91, qp_91, qf_91, qA_92, qS_92, qc_92, qp_92, qf_92, qA_93, qS_93, qc_93, qp_93, qf_93, qA_95, qS_95, qc_95, qp_95, qf_95, qA_97, qS_97, qc_97, qp_97, qf_97, qA_98, qS_98, qc_98, qp_98, qf_98, qA_99, qS_99, qc_99, qp_99, qf_99, qA_100, qS_100, qc_100, qp_100, qf_100, qA_101, qS_101, qc_101, qp_101, qf_101, qA_103, qS_103, qc_103, qp_103, qf_103, qA_104, qS_104, qc_104, qp_104, qf_104, qA_105, qS_105, qc_105, qp_105, qf_105, qA_106, qS_106, qc_106, qp_106, qf_106, qA_107, qS_107, qc_107, qp_107, qf_107, qA_108, qS_108, qc_108, qp_108, qf_108, qA_109, qS_109, qc_109, qp_109, qf_109, qA_110, qS_110, qc_110, qp_110, qf_110, qA_112, qS_112, qc_112, qp_112, qf_112, qA_113, qS_113, qc_113, qp_113, qf_113, qA_114, qS_114, qc_114, qp_114, qf_114, qA_115, qS_115, qc_115, qp_115, qf_115, qA_116, qS_116, qc_116, qp_116, qf_116, qA_117, qS_117, qc_117, qp_117, qf_117, qA_118, qS_118, qc_118, qp_118, qf_118, qA_119, qS_119, qc_119, qp_119, qf_119, qA_120, qS_120, qc_120, qp_120, qf_120, qA_121, qS_121, qc_121, qp_121, qf_121, qA_122, qS_122, qc_122, qp_122, qf_122, qA_123, qS_123, qc_123, qp_123, qf_123, qA_124, qS_124, qc_124, qp_124, qf_124, qA_125, qS_125, qc_125, qp_125, qf_125, qA_126, qS_126, qc_126, qp_126, qf_126, qA_127, qS_127, qc_127, qp_127, qf_127, qA_128, qS_128, qc_128, qp_128, qf_128, qA_129, qS_129, qc_129, qp_129, qf_129, qA_130, qS_130, qc_130, qp_130, qf_130, qA_131, qS_131, qc_131, qp_131, qf_131, qA_132, qS_132, qc_132, qp_132, qf_132, bi_t]
  | false => simp (disch := first | with_reducible assumption | exact Nat.le_of_ble_eq_true rfl | (simp only [WF_sI, WF_sL, WF_stR, WF_cpI]; with_reducible assumption) | omega | rfl | (show okF _ = true; decide)) only [e_X12_mayAdd_13, e_X12_mayAdd_18, r_push, r_iload_0, r_aload_0, r_lload_0, r_iload_1, r_aload_1, r_lload_1, r_iload_2, r_aload_2, r_lload_2, r_iload_3, r_aload_3, r_lload_3, r_iload_4, r_aload_4, r_lload_4, r_iload_5, r_aload_5, r_lload_5, r_iload_6, r_aload_6, r_lload_6, r_iload_7, r_aload_7, r_lload_7, r_iload_8, r_aload_8, r_lload_8, r_istore_00, r_astore_00, r_iinc_00, r_lstore_00, r_istore_1i, r_astore_1i, r_iinc_1i, r_lstore_1i, r_istore_1r, r_astore_1r, r_iinc_1r, r_lstore_1r, r_istore_1n, r_astore_1n, r_iinc_1n, r_lstore_1n, r_istore_1z, r_astore_1z, r_iinc_1z, r_lstore_1z, r_istore_2i, r_astore_2i, r_iinc_2i, r_lstore_2i, r_istore_2r, r_astore_2r, r_iinc_2r, r_lstore_2r, r_istore_2n, r_astore_2n, r_iinc_2n, r_lstore_2n, r_istore_2z, r_astore_2z, r_iinc_2z, r_lstore_2z, r_istore_3i, r_astore_3i, r_iinc_3i, r_lstore_3i, r_istore_3r, r_astore_3r, r_iinc_3r, r_lstore_3r, r_istore_3n, r_astore_3n, r_iinc_3n, r_lstore_3n, r_istore_3z, r_astore_3z, r_iinc_3z, r_lstore_3z, r_istore_4i, r_astore_4i, r_iinc_4i, r_lstore_4i, r_istore_4r, r_astore_4r, r_iinc_4r, r_lstore_4r, r_istore_4n, r_astore_4n, r_iinc_4n, r_lstore_4n, r_istore_4z, r_astore_4z, r_iinc_4z, r_lstore_4z, r_istore_5i, r_astore_5i, r_iinc_5i, r_lstore_5i, r_istore_5r, r_astore_5r, r_iinc_5r, r_lstore_5r, r_istore_5n, r_astore_5n, r_iinc_5n, r_lstore_5n, r_istore_5z, r_astore_5z, r_iinc_5z, r_lstore_5z, r_istore_6i, r_astore_6i, r_iinc_6i, r_lstore_6i, r_istore_6r, r_astore_6r, r_iinc_6r, r_lstore_6r, r_istore_6n, r_astore_6n, r_iinc_6n, r_lstore_6n, r_istore_6z, r_astore_6z, r_iinc_6z, r_lstore_6z, r_istore_7i, r_astore_7i, r_iinc_7i, r_lstore_7i, r_istore_7r, r_astore_7r, r_iinc_7r, r_lstore_7r, r_istore_7n, r_astore_7n, r_iinc_7n, r_lstore_7n, r_istore_7z, r_astore_7z, r_iinc_7z, r_lstore_7z, r_istore_8i, r_astore_8i, r_iinc_8i, r_istore_8r, r_astore_8r, r_iinc_8r, r_istore_8n, r_astore_8n, r_iinc_8n, r_istore_8z, r_astore_8z, r_iinc_8z, r_bin, r_lbin, r_div, r_ineg, r_i2l, r_i2b, r_i2c, r_lcmp, r_dup_i, r_dup_r, r_pop_i, r_pop_r, r_dup2, r_ifeq, r_iceq, r_iflt, r_iclt, r_ifge, r_icge, r_ifgt, r_icgt, r_ifle, r_icle, r_ifne, r_icne, r_putR, cs_nil, cs_int, cs_ref, cs_null, cs_long, r_aft_n, r_aft_v, r_aft_x, r_aftN_n, r_aftN_v, r_ireturn, r_zreturn, r_creturn, r_breturn, r_areturn, r_return, r_throw, r_ifnn_r, r_ifnn_n, r_objInit, r_tsw, r_ghost, r_lawret, r_rv, r_rv0, qs_0, qs_1, qs_2, qs_3, qs_4, qs_5, qs_6, q_max, q_min, if_true, if_false, and_self, and_true, true_and, and_false, false_and, not_true_eq_false, not_false_eq_true, or_true, true_or, or_false, false_or, eq_self, ne_eq, lit32, ofNat_N, neg_N1, N_add, N_mul, JN_add, NJ_add, J_add, N_lt, N_le, N_eq, N_nat, J_lt, J_le, J_eq, JN_lt, NJ_lt, JN_le, NJ_le, JN_eq, NJ_eq, J_nat, lt_tt, lt_ff, le_tt, le_ff, eqn_ff, ilt_tt, ilt_ff, ile_tt, ile_ff, ieq_ff, gI_sI, gI_sL, gL_sI, gL_sL, gR_sI, gR_sL, Nat.reduceEqDiff, qI_89, qP_89, qV0_89, qV1_89, qV2_89, qV3_89, qV4_89, q_89_11, q_89_12, q_89_13, q_89_14, q_89_15, q_89_16, q_89_17, q_89_18, q_89_19, q_89_20, q_89_21, q_89_22, q_89_23, q_89_24, q_89_25, q_89_26, q_89_27, q_89_28, q_89_29, q_89_30, q_89_31, q_89_32, q_89_35, q_89_36, q_89_53, q_89_54, q_89_56, q_89_57, q_89_61, q_89_62, q_89_63, q_89_64, q_89_65, q_89_66, q_89_67, q_89_68, q_89_69, q_89_70, q_89_71, q_89_76, q_89_81, q_89_82, q_89_85, qL_89, qPL_89, qZ0_89, qZ1_89, qA_91, qS_91, qc_91, qp_91, qf_91, qA_92, qS_92, qc_92, qp_92, qf_92, qA_93, qS_93, qc_93, qp_93, qf_93, qA_95, qS_95, qc_95, qp_95, qf_95, qA_97, qS_97, qc_97, qp_97, qf_97, qA_98, qS_98, qc_98, qp_98, qf_98, qA_99, qS_99, qc_99, qp_99, qf_99, qA_100, qS_100, qc_100, qp_100, qf_100, qA_101, qS_101, qc_101, qp_101, qf_101, qA_103, qS_103, qc_103, qp_103, qf_103, qA_104, qS_104, qc_104, qp_104, qf_104, qA_105, qS_105, qc_105, qp_105, qf_105, qA_106, qS_106, qc_106, qp_106, qf_106, qA_107, qS_107, qc_107, qp_107, qf_107, qA_108, qS_108, qc_108, qp_108, qf_108, qA_109, qS_109, qc_109, qp_109, qf_109, qA_110, qS_110, qc_110, qp_110, qf_110, qA_112, qS_112, qc_112, qp_112, qf_112, qA_113, qS_113, qc_113, qp_113, qf_113, qA_114, qS_114, qc_114, qp_114, qf_114, qA_115, qS_115, qc_115, qp_115, qf_115, qA_116, qS_116, qc_116, qp_116, qf_116, qA_117, qS_117, qc_117, qp_117, qf_117, qA_118, qS_118, qc_118, qp_118, qf_118, qA_119, qS_119, qc_119, qp_119, qf_119, qA_120, qS_120, qc_120, qp_120, qf_120, qA_121, qS_121, qc_121, qp_121, qf_121, qA_122, qS_122, qc_122, qp_122, qf_122, qA_123, qS_123, qc_123, qp_123, qf_123, qA_124, qS_124, qc_124, qp_124, qf_124, qA_125, qS_125, qc_125, qp_125, qf_125, qA_126, qS_126, qc_126, qp_126, qf_126, qA_127, qS_127, qc_127, qp_127, qf_127, qA_128, qS_128, qc_128, qp_128, qf_128, qA_129, qS_129, qc_129, qp_129, qf_129, qA_130, qS_130, qc_130, qp_130, qf_130, qA_131, qS_131, qc_131, qp_131, qf_131, qA_132, qS_132, qc_132, qp_132, qf_132, bi_f, eg, Bool.false_eq_true]
set_option maxHeartbeats 2000000 in
theorem cnt_ub {β : BD} {a k v x : Nat} (ha : a ≠ 0) : cnt (ub β a k v) x = cnt β x := by
  unfold cnt
  simp only [ub_ne (show (0 : Nat) ≠ a from fun z => ha z.symm)]
set_option maxHeartbeats 2000000 in
theorem cnt_h {β : BD} {i v x : Nat} (hi : i ≠ 2 ∧ i ≠ 3 ∧ i ≠ 4 ∧ i ≠ 5 ∧ i ≠ 6 ∧ i ≠ 7) : cnt (ub β 0 i v) x = cnt β x := by
  obtain ⟨h1, h2, h3, h4, h5, h6⟩ := hi
  unfold cnt
  rw [ub_nk (fun z => h1 z.symm), ub_nk (fun z => h2 z.symm), ub_nk (fun z => h3 z.symm), ub_nk (fun z => h4 z.symm), ub_nk (fun z => h5 z.symm), ub_nk (fun z => h6 z.symm)]
def SN (β β' : BD) : Prop := ∀ s, s < 4 → nc β' s = nc β s ∧ ∀ k, k < nc β s → β' (nrow s) k = β (nrow s) k
set_option maxHeartbeats 2000000 in
theorem SN.ok {β β' : BD} (h : SN β β') (o : Nat) : okO β' o ↔ okO β o := by
  unfold okO
  constructor
  · intro ⟨h1, h2⟩; exact ⟨h1, by rw [(h _ h1).1] at h2; exact h2⟩
  · intro ⟨h1, h2⟩; exact ⟨h1, by rw [(h _ h1).1]; exact h2⟩
set_option maxHeartbeats 2000000 in
theorem SN.nv {β β' : BD} (h : SN β β') {o : Nat} (ho : okO β o) : nv β' o = nv β o := (h _ ho.1).2 _ ho.2
set_option maxHeartbeats 2000000 in
theorem SN.nm {β β' : BD} (h : SN β β') : nmN β' = nmN β := by
  have h0 := (h 0 (by decide)).1
  have h1 := (h 1 (by decide)).1
  have h2 := (h 2 (by decide)).1
  have h3 := (h 3 (by decide)).1
  unfold nc at h0 h1 h2 h3
  simp only [Nat.reduceEqDiff, if_true, if_false] at h0 h1 h2 h3
  unfold nmN
  omega
set_option maxHeartbeats 2000000 in
theorem ND.same {β β' : BD} (nd : ND β) (h : SN β β') : ND β' := by
  refine ⟨fun o o' h1 h2 h3 => ?_, fun o ho => ?_⟩
  · rw [h.nv ((h.ok o).mp h1), h.nv ((h.ok o').mp h2)] at h3
    exact nd.1 o o' ((h.ok o).mp h1) ((h.ok o').mp h2) h3
  · rw [h.nv ((h.ok o).mp ho)]; exact nd.2 o ((h.ok o).mp ho)
set_option maxHeartbeats 2000000 in
theorem NMC.same {b : Nat} {β β' : BD} {hp hp' : AH} (nm : NMC b β hp) (h : SN β β') (e10 : gI hp' b 10 = gI hp b 10) (e15 : ∀ k, gI hp' (b + 15) k = gI hp (b + 15) k) (e16 : ∀ k, gI hp' (b + 16) k = gI hp (b + 16) k) : NMC b β' hp' := by
  obtain ⟨n1, ob, n2, n3⟩ := nm
  refine ⟨by rw [e10, h.nm]; exact n1, ob, fun i hi => ?_, fun o ho => ?_⟩
  · rw [h.nm] at hi
    obtain ⟨a1, a2, a3⟩ := n2 i hi
    rw [e15, e16, h.nv a1]
    exact ⟨(h.ok _).mpr a1, a2, a3⟩
  · rw [h.nm]; exact n3 o ((h.ok o).mp ho)
set_option maxHeartbeats 2000000 in
theorem nrow_in {s : Nat} (hs : s < 4) : nrow s = 90 ∨ nrow s = 94 ∨ nrow s = 96 ∨ nrow s = 102 := by
  rcases (show s = 0 ∨ s = 1 ∨ s = 2 ∨ s = 3 by omega) with rfl | rfl | rfl | rfl
  · exact Or.inl rfl
  · exact Or.inr (Or.inl rfl)
  · exact Or.inr (Or.inr (Or.inl rfl))
  · exact Or.inr (Or.inr (Or.inr rfl))
set_option maxHeartbeats 2000000 in
theorem SN.h {β : BD} {i v : Nat} (hi : i ≠ 2 ∧ i ≠ 4 ∧ i ≠ 5 ∧ i ≠ 7) : SN β (ub β 0 i v) := fun s hs => by
  obtain ⟨h1, h2, h3, h4⟩ := hi
  refine ⟨?_, fun k hk => ?_⟩
  · unfold nc
    rw [ub_nk (fun z => h1 z.symm), ub_nk (fun z => h2 z.symm), ub_nk (fun z => h3 z.symm), ub_nk (fun z => h4 z.symm)]
  · rw [ub_ne (by have := nrow_in hs; omega)]
set_option maxHeartbeats 2000000 in
theorem SN.r {β : BD} {a k v : Nat} (ha : a ≠ 0 ∧ a ≠ 90 ∧ a ≠ 94 ∧ a ≠ 96 ∧ a ≠ 102) : SN β (ub β a k v) := fun s hs => by
  refine ⟨?_, fun j hj => ?_⟩
  · unfold nc
    simp only [ub_ne (show (0 : Nat) ≠ a from fun z => ha.1 z.symm)]
  · rw [ub_ne (by have := nrow_in hs; omega)]
set_option maxHeartbeats 2000000 in
theorem SN.trans {β β' β'' : BD} (x : SN β β') (y : SN β' β'') : SN β β'' := fun s hs => by
  obtain ⟨a, b⟩ := x s hs
  obtain ⟨c, d⟩ := y s hs
  exact ⟨c.trans a, fun k hk => (d k (by rw [a]; exact hk)).trans (b k hk)⟩
set_option maxHeartbeats 2000000 in
theorem m_may_t {h : AH} (w : WF h) (at' : Int32) (h0 : gI h 89 40 = N 0) : mX12_mayAdd [.ref 89, .int (N 1), .int at'] h = some (.inl (some (.int (N 1))), h) := by
  have := m_mayAdd true w at' h0
  rw [if_pos rfl] at this
  exact this
set_option maxHeartbeats 2000000 in
theorem m_may_f {h : AH} (w : WF h) (at' : Int32) (h0 : gI h 89 40 = N 0) : mX12_mayAdd [.ref 89, .int (N 0), .int at'] h = some (.inl (some (.int (N 0))), sI (sI h 89 40 (N 4)) 89 41 at') := by
  have := m_mayAdd false w at' h0
  rw [if_neg (by decide)] at this
  exact this
-- slot 
set_option maxHeartbeats 2000000 in
theorem s_slot {bs : Nat → Nat} {n K b : Nat} (hb : b = 8 ∨ b = 29) {β : BD} {i : Nat} {ho : Bool} {hc hr : AH} (l : LZ bs n K b β i false ho hc hr) (at' : Int32) : SimS bs n K b (PZ bs n K b i) hc hr (mX1_readSlot [.ref 50] hc) (mX12_readSlot [.ref 89, .int at'] hr) := by
  obtain ⟨ok, hc1, hr1, e1, e2, f1, g1, p1, p2⟩ := s_number l.1 (lo := 10) (hi := 60) (by decide) (by decide)
  have wc := l.1.1.1
  have wr := l.1.2.1
  have e47 := l.2.2.1.1
  have ema := m_may_t wr at' l.1.2.2.2.2.1
  rw [bi_f] at e47
  cases ok with
  | false =>
    refine SimS.no (fc_S hb (f1.mono rfl rfl)) (fm_S (g1.mono rfl rfl)) (p2 rfl) ?_ ?_
    · rw [u_X1_readSlot, e_X1_readSlot_0]
      simp (disch := first | with_reducible assumption | exact Nat.le_of_ble_eq_true rfl | (simp only [WF_sI, WF_sL, WF_stR, WF_cpI]; with_reducible assumption) | omega | rfl | (show okF _ = true; decide)) only [r_push, r_iload_0, r_aload_0, r_lload_0, r_iload_1, r_aload_1, r_lload_1, r_iload_2, r_aload_2, r_lload_2, r_iload_3, r_aload_3, r_lload_3, r_iload_4, r_aload_4, r_lload_4, r_iload_5, r_aload_5, r_lload_5, r_iload_6, r_aload_6, r_lload_6, r_iload_7, r_aload_7, r_lload_7, r_iload_8, r_aload_8, r_lload_8, r_istore_00, r_astore_00, r_iinc_00, r_lstore_00, r_istore_1i, r_astore_1i, r_iinc_1i, r_lstore_1i, r_istore_1r, r_astore_1r, r_iinc_1r, r_lstore_1r, r_istore_1n, r_astore_1n, r_iinc_1n, r_lstore_1n, r_istore_1z, r_astore_1z, r_iinc_1z, r_lstore_1z, r_istore_2i, r_astore_2i, r_iinc_2i, r_lstore_2i, r_istore_2r, r_astore_2r, r_iinc_2r, r_lstore_2r, r_istore_2n, r_astore_2n, r_iinc_2n, r_lstore_2n, r_istore_2z, r_astore_2z, r_iinc_2z, r_lstore_2z, r_istore_3i, r_astore_3i, r_iinc_3i, r_lstore_3i, r_istore_3r, r_astore_3r, r_iinc_3r, r_lstore_3r, r_istore_3n, r_astore_3n, r_iinc_3n, r_lstore_3n, r_istore_3z, r_astore_3z, r_iinc_3z, r_lstore_3z, r_istore_4i, r_astore_4i, r_iinc_4i, r_lstore_4i, r_istore_4r, r_astore_4r, r_iinc_4r, r_lstore_4r, r_istore_4n, r_astore_4n, r_iinc_4n, r_lstore_4n, r_istore_4z, r_astore_4z, r_iinc_4z, r_lstore_4z, r_istore_5i, r_astore_5i, r_iinc_5i, r_lstore_5i, r_istore_5r, r_astore_5r, r_iinc_5r, r_lstore_5r, r_istore_5n, r_astore_5n, r_iinc_5n, r_lstore_5n, r_istore_5z, r_astore_5z, r_iinc_5z, r_lstore_5z, r_istore_6i, r_astore_6i, r_iinc_6i, r_lstore_6i, r_istore_6r, r_astore_6r, r_iinc_6r, r_lstore_6r, r_istore_6n, r_astore_6n, r_iinc_6n, r_lstore_6n, r_istore_6z, r_astore_6z, r_iinc_6z, r_lstore_6z, r_istore_7i, r_astore_7i, r_iinc_7i, r_lstore_7i, r_istore_7r, r_astore_7r, r_iinc_7r, r_lstore_7r, r_istore_7n, r_astore_7n, r_iinc_7n, r_lstore_7n, r_istore_7z, r_astore_7z, r_iinc_7z, r_lstore_7z, r_istore_8i, r_astore_8i, r_iinc_8i, r_istore_8r, r_astore_8r, r_iinc_8r, r_istore_8n, r_astore_8n, r_iinc_8n, r_istore_8z, r_astore_8z, r_iinc_8z, r_bin, r_lbin, r_div, r_ineg, r_i2l, r_i2b, r_i2c, r_lcmp, r_dup_i, r_dup_r, r_pop_i, r_pop_r, r_dup2, r_ifeq, r_iceq, r_iflt, r_iclt, r_ifge, r_icge, r_ifgt, r_icgt, r_ifle, r_icle, r_ifne, r_icne, r_putR, cs_nil, cs_int, cs_ref, cs_null, cs_long, r_aft_n, r_aft_v, r_aft_x, r_aftN_n, r_aftN_v, r_ireturn, r_zreturn, r_creturn, r_breturn, r_areturn, r_return, r_throw, r_ifnn_r, r_ifnn_n, r_objInit, r_tsw, r_ghost, r_lawret, r_rv, r_rv0, qs_0, qs_1, qs_2, qs_3, qs_4, qs_5, qs_6, q_max, q_min, if_true, if_false, and_self, and_true, true_and, and_false, false_and, not_true_eq_false, not_false_eq_true, or_true, true_or, or_false, false_or, eq_self, ne_eq, lit32, ofNat_N, neg_N1, N_add, N_mul, JN_add, NJ_add, J_add, N_lt, N_le, N_eq, N_nat, J_lt, J_le, J_eq, JN_lt, NJ_lt, JN_le, NJ_le, JN_eq, NJ_eq, J_nat, lt_tt, lt_ff, le_tt, le_ff, eqn_ff, ilt_tt, ilt_ff, ile_tt, ile_ff, ieq_ff, gI_sI, gI_sL, gL_sI, gL_sL, gR_sI, gR_sL, Nat.reduceEqDiff, qI_0, qP_0, qV0_0, qV1_0, qV2_0, qV3_0, qV4_0, q_0_0, q_0_1, q_0_2, q_0_3, q_0_4, q_0_5, q_0_6, q_0_7, q_0_8, qR_0_8, q_0_9, qR_0_9, qI_2, qP_2, qV0_2, qV1_2, qV2_2, qV3_2, qV4_2, q_2_0, q_2_1, q_2_2, qA_4, qS_4, qc_4, qp_4, qf_4, qA_5, qS_5, qc_5, qp_5, qf_5, qI_6, qP_6, qV0_6, qV1_6, qV2_6, qV3_6, qV4_6, q_6_1, qA_7, qS_7, qc_7, qp_7, qf_7, qI_50, qP_50, qV0_50, qV1_50, qV2_50, qV3_50, qV4_50, q_50_2, q_50_3, qR_50_3, qZ0_50, qZ1_50, qI_51, qP_51, qV0_51, qV1_51, qV2_51, qV3_51, qV4_51, q_51_1, q_51_2, q_51_3, q_51_4, q_51_0, qR_51_0, qA_52, qS_52, qc_52, qp_52, qf_52, qA_53, qS_53, qc_53, qp_53, qf_53, qA_54, qS_54, qc_54, qp_54, qf_54, qA_55, qS_55, qc_55, qp_55, qf_55, qI_88, qP_88, qV0_88, qV1_88, qV2_88, qV3_88, qV4_88, q_88_2, e1, bi_f]
    · rw [u_X12_readSlot, e_X12_readSlot_0]
      simp (disch := first | with_reducible assumption | exact Nat.le_of_ble_eq_true rfl | (simp only [WF_sI, WF_sL, WF_stR, WF_cpI]; with_reducible assumption) | omega | rfl | (show okF _ = true; decide)) only [e_X12_readSlot_13, e_X12_readSlot_31, r_push, r_iload_0, r_aload_0, r_lload_0, r_iload_1, r_aload_1, r_lload_1, r_iload_2, r_aload_2, r_lload_2, r_iload_3, r_aload_3, r_lload_3, r_iload_4, r_aload_4, r_lload_4, r_iload_5, r_aload_5, r_lload_5, r_iload_6, r_aload_6, r_lload_6, r_iload_7, r_aload_7, r_lload_7, r_iload_8, r_aload_8, r_lload_8, r_istore_00, r_astore_00, r_iinc_00, r_lstore_00, r_istore_1i, r_astore_1i, r_iinc_1i, r_lstore_1i, r_istore_1r, r_astore_1r, r_iinc_1r, r_lstore_1r, r_istore_1n, r_astore_1n, r_iinc_1n, r_lstore_1n, r_istore_1z, r_astore_1z, r_iinc_1z, r_lstore_1z, r_istore_2i, r_astore_2i, r_iinc_2i, r_lstore_2i, r_istore_2r, r_astore_2r, r_iinc_2r, r_lstore_2r, r_istore_2n, r_astore_2n, r_iinc_2n, r_lstore_2n, r_istore_2z, r_astore_2z, r_iinc_2z, r_lstore_2z, r_istore_3i, r_astore_3i, r_iinc_3i, r_lstore_3i, r_istore_3r, r_astore_3r, r_iinc_3r, r_lstore_3r, r_istore_3n, r_astore_3n, r_iinc_3n, r_lstore_3n, r_istore_3z, r_astore_3z, r_iinc_3z, r_lstore_3z, r_istore_4i, r_astore_4i, r_iinc_4i, r_lstore_4i, r_istore_4r, r_astore_4r, r_iinc_4r, r_lstore_4r, r_istore_4n, r_astore_4n, r_iinc_4n, r_lstore_4n, r_istore_4z, r_astore_4z, r_iinc_4z, r_lstore_4z, r_istore_5i, r_astore_5i, r_iinc_5i, r_lstore_5i, r_istore_5r, r_astore_5r, r_iinc_5r, r_lstore_5r, r_istore_5n, r_astore_5n, r_iinc_5n, r_lstore_5n, r_istore_5z, r_astore_5z, r_iinc_5z, r_lstore_5z, r_istore_6i, r_astore_6i, r_iinc_6i, r_lstore_6i, r_istore_6r, r_astore_6r, r_iinc_6r, r_lstore_6r, r_istore_6n, r_astore_6n, r_iinc_6n, r_lstore_6n, r_istore_6z, r_astore_6z, r_iinc_6z, r_lstore_6z, r_istore_7i, r_astore_7i, r_iinc_7i, r_lstore_7i, r_istore_7r, r_astore_7r, r_iinc_7r, r_lstore_7r, r_istore_7n, r_astore_7n, r_iinc_7n, r_lstore_7n, r_istore_7z, r_astore_7z, r_iinc_7z, r_lstore_7z, r_istore_8i, r_astore_8i, r_iinc_8i, r_istore_8r, r_astore_8r, r_iinc_8r, r_istore_8n, r_astore_8n, r_iinc_8n, r_istore_8z, r_astore_8z, r_iinc_8z, r_bin, r_lbin, r_div, r_ineg, r_i2l, r_i2b, r_i2c, r_lcmp, r_dup_i, r_dup_r, r_pop_i, r_pop_r, r_dup2, r_ifeq, r_iceq, r_iflt, r_iclt, r_ifge, r_icge, r_ifgt, r_icgt, r_ifle, r_icle, r_ifne, r_icne, r_putR, cs_nil, cs_int, cs_ref, cs_null, cs_long, r_aft_n, r_aft_v, r_aft_x, r_aftN_n, r_aftN_v, r_ireturn, r_zreturn, r_creturn, r_breturn, r_areturn, r_return, r_throw, r_ifnn_r, r_ifnn_n, r_objInit, r_tsw, r_ghost, r_lawret, r_rv, r_rv0, qs_0, qs_1, qs_2, qs_3, qs_4, qs_5, qs_6, q_max, q_min, if_true, if_false, and_self, and_true, true_and, and_false, false_and, not_true_eq_false, not_false_eq_true, or_true, true_or, or_false, false_or, eq_self, ne_eq, lit32, ofNat_N, neg_N1, N_add, N_mul, JN_add, NJ_add, J_add, N_lt, N_le, N_eq, N_nat, J_lt, J_le, J_eq, JN_lt, NJ_lt, JN_le, NJ_le, JN_eq, NJ_eq, J_nat, lt_tt, lt_ff, le_tt, le_ff, eqn_ff, ilt_tt, ilt_ff, ile_tt, ile_ff, ieq_ff, gI_sI, gI_sL, gL_sI, gL_sL, gR_sI, gR_sL, Nat.reduceEqDiff, qI_89, qP_89, qV0_89, qV1_89, qV2_89, qV3_89, qV4_89, q_89_11, q_89_12, q_89_13, q_89_14, q_89_15, q_89_16, q_89_17, q_89_18, q_89_19, q_89_20, q_89_21, q_89_22, q_89_23, q_89_24, q_89_25, q_89_26, q_89_27, q_89_28, q_89_29, q_89_30, q_89_31, q_89_32, q_89_35, q_89_36, q_89_53, q_89_54, q_89_56, q_89_57, q_89_61, q_89_62, q_89_63, q_89_64, q_89_65, q_89_66, q_89_67, q_89_68, q_89_69, q_89_70, q_89_71, q_89_76, q_89_81, q_89_82, q_89_85, qL_89, qPL_89, qZ0_89, qZ1_89, qA_91, qS_91, qc_91, qp_91, qf_91, qA_92, qS_92, qc_92, qp_92, qf_92, qA_93, qS_93, qc_93, qp_93, qf_93, qA_95, qS_95, qc_95, qp_95, qf_95, qA_97, qS_97, qc_97, qp_97, qf_97, qA_98, qS_98, qc_98, qp_98, qf_98, qA_99, qS_99, qc_99, qp_99, qf_99, qA_100, qS_100, qc_100, qp_100, qf_100, qA_101, qS_101, qc_101, qp_101, qf_101, qA_103, qS_103, qc_103, qp_103, qf_103, qA_104, qS_104, qc_104, qp_104, qf_104, qA_105, qS_105, qc_105, qp_105, qf_105, qA_106, qS_106, qc_106, qp_106, qf_106, qA_107, qS_107, qc_107, qp_107, qf_107, qA_108, qS_108, qc_108, qp_108, qf_108, qA_109, qS_109, qc_109, qp_109, qf_109, qA_110, qS_110, qc_110, qp_110, qf_110, qA_112, qS_112, qc_112, qp_112, qf_112, qA_113, qS_113, qc_113, qp_113, qf_113, qA_114, qS_114, qc_114, qp_114, qf_114, qA_115, qS_115, qc_115, qp_115, qf_115, qA_116, qS_116, qc_116, qp_116, qf_116, qA_117, qS_117, qc_117, qp_117, qf_117, qA_118, qS_118, qc_118, qp_118, qf_118, qA_119, qS_119, qc_119, qp_119, qf_119, qA_120, qS_120, qc_120, qp_120, qf_120, qA_121, qS_121, qc_121, qp_121, qf_121, qA_122, qS_122, qc_122, qp_122, qf_122, qA_123, qS_123, qc_123, qp_123, qf_123, qA_124, qS_124, qc_124, qp_124, qf_124, qA_125, qS_125, qc_125, qp_125, qf_125, qA_126, qS_126, qc_126, qp_126, qf_126, qA_127, qS_127, qc_127, qp_127, qf_127, qA_128, qS_128, qc_128, qp_128, qf_128, qA_129, qS_129, qc_129, qp_129, qf_129, qA_130, qS_130, qc_130, qp_130, qf_130, qA_131, qS_131, qc_131, qp_131, qf_131, qA_132, qS_132, qc_132, qp_132, qf_132, e47, ema, e2, bi_f, bi_t]
  | true =>
    obtain ⟨c1, v, v1, v2, v3, v4⟩ := p1 rfl
    have l1 := l.step hb (f1.mono rfl rfl) (g1.mono rfl rfl) c1
    have wc1 := c1.1.1
    have wr1 := c1.2.1
    obtain ⟨-, ⟨a1, a2, a3, a4, a5, a6, a7⟩, ⟨b1, b2, b3, b4⟩, l4⟩ := id l1
    obtain ⟨hc2, hhc2⟩ : ∃ x, x = sI (sI hc1 b 6 (N v)) 50 5 (N 1) := ⟨_, rfl⟩
    obtain ⟨hr2, hhr2⟩ : ∃ x, x = sI (sI hr1 89 47 (N 1)) 89 1 (N v) := ⟨_, rfl⟩
    have f2 : Fr [b] [(50, 5)] hc1 hc2 := by rw [hhc2]; exact ((Fr.refl _ _ _).sI (by rcases hb with rfl | rfl <;> rfl) _).sI (by rcases hb with rfl | rfl <;> rfl) _
    have g2 : Fr [] [(89, 47), (89, 1)] hr1 hr2 := by rw [hhr2]; exact ((Fr.refl _ _ _).sI rfl _).sI rfl _
    refine SimS.yes (hc' := hc2) (hr' := hr2) ((fc_S hb (f1.mono rfl rfl)).trans (f2.mono (by rcases hb with rfl | rfl <;> rfl) (by rcases hb with rfl | rfl <;> rfl))) ((fm_S (g1.mono rfl rfl)).trans (g2.mono rfl rfl)) ⟨i + 1, ub β 0 1 v, true, ho, by omega, c1.same f2 (by rcases hb with rfl | rfl <;> rfl) g2 rfl, ⟨(f2.r 50 3).trans a1, ?_, ?_, ?_, ?_, ?_, ?_⟩, ⟨?_, ?_, ?_, ?_⟩, ?_⟩ ?_ ?_
    · rw [hhc2, gI_eq]; rfl
    · rw [hhc2, gI_nk (by decide), gI_ne (by omega)]; exact a3
    · rw [hhc2]
      exact (a4.upd (j := 0) (k := 6) (i := 1) (v := v) (by decide)).oth (fun p hp z => by have := hdL_lt p hp; omega)
    · rw [hhc2]
      have := a5.headu (i := 1) (v := v) (j := 0) (k := 6) (x := N v) (Or.inl rfl)
      rw [show cnt (ub β 0 1 v) = cnt β from funext (fun x => cnt_h (by decide))]
      exact this.oth (fun p hp z => by have := rC_lt p hp; omega)
    · exact a6.same (SN.h (by decide)) (by rw [hhc2, gI_ne (by omega), gI_nk (by decide)]) (fun k => by rw [hhc2, gI_ne (by omega), gI_ne (by omega)]) (fun k => by rw [hhc2, gI_ne (by omega), gI_ne (by omega)])
    · intro k hk
      rw [hhc2, gI_ne (by omega), gI_ne (by omega), ub_nk (by decide), rm_cong (β := β) (β' := ub β 0 1 v) _ (fun j hj => ⟨ub_ne (by decide), ub_ne (by decide), ub_ne (by decide)⟩)]
      exact a7 k hk
    · rw [hhr2, gI_nk (by decide), gI_eq]; rfl
    · rw [hhr2, gI_nk (by decide), gI_nk (by decide)]; exact b2
    · rw [hhr2]
      have b3' : HdM β (sI hr1 89 47 (N 1)) := fun i h1 h2 => by rw [gI_nk (by omega)]; exact b3 i h1 h2
      exact b3'.upd
    · rw [hhr2, show cnt (ub β 0 1 v) = cnt β from funext (fun x => cnt_h (by decide))]
      have b4' : RowM (cnt β) β (sI hr1 89 47 (N 1)) := b4.fr (A := []) (Q := [(89, 47)]) ((Fr.refl _ _ _).sI rfl _) rfl
      exact b4'.head
    · obtain ⟨q1, q2, q3, q4⟩ := l4
      exact ⟨q1, q2.same (SN.h (by decide)), ⟨v1, v2, q3.2.2⟩, q4⟩
    · rw [u_X1_readSlot, e_X1_readSlot_0]
      simp (disch := first | with_reducible assumption | exact Nat.le_of_ble_eq_true rfl | (simp only [WF_sI, WF_sL, WF_stR, WF_cpI]; with_reducible assumption) | omega | rfl | (show okF _ = true; decide)) only [r_push, r_iload_0, r_aload_0, r_lload_0, r_iload_1, r_aload_1, r_lload_1, r_iload_2, r_aload_2, r_lload_2, r_iload_3, r_aload_3, r_lload_3, r_iload_4, r_aload_4, r_lload_4, r_iload_5, r_aload_5, r_lload_5, r_iload_6, r_aload_6, r_lload_6, r_iload_7, r_aload_7, r_lload_7, r_iload_8, r_aload_8, r_lload_8, r_istore_00, r_astore_00, r_iinc_00, r_lstore_00, r_istore_1i, r_astore_1i, r_iinc_1i, r_lstore_1i, r_istore_1r, r_astore_1r, r_iinc_1r, r_lstore_1r, r_istore_1n, r_astore_1n, r_iinc_1n, r_lstore_1n, r_istore_1z, r_astore_1z, r_iinc_1z, r_lstore_1z, r_istore_2i, r_astore_2i, r_iinc_2i, r_lstore_2i, r_istore_2r, r_astore_2r, r_iinc_2r, r_lstore_2r, r_istore_2n, r_astore_2n, r_iinc_2n, r_lstore_2n, r_istore_2z, r_astore_2z, r_iinc_2z, r_lstore_2z, r_istore_3i, r_astore_3i, r_iinc_3i, r_lstore_3i, r_istore_3r, r_astore_3r, r_iinc_3r, r_lstore_3r, r_istore_3n, r_astore_3n, r_iinc_3n, r_lstore_3n, r_istore_3z, r_astore_3z, r_iinc_3z, r_lstore_3z, r_istore_4i, r_astore_4i, r_iinc_4i, r_lstore_4i, r_istore_4r, r_astore_4r, r_iinc_4r, r_lstore_4r, r_istore_4n, r_astore_4n, r_iinc_4n, r_lstore_4n, r_istore_4z, r_astore_4z, r_iinc_4z, r_lstore_4z, r_istore_5i, r_astore_5i, r_iinc_5i, r_lstore_5i, r_istore_5r, r_astore_5r, r_iinc_5r, r_lstore_5r, r_istore_5n, r_astore_5n, r_iinc_5n, r_lstore_5n, r_istore_5z, r_astore_5z, r_iinc_5z, r_lstore_5z, r_istore_6i, r_astore_6i, r_iinc_6i, r_lstore_6i, r_istore_6r, r_astore_6r, r_iinc_6r, r_lstore_6r, r_istore_6n, r_astore_6n, r_iinc_6n, r_lstore_6n, r_istore_6z, r_astore_6z, r_iinc_6z, r_lstore_6z, r_istore_7i, r_astore_7i, r_iinc_7i, r_lstore_7i, r_istore_7r, r_astore_7r, r_iinc_7r, r_lstore_7r, r_istore_7n, r_astore_7n, r_iinc_7n, r_lstore_7n, r_istore_7z, r_astore_7z, r_iinc_7z, r_lstore_7z, r_istore_8i, r_astore_8i, r_iinc_8i, r_istore_8r, r_astore_8r, r_iinc_8r, r_istore_8n, r_astore_8n, r_iinc_8n, r_istore_8z, r_astore_8z, r_iinc_8z, r_bin, r_lbin, r_div, r_ineg, r_i2l, r_i2b, r_i2c, r_lcmp, r_dup_i, r_dup_r, r_pop_i, r_pop_r, r_dup2, r_ifeq, r_iceq, r_iflt, r_iclt, r_ifge, r_icge, r_ifgt, r_icgt, r_ifle, r_icle, r_ifne, r_icne, r_putR, cs_nil, cs_int, cs_ref, cs_null, cs_long, r_aft_n, r_aft_v, r_aft_x, r_aftN_n, r_aftN_v, r_ireturn, r_zreturn, r_creturn, r_breturn, r_areturn, r_return, r_throw, r_ifnn_r, r_ifnn_n, r_objInit, r_tsw, r_ghost, r_lawret, r_rv, r_rv0, qs_0, qs_1, qs_2, qs_3, qs_4, qs_5, qs_6, q_max, q_min, if_true, if_false, and_self, and_true, true_and, and_false, false_and, not_true_eq_false, not_false_eq_true, or_true, true_or, or_false, false_or, eq_self, ne_eq, lit32, ofNat_N, neg_N1, N_add, N_mul, JN_add, NJ_add, J_add, N_lt, N_le, N_eq, N_nat, J_lt, J_le, J_eq, JN_lt, NJ_lt, JN_le, NJ_le, JN_eq, NJ_eq, J_nat, lt_tt, lt_ff, le_tt, le_ff, eqn_ff, ilt_tt, ilt_ff, ile_tt, ile_ff, ieq_ff, gI_sI, gI_sL, gL_sI, gL_sL, gR_sI, gR_sL, Nat.reduceEqDiff, qI_0, qP_0, qV0_0, qV1_0, qV2_0, qV3_0, qV4_0, q_0_0, q_0_1, q_0_2, q_0_3, q_0_4, q_0_5, q_0_6, q_0_7, q_0_8, qR_0_8, q_0_9, qR_0_9, qI_2, qP_2, qV0_2, qV1_2, qV2_2, qV3_2, qV4_2, q_2_0, q_2_1, q_2_2, qA_4, qS_4, qc_4, qp_4, qf_4, qA_5, qS_5, qc_5, qp_5, qf_5, qI_6, qP_6, qV0_6, qV1_6, qV2_6, qV3_6, qV4_6, q_6_1, qA_7, qS_7, qc_7, qp_7, qf_7, qI_50, qP_50, qV0_50, qV1_50, qV2_50, qV3_50, qV4_50, q_50_2, q_50_3, qR_50_3, qZ0_50, qZ1_50, qI_51, qP_51, qV0_51, qV1_51, qV2_51, qV3_51, qV4_51, q_51_1, q_51_2, q_51_3, q_51_4, q_51_0, qR_51_0, qA_52, qS_52, qc_52, qp_52, qf_52, qA_53, qS_53, qc_53, qp_53, qf_53, qA_54, qS_54, qc_54, qp_54, qf_54, qA_55, qS_55, qc_55, qp_55, qf_55, qI_88, qP_88, qV0_88, qV1_88, qV2_88, qV3_88, qV4_88, q_88_2, qI_B0, qP_B0, qV0_B0, qV1_B0, qV2_B0, qV3_B0, qV4_B0, q_B0_0, q_B0_1, q_B0_11, q_B0_12, q_B0_13, q_B0_14, q_B0_15, q_B0_16, qI_B1, qP_B1, qV0_B1, qV1_B1, qV2_B1, qV3_B1, qV4_B1, q_B1_1, q_B1_2, q_B1_3, qA_B2, qS_B2, qc_B2, qp_B2, qf_B2, qA_B3, qS_B3, qc_B3, qp_B3, qf_B3, qA_B4, qS_B4, qc_B4, qp_B4, qf_B4, qI_B5, qP_B5, qV0_B5, qV1_B5, qV2_B5, qV3_B5, qV4_B5, q_B5_1, q_B5_2, q_B5_3, q_B5_4, q_B5_5, q_B5_6, q_B5_7, q_B5_8, q_B5_9, qA_B6, qS_B6, qc_B6, qp_B6, qf_B6, qA_B7, qS_B7, qc_B7, qp_B7, qf_B7, qA_B8, qS_B8, qc_B8, qp_B8, qf_B8, qA_B9, qS_B9, qc_B9, qp_B9, qf_B9, qA_B10, qS_B10, qc_B10, qp_B10, qf_B10, qA_B11, qS_B11, qc_B11, qp_B11, qf_B11, qA_B12, qS_B12, qc_B12, qp_B12, qf_B12, qA_B13, qS_B13, qc_B13, qp_B13, qf_B13, qA_B14, qS_B14, qc_B14, qp_B14, qf_B14, qA_B15, qS_B15, qc_B15, qp_B15, qf_B15, qA_B16, qS_B16, qc_B16, qp_B16, qf_B16, qA_B17, qS_B17, qc_B17, qp_B17, qf_B17, qA_B18, qS_B18, qc_B18, qp_B18, qf_B18, qA_B19, qS_B19, qc_B19, qp_B19, qf_B19, qA_B20, qS_B20, qc_B20, qp_B20, qf_B20, e1, bi_t, a1, r_rv, v3, ← hhc2]
    · rw [u_X12_readSlot, e_X12_readSlot_0]
      simp (disch := first | with_reducible assumption | exact Nat.le_of_ble_eq_true rfl | (simp only [WF_sI, WF_sL, WF_stR, WF_cpI]; with_reducible assumption) | omega | rfl | (show okF _ = true; decide)) only [e_X12_readSlot_13, e_X12_readSlot_31, r_push, r_iload_0, r_aload_0, r_lload_0, r_iload_1, r_aload_1, r_lload_1, r_iload_2, r_aload_2, r_lload_2, r_iload_3, r_aload_3, r_lload_3, r_iload_4, r_aload_4, r_lload_4, r_iload_5, r_aload_5, r_lload_5, r_iload_6, r_aload_6, r_lload_6, r_iload_7, r_aload_7, r_lload_7, r_iload_8, r_aload_8, r_lload_8, r_istore_00, r_astore_00, r_iinc_00, r_lstore_00, r_istore_1i, r_astore_1i, r_iinc_1i, r_lstore_1i, r_istore_1r, r_astore_1r, r_iinc_1r, r_lstore_1r, r_istore_1n, r_astore_1n, r_iinc_1n, r_lstore_1n, r_istore_1z, r_astore_1z, r_iinc_1z, r_lstore_1z, r_istore_2i, r_astore_2i, r_iinc_2i, r_lstore_2i, r_istore_2r, r_astore_2r, r_iinc_2r, r_lstore_2r, r_istore_2n, r_astore_2n, r_iinc_2n, r_lstore_2n, r_istore_2z, r_astore_2z, r_iinc_2z, r_lstore_2z, r_istore_3i, r_astore_3i, r_iinc_3i, r_lstore_3i, r_istore_3r, r_astore_3r, r_iinc_3r, r_lstore_3r, r_istore_3n, r_astore_3n, r_iinc_3n, r_lstore_3n, r_istore_3z, r_astore_3z, r_iinc_3z, r_lstore_3z, r_istore_4i, r_astore_4i, r_iinc_4i, r_lstore_4i, r_istore_4r, r_astore_4r, r_iinc_4r, r_lstore_4r, r_istore_4n, r_astore_4n, r_iinc_4n, r_lstore_4n, r_istore_4z, r_astore_4z, r_iinc_4z, r_lstore_4z, r_istore_5i, r_astore_5i, r_iinc_5i, r_lstore_5i, r_istore_5r, r_astore_5r, r_iinc_5r, r_lstore_5r, r_istore_5n, r_astore_5n, r_iinc_5n, r_lstore_5n, r_istore_5z, r_astore_5z, r_iinc_5z, r_lstore_5z, r_istore_6i, r_astore_6i, r_iinc_6i, r_lstore_6i, r_istore_6r, r_astore_6r, r_iinc_6r, r_lstore_6r, r_istore_6n, r_astore_6n, r_iinc_6n, r_lstore_6n, r_istore_6z, r_astore_6z, r_iinc_6z, r_lstore_6z, r_istore_7i, r_astore_7i, r_iinc_7i, r_lstore_7i, r_istore_7r, r_astore_7r, r_iinc_7r, r_lstore_7r, r_istore_7n, r_astore_7n, r_iinc_7n, r_lstore_7n, r_istore_7z, r_astore_7z, r_iinc_7z, r_lstore_7z, r_istore_8i, r_astore_8i, r_iinc_8i, r_istore_8r, r_astore_8r, r_iinc_8r, r_istore_8n, r_astore_8n, r_iinc_8n, r_istore_8z, r_astore_8z, r_iinc_8z, r_bin, r_lbin, r_div, r_ineg, r_i2l, r_i2b, r_i2c, r_lcmp, r_dup_i, r_dup_r, r_pop_i, r_pop_r, r_dup2, r_ifeq, r_iceq, r_iflt, r_iclt, r_ifge, r_icge, r_ifgt, r_icgt, r_ifle, r_icle, r_ifne, r_icne, r_putR, cs_nil, cs_int, cs_ref, cs_null, cs_long, r_aft_n, r_aft_v, r_aft_x, r_aftN_n, r_aftN_v, r_ireturn, r_zreturn, r_creturn, r_breturn, r_areturn, r_return, r_throw, r_ifnn_r, r_ifnn_n, r_objInit, r_tsw, r_ghost, r_lawret, r_rv, r_rv0, qs_0, qs_1, qs_2, qs_3, qs_4, qs_5, qs_6, q_max, q_min, if_true, if_false, and_self, and_true, true_and, and_false, false_and, not_true_eq_false, not_false_eq_true, or_true, true_or, or_false, false_or, eq_self, ne_eq, lit32, ofNat_N, neg_N1, N_add, N_mul, JN_add, NJ_add, J_add, N_lt, N_le, N_eq, N_nat, J_lt, J_le, J_eq, JN_lt, NJ_lt, JN_le, NJ_le, JN_eq, NJ_eq, J_nat, lt_tt, lt_ff, le_tt, le_ff, eqn_ff, ilt_tt, ilt_ff, ile_tt, ile_ff, ieq_ff, gI_sI, gI_sL, gL_sI, gL_sL, gR_sI, gR_sL, Nat.reduceEqDiff, qI_89, qP_89, qV0_89, qV1_89, qV2_89, qV3_89, qV4_89, q_89_11, q_89_12, q_89_13, q_89_14, q_89_15, q_89_16, q_89_17, q_89_18, q_89_19, q_89_20, q_89_21, q_89_22, q_89_23, q_89_24, q_89_25, q_89_26, q_89_27, q_89_28, q_89_29, q_89_30, q_89_31, q_89_32, q_89_35, q_89_36, q_89_53, q_89_54, q_89_56, q_89_57, q_89_61, q_89_62, q_89_63, q_89_64, q_89_65, q_89_66, q_89_67, q_89_68, q_89_69, q_89_70, q_89_71, q_89_76, q_89_81, q_89_82, q_89_85, qL_89, qPL_89, qZ0_89, qZ1_89, qA_91, qS_91, qc_91, qp_91, qf_91, qA_92, qS_92, qc_92, qp_92, qf_92, qA_93, qS_93, qc_93, qp_93, qf_93, qA_95, qS_95, qc_95, qp_95, qf_95, qA_97, qS_97, qc_97, qp_97, qf_97, qA_98, qS_98, qc_98, qp_98, qf_98, qA_99, qS_99, qc_99, qp_99, qf_99, qA_100, qS_100, qc_100, qp_100, qf_100, qA_101, qS_101, qc_101, qp_101, qf_101, qA_103, qS_103, qc_103, qp_103, qf_103, qA_104, qS_104, qc_104, qp_104, qf_104, qA_105, qS_105, qc_105, qp_105, qf_105, qA_106, qS_106, qc_106, qp_106, qf_106, qA_107, qS_107, qc_107, qp_107, qf_107, qA_108, qS_108, qc_108, qp_108, qf_108, qA_109, qS_109, qc_109, qp_109, qf_109, qA_110, qS_110, qc_110, qp_110, qf_110, qA_112, qS_112, qc_112, qp_112, qf_112, qA_113, qS_113, qc_113, qp_113, qf_113, qA_114, qS_114, qc_114, qp_114, qf_114, qA_115, qS_115, qc_115, qp_115, qf_115, qA_116, qS_116, qc_116, qp_116, qf_116, qA_117, qS_117, qc_117, qp_117, qf_117, qA_118, qS_118, qc_118, qp_118, qf_118, qA_119, qS_119, qc_119, qp_119, qf_119, qA_120, qS_120, qc_120, qp_120, qf_120, qA_121, qS_121, qc_121, qp_121, qf_121, qA_122, qS_122, qc_122, qp_122, qf_122, qA_123, qS_123, qc_123, qp_123, qf_123, qA_124, qS_124, qc_124, qp_124, qf_124, qA_125, qS_125, qc_125, qp_125, qf_125, qA_126, qS_126, qc_126, qp_126, qf_126, qA_127, qS_127, qc_127, qp_127, qf_127, qA_128, qS_128, qc_128, qp_128, qf_128, qA_129, qS_129, qc_129, qp_129, qf_129, qA_130, qS_130, qc_130, qp_130, qf_130, qA_131, qS_131, qc_131, qp_131, qf_131, qA_132, qS_132, qc_132, qp_132, qf_132, e47, ema, e2, bi_t, v4, ← hhr2]
