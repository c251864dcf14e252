/-! what two heaps share: all but the cells of A and the places of Q -/
def inF (A : List Nat) (Q : List (Nat × Nat)) (a k : Nat) : Bool := A.contains a || Q.contains (a, k)
def Fr (A : List Nat) (Q : List (Nat × Nat)) (h h' : AH) : Prop := h'.2.2 = h.2.2 ∧ ∀ a k, inF A Q a k = false → gI h' a k = gI h a k ∧ gL h' a k = gL h a k
set_option maxHeartbeats 400000 in
theorem Fr.refl (A : List Nat) (Q : List (Nat × Nat)) (h : AH) : Fr A Q h h := ⟨rfl, fun _ _ _ => ⟨rfl, rfl⟩⟩
set_option maxHeartbeats 400000 in
theorem Fr.trans {A : List Nat} {Q : List (Nat × Nat)} {h h1 h2 : AH} (x : Fr A Q h h1) (y : Fr A Q h1 h2) : Fr A Q h h2 :=
  ⟨y.1.trans x.1, fun a k z => ⟨((y.2 a k z).1).trans (x.2 a k z).1, ((y.2 a k z).2).trans (x.2 a k z).2⟩⟩
set_option maxHeartbeats 400000 in
theorem inF_mono {A B : List Nat} {Q R : List (Nat × Nat)} (ha : A.all (fun a => B.contains a) = true) (hq : Q.all (fun q => B.contains q.1 || R.contains q) = true) {a k : Nat} (h : inF B R a k = false) : inF A Q a k = false := by
  unfold inF at h ⊢
  simp only [Bool.or_eq_false_iff] at h ⊢
  obtain ⟨h1, h2⟩ := h
  constructor
  · cases hc : A.contains a with
    | false => rfl
    | true =>
      have := List.all_eq_true.mp ha a (by simpa using hc)
      rw [h1] at this
      cases this
  · cases hc : Q.contains (a, k) with
    | false => rfl
    | true =>
      have := List.all_eq_true.mp hq (a, k) (by simpa using hc)
      rw [h1, h2] at this
      cases this
set_option maxHeartbeats 400000 in
theorem Fr.mono {A B : List Nat} {Q R : List (Nat × Nat)} {h h' : AH} (x : Fr A Q h h') (ha : A.all (fun a => B.contains a) = true) (hq : Q.all (fun q => B.contains q.1 || R.contains q) = true) : Fr B R h h' :=
  ⟨x.1, fun a k z => x.2 a k (inF_mono ha hq z)⟩
set_option maxHeartbeats 400000 in
theorem Fr.wf {A : List Nat} {Q : List (Nat × Nat)} {h h' : AH} (x : Fr A Q h h') (w : WF h) : WF h' := w.same x.1
set_option maxHeartbeats 400000 in
theorem Fr.i {A : List Nat} {Q : List (Nat × Nat)} {h h' : AH} (x : Fr A Q h h') (a k : Nat) (ha : inF A Q a k = false) : gI h' a k = gI h a k := (x.2 a k ha).1
set_option maxHeartbeats 400000 in
theorem Fr.l {A : List Nat} {Q : List (Nat × Nat)} {h h' : AH} (x : Fr A Q h h') (a k : Nat) (ha : inF A Q a k = false) : gL h' a k = gL h a k := (x.2 a k ha).2
set_option maxHeartbeats 400000 in
theorem inF_row {A : List Nat} {Q : List (Nat × Nat)} {a : Nat} (ha : (A.contains a || Q.any (fun q => q.1 == a)) = false) (k : Nat) : inF A Q a k = false := by
  unfold inF
  simp only [Bool.or_eq_false_iff] at ha ⊢
  refine ⟨ha.1, ?_⟩
  cases hc : Q.contains (a, k) with
  | false => rfl
  | true =>
    have h1 : (Q.any (fun q => q.1 == a)) = true := List.any_eq_true.mpr ⟨(a, k), by simpa using hc, by simp⟩
    rw [ha.2] at h1
    cases h1
set_option maxHeartbeats 400000 in
theorem Fr.row {A : List Nat} {Q : List (Nat × Nat)} {h h' : AH} (x : Fr A Q h h') {a : Nat} (ha : (A.contains a || Q.any (fun q => q.1 == a)) = false) (k : Nat) : gI h' a k = gI h a k := (x.2 a k (inF_row ha k)).1
set_option maxHeartbeats 400000 in
theorem Fr.rowL {A : List Nat} {Q : List (Nat × Nat)} {h h' : AH} (x : Fr A Q h h') {a : Nat} (ha : (A.contains a || Q.any (fun q => q.1 == a)) = false) (k : Nat) : gL h' a k = gL h a k := (x.2 a k (inF_row ha k)).2
set_option maxHeartbeats 400000 in
theorem Fr.r {A : List Nat} {Q : List (Nat × Nat)} {h h' : AH} (x : Fr A Q h h') (a k : Nat) : gR h' a k = gR h a k := congrArg (fun q => q.1 a k) x.1
set_option maxHeartbeats 400000 in
theorem Fr.sI {A : List Nat} {Q : List (Nat × Nat)} {h h' : AH} (x : Fr A Q h h') {a : Nat} {k : Nat} (ha : inF A Q a k = true) (v : Int32) : Fr A Q h (sI h' a k v) :=
  ⟨x.1, fun b j z => ⟨by rw [gI_sI, if_neg (fun y : b = a ∧ j = k => by rw [y.1, y.2, ha] at z; cases z)]; exact (x.2 b j z).1, (x.2 b j z).2⟩⟩
set_option maxHeartbeats 400000 in
theorem Fr.sL {A : List Nat} {Q : List (Nat × Nat)} {h h' : AH} (x : Fr A Q h h') {a : Nat} {k : Nat} (ha : inF A Q a k = true) (v : Int64) : Fr A Q h (sL h' a k v) :=
  ⟨x.1, fun b j z => ⟨(x.2 b j z).1, by rw [gL_sL, if_neg (fun y : b = a ∧ j = k => by rw [y.1, y.2, ha] at z; cases z)]; exact (x.2 b j z).2⟩⟩
set_option maxHeartbeats 400000 in
theorem inF_c {A : List Nat} {Q : List (Nat × Nat)} {a k : Nat} (h : A.contains a = true) : inF A Q a k = true := by unfold inF; rw [h]; rfl
set_option maxHeartbeats 400000 in
theorem Fr.stR {A : List Nat} {Q : List (Nat × Nat)} {h h' : AH} (x : Fr A Q h h') {a : Nat} (ha : A.contains a = true) (n : Nat) (f : Nat → Int32) : Fr A Q h (stR h' a n f) :=
  ⟨x.1, fun b j z => ⟨by rw [gI_stR, if_neg (fun y : b = a ∧ j < n => by rw [y.1, inF_c ha] at z; cases z)]; exact (x.2 b j z).1, (x.2 b j z).2⟩⟩
set_option maxHeartbeats 400000 in
theorem Fr.cpI {A : List Nat} {Q : List (Nat × Nat)} {h h' : AH} (x : Fr A Q h h') {b : Nat} (hb : A.contains b = true) (a sp dp n : Nat) : Fr A Q h (cpI h' a sp b dp n) :=
  ⟨x.1, fun c j z => ⟨by rw [gI_cpI, if_neg (fun y : c = b ∧ dp ≤ j ∧ j < dp + n => by rw [y.1, inF_c hb] at z; cases z)]; exact (x.2 c j z).1, (x.2 c j z).2⟩⟩
set_option maxHeartbeats 400000 in
theorem xt_WF {h : AH} (w : WF h) : xt h = h := by
  obtain ⟨a, b, c, d, e⟩ := h
  have : e = 1 := w.2.1
  subst this
  rfl
/-! small things -/
def bi (b : Bool) : Int32 := if b then N 1 else N 0
set_option maxHeartbeats 400000 in
theorem bi_t : bi true = N 1 := rfl
set_option maxHeartbeats 400000 in
theorem bi_f : bi false = N 0 := rfl
set_option maxHeartbeats 400000 in
theorem bi_0 (b : Bool) : (bi b = N 0) = (b = false) := by cases b <;> decide
set_option maxHeartbeats 400000 in
theorem bi_1 (b : Bool) : (bi b = N 1) = (b = true) := by cases b <;> decide
set_option maxHeartbeats 400000 in
theorem bi_z (b : Bool) : (bi b = N 0 ∨ bi b = N 1) = True := by cases b <;> decide
set_option maxHeartbeats 400000 in
theorem idx_cases (x : Int32) {n : Nat} (hn : n < 2147483648) : (∃ k, k < n ∧ x = N k) ∨ (x < N 0 ∨ N n ≤ x) := by
  by_cases h : x < 0
  · exact Or.inr (Or.inl h)
  · have hx := of_nn (Int32.not_lt.mp h)
    by_cases hk : x.toNatClampNeg < n
    · exact Or.inl ⟨_, hk, hx⟩
    · refine Or.inr (Or.inr ?_)
      rw [hx, N_le hn (clamp_lt x)]
      omega
/-- a mask out of a set -/
def mkN (f : Nat → Bool) : Nat → Nat
  | 0 => 0
  | n + 1 => mkN f n ||| (if f n = true then 2 ^ n else 0)
set_option maxHeartbeats 400000 in
theorem mkN_lt (f : Nat → Bool) (n : Nat) : mkN f n < 2 ^ n := by
  induction n with
  | zero => simp [mkN]
  | succ n ih =>
    unfold mkN
    have e : 2 ^ (n + 1) = 2 ^ n + 2 ^ n := by rw [Nat.pow_succ]; omega
    apply Nat.or_lt_two_pow
    · omega
    · have := Nat.two_pow_pos n
      split <;> omega
set_option maxHeartbeats 400000 in
theorem mkN_bit (f : Nat → Bool) (n k : Nat) : (mkN f n).testBit k = (decide (k < n) && f k) := by
  induction n with
  | zero => simp [mkN]
  | succ n ih =>
    unfold mkN
    rw [Nat.testBit_or, ih]
    by_cases hk : k = n
    · subst hk
      cases hf : f k <;> simp [Nat.testBit_two_pow_self]
    · have h1 : decide (k < n + 1) = decide (k < n) := by
        by_cases h : k < n
        · simp [h, Nat.lt_succ_of_lt h]
        · have : ¬ k < n + 1 := by omega
          simp [h, this]
      rw [h1]
      cases hf : f n
      · simp
      · rw [if_pos rfl, Nat.testBit_two_pow_of_ne (fun z => hk z.symm), Bool.or_false]
set_option maxHeartbeats 400000 in
theorem mkN_cong {f g : Nat → Bool} {n : Nat} (h : ∀ k, k < n → f k = g k) : mkN f n = mkN g n := by
  induction n with
  | zero => rfl
  | succ n ih =>
    unfold mkN
    rw [ih (fun k hk => h k (Nat.lt_succ_of_lt hk)), h n (Nat.lt_succ_self n)]
set_option maxHeartbeats 400000 in
theorem bt_mk {f : Nat → Bool} {n k : Nat} (hk : k < 32) : bt (N (mkN f n)) k = (decide (k < n) && f k) := by rw [bt_N hk, mkN_bit]
set_option maxHeartbeats 400000 in
theorem mk_eq {x : Int32} {f : Nat → Bool} {n : Nat} (h : ∀ k, k < 32 → bt x k = (decide (k < n) && f k)) : x = N (mkN f n) := bt_ext (fun k hk => by rw [h k hk, bt_mk hk])
set_option maxHeartbeats 400000 in
theorem N_or (a b : Nat) : N a ||| N b = N (a ||| b) := bt_ext (fun k hk => by rw [bt_or, bt_N hk, bt_N hk, bt_N hk, Nat.testBit_or])
set_option maxHeartbeats 400000 in
theorem N_and (a b : Nat) : N a &&& N b = N (a &&& b) := bt_ext (fun k hk => by rw [bt_and, bt_N hk, bt_N hk, bt_N hk, Nat.testBit_and])
set_option maxHeartbeats 400000 in
theorem N_xor (a b : Nat) : N a ^^^ N b = N (a ^^^ b) := bt_ext (fun k hk => by rw [bt_xor, bt_N hk, bt_N hk, bt_N hk, Nat.testBit_xor])
set_option maxHeartbeats 400000 in
theorem N_not (x : Int32) (a : Nat) {k : Nat} (hk : k < 32) : bt (x &&& (N a ^^^ J (-1))) k = (bt x k && !a.testBit k) := by
  rw [bt_and, bt_xor, bt_m1 hk, bt_N hk, Bool.xor_true]
set_option maxHeartbeats 400000 in
theorem noset {x : Int32} {n : Nat} (hn : n < 31) : (x &&& (N (2 ^ n - 1) ^^^ J (-1)) = N 0) = ∃ a, a < 2 ^ n ∧ x = N a := by
  apply propext
  constructor
  · intro h
    refine bt_small (by omega) (fun k h1 h2 => ?_)
    have := N_not x (2 ^ n - 1) h2
    rw [h, bt_0, Nat.testBit_two_pow_sub_one] at this
    have h3 : ¬ k < n := by omega
    simpa [h3] using this.symm
  · rintro ⟨a, ha, rfl⟩
    refine bt_ext (fun k hk => ?_)
    rw [N_not _ _ hk, bt_0, bt_N hk, Nat.testBit_two_pow_sub_one]
    by_cases h3 : k < n
    · simp [h3]
    · have : a.testBit k = false := Nat.testBit_lt_two_pow (Nat.lt_of_lt_of_le ha (Nat.pow_le_pow_right (by decide) (by omega)))
      simp [this]
