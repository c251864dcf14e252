/-! tokens: pure. bs k: the bytes (0 to 255), n how many -/
def spc (c : Nat) : Bool := c == 32 || c == 10
def ltr (c : Nat) : Bool := decide (97 ≤ c) && decide (c ≤ 122)
def dgt (c : Nat) : Bool := decide (48 ≤ c) && decide (c ≤ 57)
def rnx (P : Nat → Bool) (bs : Nat → Nat) (n : Nat) : Nat → Nat → Nat
  | 0, i => i
  | f + 1, i => if decide (i < n) && P (bs i) then rnx P bs n f (i + 1) else i
def rne (P : Nat → Bool) (bs : Nat → Nat) (n i : Nat) : Nat := rnx P bs n (n - i) i
set_option maxHeartbeats 2000000 in
theorem rne_S {P : Nat → Bool} {bs : Nat → Nat} {n i : Nat} (h : i < n) (hp : P (bs i) = true) : rne P bs n i = rne P bs n (i + 1) := by
  unfold rne
  rw [show n - i = (n - (i + 1)) + 1 from by omega, rnx, if_pos (by simp [h, hp])]
set_option maxHeartbeats 2000000 in
theorem rne_0 {P : Nat → Bool} {bs : Nat → Nat} {n i : Nat} (h : ¬ (i < n ∧ P (bs i) = true)) : rne P bs n i = i := by
  unfold rne
  cases hf : n - i with
  | zero => rfl
  | succ m => rw [rnx, if_neg (by simpa using h)]
set_option maxHeartbeats 2000000 in
theorem rnx_b {P : Nat → Bool} {bs : Nat → Nat} {n : Nat} : ∀ f i, i ≤ rnx P bs n f i ∧ (i ≤ n → rnx P bs n f i ≤ n) := by
  intro f
  induction f with
  | zero => intro i; exact ⟨Nat.le_refl _, fun h => h⟩
  | succ f ih =>
    intro i
    unfold rnx
    split
    · next h =>
      simp only [Bool.and_eq_true, decide_eq_true_eq] at h
      have := ih (i + 1)
      exact ⟨by omega, fun _ => this.2 (by omega)⟩
    · exact ⟨Nat.le_refl _, fun h => h⟩
set_option maxHeartbeats 2000000 in
theorem rne_ge {P : Nat → Bool} {bs : Nat → Nat} {n i : Nat} : i ≤ rne P bs n i := (rnx_b _ _).1
set_option maxHeartbeats 2000000 in
theorem rne_le {P : Nat → Bool} {bs : Nat → Nat} {n i : Nat} (h : i ≤ n) : rne P bs n i ≤ n := (rnx_b _ _).2 h
set_option maxHeartbeats 2000000 in
theorem rne_mem {P : Nat → Bool} {bs : Nat → Nat} {n : Nat} : ∀ m i, n - i = m → ∀ j, i ≤ j → j < rne P bs n i → P (bs j) = true := by
  intro m
  induction m with
  | zero =>
    intro i hm j h1 h2
    rw [rne_0 (by omega)] at h2
    omega
  | succ m ih =>
    intro i hm j h1 h2
    by_cases c : i < n ∧ P (bs i) = true
    · by_cases e : j = i
      · subst e; exact c.2
      · rw [rne_S c.1 c.2] at h2
        exact ih (i + 1) (by omega) j (by omega) h2
    · rw [rne_0 c] at h2; omega
set_option maxHeartbeats 2000000 in
theorem rne_stop {P : Nat → Bool} {bs : Nat → Nat} {n : Nat} : ∀ m i, n - i = m → ¬ (rne P bs n i < n ∧ P (bs (rne P bs n i)) = true) := by
  intro m
  induction m with
  | zero =>
    intro i hm
    rw [rne_0 (by omega)]
    omega
  | succ m ih =>
    intro i hm
    by_cases c : i < n ∧ P (bs i) = true
    · rw [rne_S c.1 c.2]
      exact ih (i + 1) (by omega)
    · rw [rne_0 c]; exact c
/-- the end of the token that begins at p -/
def te (bs : Nat → Nat) (n p : Nat) : Nat := if n ≤ p then p else if ltr (bs p) = true then rne ltr bs n (p + 1) else if dgt (bs p) = true then rne dgt bs n (p + 1) else p + 1
def tk (bs : Nat → Nat) (n p : Nat) : Nat := if n ≤ p then 0 else if ltr (bs p) = true then 1 else if dgt (bs p) = true then 2 else 3
def allB (f : Nat → Bool) : Nat → Bool
  | 0 => true
  | n + 1 => allB f n && f n
set_option maxHeartbeats 2000000 in
theorem allB_t {f : Nat → Bool} {n : Nat} : allB f n = true ↔ ∀ j, j < n → f j = true := by
  induction n with
  | zero => exact ⟨fun _ j hj => absurd hj (Nat.not_lt_zero _), fun _ => rfl⟩
  | succ n ih =>
    unfold allB
    rw [Bool.and_eq_true, ih]
    constructor
    · rintro ⟨h1, h2⟩ j hj
      by_cases e : j = n
      · subst e; exact h2
      · exact h1 j (by omega)
    · exact fun h => ⟨fun j hj => h j (by omega), h n (by omega)⟩
def wl (w : Nat) : Nat := txLen.getD (6 + w) 0
def wc (w j : Nat) : Int32 := (txByt.getD (6 + w) []).getD j 0
def wm (bs : Nat → Nat) (n p w : Nat) : Bool := decide (wl w = te bs n p - p) && allB (fun j => decide (wc w j = N (bs (p + j)))) (wl w)
def fnd (f : Nat → Bool) : Nat → Nat → Option Nat
  | 0, _ => none
  | m + 1, i => if f i = true then some i else fnd f m (i + 1)
set_option maxHeartbeats 2000000 in
theorem fnd_some {f : Nat → Bool} : ∀ m i k, fnd f m i = some k → i ≤ k ∧ k < i + m ∧ f k = true := by
  intro m
  induction m with
  | zero => intro i k h; cases h
  | succ m ih =>
    intro i k h
    unfold fnd at h
    split at h
    · next hf => cases h; exact ⟨Nat.le_refl _, by omega, hf⟩
    · have := ih _ _ h; exact ⟨by omega, by omega, this.2.2⟩
set_option maxHeartbeats 2000000 in
theorem fnd_none {f : Nat → Bool} : ∀ m i, fnd f m i = none → ∀ k, i ≤ k → k < i + m → f k = false := by
  intro m
  induction m with
  | zero => intro i h k h1 h2; omega
  | succ m ih =>
    intro i h k h1 h2
    unfold fnd at h
    split at h
    · cases h
    · next hf =>
      by_cases e : k = i
      · subst e; simpa using hf
      · exact ih _ h k (by omega) (by omega)
/-- the sort of the token at p -/
def sc (bs : Nat → Nat) (n p : Nat) : Nat :=
  if n ≤ p then 25 else if ltr (bs p) = true then (match fnd (wm bs n p) 20 0 with | some w => w | none => if te bs n p - p ≤ 6 then 20 else 24)
  else if dgt (bs p) = true then (if te bs n p - p ≤ 4 then 21 else 24) else if bs p = 59 then 22 else if bs p = 44 then 23 else 24
def vW (bs : Nat → Nat) (p : Nat) : Nat → Nat
  | 0 => 0
  | k + 1 => 27 * vW bs p k + (bs (p + k) - 96)
def vD (bs : Nat → Nat) (p : Nat) : Nat → Nat
  | 0 => 0
  | k + 1 => 10 * vD bs p k + (bs (p + k) - 48)
/-- where the i-th token begins -/
def tb (bs : Nat → Nat) (n : Nat) : Nat → Nat
  | 0 => rne spc bs n 0
  | i + 1 => rne spc bs n (te bs n (tb bs n i))
set_option maxHeartbeats 2000000 in
theorem te_gt {bs : Nat → Nat} {n p : Nat} (h : p < n) : p < te bs n p ∧ te bs n p ≤ n := by
  unfold te
  rw [if_neg (by omega)]
  split
  · exact ⟨rne_ge, rne_le (by omega)⟩
  · split
    · exact ⟨rne_ge, rne_le (by omega)⟩
    · omega
set_option maxHeartbeats 2000000 in
theorem tb_le {bs : Nat → Nat} {n : Nat} : ∀ i, tb bs n i ≤ n := by
  intro i
  induction i with
  | zero => exact rne_le (Nat.zero_le _)
  | succ i ih =>
    refine rne_le ?_
    by_cases h : tb bs n i < n
    · exact (te_gt h).2
    · unfold te
      rw [if_pos (by omega)]
      exact ih
set_option maxHeartbeats 2000000 in
theorem te_run {bs : Nat → Nat} {n p : Nat} (h : p < n) : (ltr (bs p) = true → ∀ j, p ≤ j → j < te bs n p → ltr (bs j) = true) ∧ (ltr (bs p) = false → dgt (bs p) = true → ∀ j, p ≤ j → j < te bs n p → dgt (bs j) = true) ∧ (ltr (bs p) = false → dgt (bs p) = false → te bs n p = p + 1) := by
  have hn : ¬ n ≤ p := by omega
  refine ⟨fun hl j h1 h2 => ?_, fun hl hd j h1 h2 => ?_, fun hl hd => ?_⟩
  · unfold te at h2
    rw [if_neg hn, if_pos hl] at h2
    by_cases e : j = p
    · subst e; exact hl
    · exact rne_mem _ _ rfl j (by omega) h2
  · unfold te at h2
    rw [if_neg hn, if_neg (by rw [hl]; decide), if_pos hd] at h2
    by_cases e : j = p
    · subst e; exact hd
    · exact rne_mem _ _ rfl j (by omega) h2
  · unfold te
    rw [if_neg hn, if_neg (by rw [hl]; decide), if_neg (by rw [hd]; decide)]
set_option maxHeartbeats 2000000 in
theorem wm_one {bs : Nat → Nat} {n p v w : Nat} (hv : v < 20) (hw : w < 20) (h1 : wm bs n p v = true) (h2 : wm bs n p w = true) : v = w := by
  by_cases e : v = w
  · exact e
  · exfalso
    unfold wm at h1 h2
    simp only [Bool.and_eq_true, decide_eq_true_eq] at h1 h2
    have a1 := allB_t.mp h1.2
    have a2 := allB_t.mp h2.2
    rcases tx_apart (6 + v) (by omega) (6 + w) (by omega) (by omega) with h | ⟨k, k1, k2, k3⟩
    · exact h (h1.1.trans h2.1.symm)
    · have e1 := a1 k k1
      have e2 := a2 k k2
      simp only [decide_eq_true_eq] at e1 e2
      exact k3 (e1.trans e2.symm)
set_option maxHeartbeats 2000000 in
theorem sc_word {bs : Nat → Nat} {n p w : Nat} (hw : w < 20) : decide (sc bs n p = w) = (decide (p < n) && (ltr (bs p) && wm bs n p w)) := by
  unfold sc
  by_cases hp : n ≤ p
  · rw [if_pos hp]
    have h1 : ¬ p < n := by omega
    have h2 : ¬ 25 = w := by omega
    simp [h1, h2]
  · have h1 : p < n := by omega
    rw [if_neg hp]
    cases hl : ltr (bs p) with
    | true =>
      rw [if_pos rfl]
      cases hf : fnd (wm bs n p) 20 0 with
      | none =>
        have := fnd_none _ _ hf w (Nat.zero_le _) (by omega)
        have h2 : ¬ (if te bs n p - p ≤ 6 then 20 else 24) = w := by split <;> omega
        dsimp only
        rw [decide_eq_false h2, this]
        simp
      | some v =>
        obtain ⟨-, v2, v3⟩ := fnd_some _ _ _ hf
        dsimp only
        cases hm : wm bs n p w with
        | true =>
          have := wm_one (by omega) hw v3 hm
          simp [h1, this]
        | false =>
          have : v ≠ w := fun z => by rw [z] at v3; rw [v3] at hm; cases hm
          simp [this]
    | false =>
      rw [if_neg (by decide)]
      have h2 : ¬ (if dgt (bs p) = true then (if te bs n p - p ≤ 4 then 21 else 24) else if bs p = 59 then 22 else if bs p = 44 then 23 else 24) = w := by
        split
        · split <;> omega
        · split
          · omega
          · split <;> omega
      rw [decide_eq_false h2]
      simp
set_option maxHeartbeats 2000000 in
theorem sc_name {bs : Nat → Nat} {n p : Nat} (h : sc bs n p = 20) : p < n ∧ ltr (bs p) = true ∧ te bs n p - p ≤ 6 := by
  unfold sc at h
  by_cases hp : n ≤ p
  · rw [if_pos hp] at h; omega
  · rw [if_neg hp] at h
    refine ⟨by omega, ?_⟩
    cases hl : ltr (bs p) with
    | true =>
      rw [hl, if_pos rfl] at h
      cases hf : fnd (wm bs n p) 20 0 with
      | none =>
        rw [hf] at h
        dsimp only at h
        split at h
        · next hc => exact ⟨rfl, hc⟩
        · omega
      | some v =>
        rw [hf] at h
        have := (fnd_some _ _ _ hf).2.1
        dsimp only at h
        omega
    | false =>
      rw [hl, if_neg (by decide)] at h
      split at h
      · split at h <;> omega
      · split at h
        · omega
        · split at h <;> omega
set_option maxHeartbeats 2000000 in
theorem sc_num {bs : Nat → Nat} {n p : Nat} : decide (sc bs n p = 21) = (decide (tk bs n p = 2) && decide (te bs n p - p ≤ 4)) := by
  unfold sc tk
  by_cases hp : n ≤ p
  · rw [if_pos hp, if_pos hp]; rfl
  · rw [if_neg hp, if_neg hp]
    cases hl : ltr (bs p) with
    | true =>
      simp only [eq_self, if_true]
      have : ¬ (match fnd (wm bs n p) 20 0 with | some w => w | none => if te bs n p - p ≤ 6 then 20 else 24) = 21 := by
        cases hf : fnd (wm bs n p) 20 0 with
        | none => dsimp only; split <;> omega
        | some v => have := (fnd_some _ _ _ hf).2.1; dsimp only; omega
      rw [decide_eq_false this]; rfl
    | false =>
      simp only [Bool.false_eq_true, if_false]
      cases hd : dgt (bs p) with
      | true =>
        simp only [eq_self, if_true]
        by_cases c : te bs n p - p ≤ 4
        · simp [c]
        · simp [c]
      | false =>
        simp only [Bool.false_eq_true, if_false]
        have : ¬ (if bs p = 59 then 22 else if bs p = 44 then 23 else 24) = 21 := by
          split
          · omega
          · split <;> omega
        rw [decide_eq_false this]; rfl
set_option maxHeartbeats 2000000 in
theorem sc_sign {bs : Nat → Nat} {n p v : Nat} (hv : v = 22 ∨ v = 23) : decide (sc bs n p = v) = (decide (tk bs n p = 3) && decide (bs p = if v = 22 then 59 else 44)) := by
  unfold sc tk
  by_cases hp : n ≤ p
  · rw [if_pos hp, if_pos hp, decide_eq_false (by omega)]; rfl
  · rw [if_neg hp, if_neg hp]
    cases hl : ltr (bs p) with
    | true =>
      simp only [eq_self, if_true]
      have : ¬ (match fnd (wm bs n p) 20 0 with | some w => w | none => if te bs n p - p ≤ 6 then 20 else 24) = v := by
        cases hf : fnd (wm bs n p) 20 0 with
        | none => dsimp only; split <;> omega
        | some w => have := (fnd_some _ _ _ hf).2.1; dsimp only; omega
      rw [decide_eq_false this]; rfl
    | false =>
      simp only [Bool.false_eq_true, if_false]
      cases hd : dgt (bs p) with
      | true =>
        simp only [eq_self, if_true]
        have : ¬ (if te bs n p - p ≤ 4 then 21 else 24) = v := by split <;> omega
        rw [decide_eq_false this]; rfl
      | false =>
        simp only [Bool.false_eq_true, if_false]
        rcases hv with rfl | rfl
        · by_cases c : bs p = 59
          · simp [c]
          · simp [c]
            split <;> omega
        · by_cases c : bs p = 59
          · simp [c]
          · by_cases c2 : bs p = 44 <;> simp [c, c2]
set_option maxHeartbeats 2000000 in
theorem sc_end {bs : Nat → Nat} {n p : Nat} : decide (sc bs n p = 25) = decide (tk bs n p = 0) := by
  unfold sc tk
  by_cases hp : n ≤ p
  · rw [if_pos hp, if_pos hp]; rfl
  · rw [if_neg hp, if_neg hp]
    cases hl : ltr (bs p) with
    | true =>
      simp only [eq_self, if_true]
      have : ¬ (match fnd (wm bs n p) 20 0 with | some w => w | none => if te bs n p - p ≤ 6 then 20 else 24) = 25 := by
        cases hf : fnd (wm bs n p) 20 0 with
        | none => dsimp only; split <;> omega
        | some w => have := (fnd_some _ _ _ hf).2.1; dsimp only; omega
      rw [decide_eq_false this]; rfl
    | false =>
      simp only [Bool.false_eq_true, if_false]
      split
      · next hd =>
        have : ¬ (if te bs n p - p ≤ 4 then 21 else 24) = 25 := by split <;> omega
        rw [decide_eq_false this]; rfl
      · next hd =>
        have : ¬ (if bs p = 59 then 22 else if bs p = 44 then 23 else 24) = 25 := by
          split
          · omega
          · split <;> omega
        rw [decide_eq_false this]; rfl
set_option maxHeartbeats 2000000 in
theorem sc_le {bs : Nat → Nat} {n p : Nat} : sc bs n p ≤ 25 := by
  unfold sc
  split
  · omega
  · split
    · cases hf : fnd (wm bs n p) 20 0 with
      | none => dsimp only; split <;> omega
      | some w => have := (fnd_some _ _ _ hf).2.1; dsimp only; omega
    · split
      · split <;> omega
      · split
        · omega
        · split <;> omega
set_option maxHeartbeats 2000000 in
theorem vW_lt {bs : Nat → Nat} {p : Nat} : ∀ k, (∀ j, j < k → bs (p + j) ≤ 122) → vW bs p k < 27 ^ k := by
  intro k
  induction k with
  | zero => intro _; exact Nat.one_pos
  | succ k ih =>
    intro h
    have h1 := ih (fun j hj => h j (by omega))
    have h2 := h k (by omega)
    unfold vW
    rw [Nat.pow_succ]
    omega
set_option maxHeartbeats 2000000 in
theorem vD_lt {bs : Nat → Nat} {p : Nat} : ∀ k, (∀ j, j < k → bs (p + j) ≤ 57) → vD bs p k < 10 ^ k := by
  intro k
  induction k with
  | zero => intro _; exact Nat.one_pos
  | succ k ih =>
    intro h
    have h1 := ih (fun j hj => h j (by omega))
    have h2 := h k (by omega)
    unfold vD
    rw [Nat.pow_succ]
    omega
/-! the reference's tokens -/
def Lg (k : Nat) : Int64 := Int64.ofInt k
/-- the input -/
def IM (bs : Nat → Nat) (n : Nat) (h : AH) : Prop := n ≤ 1000 ∧ gI h 89 37 = N n ∧ (∀ k, k < n → gI h 113 k = N (bs k)) ∧ ∀ k, bs k < 256
def LX (bs : Nat → Nat) (n p : Nat) (h : AH) : Prop :=
  gI h 89 43 = N p ∧ gI h 89 42 = N (te bs n p) ∧ gI h 89 46 = N (tk bs n p) ∧ (p < n → ltr (bs p) = true → te bs n p - p ≤ 12 → gL h 89 45 = Lg (vW bs p (te bs n p - p))) ∧
  (p < n → ltr (bs p) = false → dgt (bs p) = true → te bs n p - p ≤ 4 → gI h 89 44 = N (vD bs p (te bs n p - p))) ∧ (p < n → ltr (bs p) = false → dgt (bs p) = false → gI h 89 44 = N (bs p))
def frL : List (Nat × Nat) := [(89, 42), (89, 43), (89, 44), (89, 45), (89, 46)]
set_option maxHeartbeats 2000000 in
theorem IM.fr {bs : Nat → Nat} {n : Nat} {h h' : AH} {A : List Nat} {Q : List (Nat × Nat)} (m : IM bs n h) (f : Fr A Q h h') (ok : okR A Q [113] [(89, 37)] = true) : IM bs n h' :=
  ⟨m.1, (f.i 89 37 (okR_p (p := (89, 37)) ok (by decide))).trans m.2.1, fun k hk => (f.row (okR_r ok (by decide)) k).trans (m.2.2.1 k hk), m.2.2.2⟩
set_option maxHeartbeats 2000000 in
theorem LX.fr {bs : Nat → Nat} {n p : Nat} {h h' : AH} {A : List Nat} {Q : List (Nat × Nat)} (m : LX bs n p h) (f : Fr A Q h h') (ok : okR A Q [] frL = true) : LX bs n p h' := by
  obtain ⟨m1, m2, m3, m4, m5, m6⟩ := m
  have e := fun (k : Nat) (hk : (89, k) ∈ frL) => f.i 89 k (okR_p (p := (89, k)) ok hk)
  have e2 := f.l 89 45 (okR_p (p := (89, 45)) ok (by decide))
  refine ⟨(e 43 (by decide)).trans m1, (e 42 (by decide)).trans m2, (e 46 (by decide)).trans m3, fun a b c => e2.trans (m4 a b c), fun a b c d => ?_, fun a b c => ?_⟩
  · rw [e 44 (by decide)]; exact m5 a b c d
  · rw [e 44 (by decide)]; exact m6 a b c
set_option maxHeartbeats 2000000 in
theorem m_byteAt {bs : Nat → Nat} {n : Nat} {h : AH} (w : WF h) (m : IM bs n h) {k : Nat} (hk : k < 2000) : mX12_byteAt [.ref 89, .int (N k)] h = some (.inl (some (.int (if k < n then N (bs k) else J (-1)))), h) := by
  obtain ⟨m1, m2, m3, m4⟩ := m
  by_cases c : k < n
  · have := m3 k c
    simp (disch := first | with_reducible assumption | exact Nat.le_of_ble_eq_true rfl | (simp only [WF_sI, WF_sL, WF_stR, WF_cpI]; with_reducible assumption) | omega | rfl | (show okF _ = true; decide)) only [e_X12_byteAt_18, e_X12_byteAt_0, u_X12_byteAt, r_push, r_iload_0, r_aload_0, r_lload_0, r_iload_1, r_aload_1, r_lload_1, r_iload_2, r_aload_2, r_lload_2, r_iload_3, r_aload_3, r_lload_3, r_iload_4, r_aload_4, r_lload_4, r_iload_5, r_aload_5, r_lload_5, r_iload_6, r_aload_6, r_lload_6, r_iload_7, r_aload_7, r_lload_7, r_iload_8, r_aload_8, r_lload_8, r_istore_00, r_astore_00, r_iinc_00, r_lstore_00, r_istore_1i, r_astore_1i, r_iinc_1i, r_lstore_1i, r_istore_1r, r_astore_1r, r_iinc_1r, r_lstore_1r, r_istore_1n, r_astore_1n, r_iinc_1n, r_lstore_1n, r_istore_1z, r_astore_1z, r_iinc_1z, r_lstore_1z, r_istore_2i, r_astore_2i, r_iinc_2i, r_lstore_2i, r_istore_2r, r_astore_2r, r_iinc_2r, r_lstore_2r, r_istore_2n, r_astore_2n, r_iinc_2n, r_lstore_2n, r_istore_2z, r_astore_2z, r_iinc_2z, r_lstore_2z, r_istore_3i, r_astore_3i, r_iinc_3i, r_lstore_3i, r_istore_3r, r_astore_3r, r_iinc_3r, r_lstore_3r, r_istore_3n, r_astore_3n, r_iinc_3n, r_lstore_3n, r_istore_3z, r_astore_3z, r_iinc_3z, r_lstore_3z, r_istore_4i, r_astore_4i, r_iinc_4i, r_lstore_4i, r_istore_4r, r_astore_4r, r_iinc_4r, r_lstore_4r, r_istore_4n, r_astore_4n, r_iinc_4n, r_lstore_4n, r_istore_4z, r_astore_4z, r_iinc_4z, r_lstore_4z, r_istore_5i, r_astore_5i, r_iinc_5i, r_lstore_5i, r_istore_5r, r_astore_5r, r_iinc_5r, r_lstore_5r, r_istore_5n, r_astore_5n, r_iinc_5n, r_lstore_5n, r_istore_5z, r_astore_5z, r_iinc_5z, r_lstore_5z, r_istore_6i, r_astore_6i, r_iinc_6i, r_lstore_6i, r_istore_6r, r_astore_6r, r_iinc_6r, r_lstore_6r, r_istore_6n, r_astore_6n, r_iinc_6n, r_lstore_6n, r_istore_6z, r_astore_6z, r_iinc_6z, r_lstore_6z, r_istore_7i, r_astore_7i, r_iinc_7i, r_lstore_7i, r_istore_7r, r_astore_7r, r_iinc_7r, r_lstore_7r, r_istore_7n, r_astore_7n, r_iinc_7n, r_lstore_7n, r_istore_7z, r_astore_7z, r_iinc_7z, r_lstore_7z, r_istore_8i, r_astore_8i, r_iinc_8i, r_istore_8r, r_astore_8r, r_iinc_8r, r_istore_8n, r_astore_8n, r_iinc_8n, r_istore_8z, r_astore_8z, r_iinc_8z, r_bin, r_lbin, r_div, r_ineg, r_i2l, r_i2b, r_i2c, r_lcmp, r_dup_i, r_dup_r, r_pop_i, r_pop_r, r_dup2, r_ifeq, r_iceq, r_iflt, r_iclt, r_ifge, r_icge, r_ifgt, r_icgt, r_ifle, r_icle, r_ifne, r_icne, r_putR, cs_nil, cs_int, cs_ref, cs_null, cs_long, r_aft_n, r_aft_v, r_aft_x, r_aftN_n, r_aftN_v, r_ireturn, r_zreturn, r_creturn, r_breturn, r_areturn, r_return, r_throw, r_ifnn_r, r_ifnn_n, r_objInit, r_tsw, r_ghost, r_lawret, r_rv, r_rv0, qs_0, qs_1, qs_2, qs_3, qs_4, qs_5, qs_6, q_max, q_min, if_true, if_false, and_self, and_true, true_and, and_false, false_and, not_true_eq_false, not_false_eq_true, or_true, true_or, or_false, false_or, eq_self, ne_eq, lit32, ofNat_N, neg_N1, N_add, N_mul, JN_add, NJ_add, J_add, N_lt, N_le, N_eq, N_nat, J_lt, J_le, J_eq, JN_lt, NJ_lt, JN_le, NJ_le, JN_eq, NJ_eq, J_nat, lt_tt, lt_ff, le_tt, le_ff, eqn_ff, ilt_tt, ilt_ff, ile_tt, ile_ff, ieq_ff, gI_sI, gI_sL, gL_sI, gL_sL, gR_sI, gR_sL, Nat.reduceEqDiff, qI_89, qP_89, qV0_89, qV1_89, qV2_89, qV3_89, qV4_89, q_89_11, q_89_12, q_89_13, q_89_14, q_89_15, q_89_16, q_89_17, q_89_18, q_89_19, q_89_20, q_89_21, q_89_22, q_89_23, q_89_24, q_89_25, q_89_26, q_89_27, q_89_28, q_89_29, q_89_30, q_89_31, q_89_32, q_89_35, q_89_36, q_89_53, q_89_54, q_89_56, q_89_57, q_89_61, q_89_62, q_89_63, q_89_64, q_89_65, q_89_66, q_89_67, q_89_68, q_89_69, q_89_70, q_89_71, q_89_76, q_89_81, q_89_82, q_89_85, qL_89, qPL_89, qZ0_89, qZ1_89, qA_91, qS_91, qc_91, qp_91, qf_91, qA_92, qS_92, qc_92, qp_92, qf_92, qA_93, qS_93, qc_93, qp_93, qf_93, qA_95, qS_95, qc_95, qp_95, qf_95, qA_97, qS_97, qc_97, qp_97, qf_97, qA_98, qS_98, qc_98, qp_98, qf_98, qA_99, qS_99, qc_99, qp_99, qf_99, qA_100, qS_100, qc_100, qp_100, qf_100, qA_101, qS_101, qc_101, qp_101, qf_101, qA_103, qS_103, qc_103, qp_103, qf_103, qA_104, qS_104, qc_104, qp_104, qf_104, qA_105, qS_105, qc_105, qp_105, qf_105, qA_106, qS_106, qc_106, qp_106, qf_106, qA_107, qS_107, qc_107, qp_107, qf_107, qA_108, qS_108, qc_108, qp_108, qf_108, qA_109, qS_109, qc_109, qp_109, qf_109, qA_110, qS_110, qc_110, qp_110, qf_110, qA_112, qS_112, qc_112, qp_112, qf_112, qA_113, qS_113, qc_113, qp_113, qf_113, qA_114, qS_114, qc_114, qp_114, qf_114, qA_115, qS_115, qc_115, qp_115, qf_115, qA_116, qS_116, qc_116, qp_116, qf_116, qA_117, qS_117, qc_117, qp_117, qf_117, qA_118, qS_118, qc_118, qp_118, qf_118, qA_119, qS_119, qc_119, qp_119, qf_119, qA_120, qS_120, qc_120, qp_120, qf_120, qA_121, qS_121, qc_121, qp_121, qf_121, qA_122, qS_122, qc_122, qp_122, qf_122, qA_123, qS_123, qc_123, qp_123, qf_123, qA_124, qS_124, qc_124, qp_124, qf_124, qA_125, qS_125, qc_125, qp_125, qf_125, qA_126, qS_126, qc_126, qp_126, qf_126, qA_127, qS_127, qc_127, qp_127, qf_127, qA_128, qS_128, qc_128, qp_128, qf_128, qA_129, qS_129, qc_129, qp_129, qf_129, qA_130, qS_130, qc_130, qp_130, qf_130, qA_131, qS_131, qc_131, qp_131, qf_131, qA_132, qS_132, qc_132, qp_132, qf_132, m2, c, this]
  · simp (disch := first | with_reducible assumption | exact Nat.le_of_ble_eq_true rfl | (simp only [WF_sI, WF_sL, WF_stR, WF_cpI]; with_reducible assumption) | omega | rfl | (show okF _ = true; decide)) only [e_X12_byteAt_18, e_X12_byteAt_0, u_X12_byteAt, r_push, r_iload_0, r_aload_0, r_lload_0, r_iload_1, r_aload_1, r_lload_1, r_iload_2, r_aload_2, r_lload_2, r_iload_3, r_aload_3, r_lload_3, r_iload_4, r_aload_4, r_lload_4, r_iload_5, r_aload_5, r_lload_5, r_iload_6, r_aload_6, r_lload_6, r_iload_7, r_aload_7, r_lload_7, r_iload_8, r_aload_8, r_lload_8, r_istore_00, r_astore_00, r_iinc_00, r_lstore_00, r_istore_1i, r_astore_1i, r_iinc_1i, r_lstore_1i, r_istore_1r, r_astore_1r, r_iinc_1r, r_lstore_1r, r_istore_1n, r_astore_1n, r_iinc_1n, r_lstore_1n, r_istore_1z, r_astore_1z, r_iinc_1z, r_lstore_1z, r_istore_2i, r_astore_2i, r_iinc_2i, r_lstore_2i, r_istore_2r, r_astore_2r, r_iinc_2r, r_lstore_2r, r_istore_2n, r_astore_2n, r_iinc_2n, r_lstore_2n, r_istore_2z, r_astore_2z, r_iinc_2z, r_lstore_2z, r_istore_3i, r_astore_3i, r_iinc_3i, r_lstore_3i, r_istore_3r, r_astore_3r, r_iinc_3r, r_lstore_3r, r_istore_3n, r_astore_3n, r_iinc_3n, r_lstore_3n, r_istore_3z, r_astore_3z, r_iinc_3z, r_lstore_3z, r_istore_4i, r_astore_4i, r_iinc_4i, r_lstore_4i, r_istore_4r, r_astore_4r, r_iinc_4r, r_lstore_4r, r_istore_4n, r_astore_4n, r_iinc_4n, r_lstore_4n, r_istore_4z, r_astore_4z, r_iinc_4z, r_lstore_4z, r_istore_5i, r_astore_5i, r_iinc_5i, r_lstore_5i, r_istore_5r, r_astore_5r, r_iinc_5r, r_lstore_5r, r_istore_5n, r_astore_5n, r_iinc_5n, r_lstore_5n, r_istore_5z, r_astore_5z, r_iinc_5z, r_lstore_5z, r_istore_6i, r_astore_6i, r_iinc_6i, r_lstore_6i, r_istore_6r, r_astore_6r, r_iinc_6r, r_lstore_6r, r_istore_6n, r_astore_6n, r_iinc_6n, r_lstore_6n, r_istore_6z, r_astore_6z, r_iinc_6z, r_lstore_6z, r_istore_7i, r_astore_7i, r_iinc_7i, r_lstore_7i, r_istore_7r, r_astore_7r, r_iinc_7r, r_lstore_7r, r_istore_7n, r_astore_7n, r_iinc_7n, r_lstore_7n, r_istore_7z, r_astore_7z, r_iinc_7z, r_lstore_7z, r_istore_8i, r_astore_8i, r_iinc_8i, r_istore_8r, r_astore_8r, r_iinc_8r, r_istore_8n, r_astore_8n, r_iinc_8n, r_istore_8z, r_astore_8z, r_iinc_8z, r_bin, r_lbin, r_div, r_ineg, r_i2l, r_i2b, r_i2c, r_lcmp, r_dup_i, r_dup_r, r_pop_i, r_pop_r, r_dup2, r_ifeq, r_iceq, r_iflt, r_iclt, r_ifge, r_icge, r_ifgt, r_icgt, r_ifle, r_icle, r_ifne, r_icne, r_putR, cs_nil, cs_int, cs_ref, cs_null, cs_long, r_aft_n, r_aft_v, r_aft_x, r_aftN_n, r_aftN_v, r_ireturn, r_zreturn, r_creturn, r_breturn, r_areturn, r_return, r_throw, r_ifnn_r, r_ifnn_n, r_objInit, r_tsw, r_ghost, r_lawret, r_rv, r_rv0, qs_0, qs_1, qs_2, qs_3, qs_4, qs_5, qs_6, q_max, q_min, if_true, if_false, and_self, and_true, true_and, and_false, false_and, not_true_eq_false, not_false_eq_true, or_true, true_or, or_false, false_or, eq_self, ne_eq, lit32, ofNat_N, neg_N1, N_add, N_mul, JN_add, NJ_add, J_add, N_lt, N_le, N_eq, N_nat, J_lt, J_le, J_eq, JN_lt, NJ_lt, JN_le, NJ_le, JN_eq, NJ_eq, J_nat, lt_tt, lt_ff, le_tt, le_ff, eqn_ff, ilt_tt, ilt_ff, ile_tt, ile_ff, ieq_ff, gI_sI, gI_sL, gL_sI, gL_sL, gR_sI, gR_sL, Nat.reduceEqDiff, qI_89, qP_89, qV0_89, qV1_89, qV2_89, qV3_89, qV4_89, q_89_11, q_89_12, q_89_13, q_89_14, q_89_15, q_89_16, q_89_17, q_89_18, q_89_19, q_89_20, q_89_21, q_89_22, q_89_23, q_89_24, q_89_25, q_89_26, q_89_27, q_89_28, q_89_29, q_89_30, q_89_31, q_89_32, q_89_35, q_89_36, q_89_53, q_89_54, q_89_56, q_89_57, q_89_61, q_89_62, q_89_63, q_89_64, q_89_65, q_89_66, q_89_67, q_89_68, q_89_69, q_89_70, q_89_71, q_89_76, q_89_81, q_89_82, q_89_85, qL_89, qPL_89, qZ0_89, qZ1_89, qA_91, qS_91, qc_91, qp_91, qf_91, qA_92, qS_92, qc_92, qp_92, qf_92, qA_93, qS_93, qc_93, qp_93, qf_93, qA_95, qS_95, qc_95, qp_95, qf_95, qA_97, qS_97, qc_97, qp_97, qf_97, qA_98, qS_98, qc_98, qp_98, qf_98, qA_99, qS_99, qc_99, qp_99, qf_99, qA_100, qS_100, qc_100, qp_100, qf_100, qA_101, qS_101, qc_101, qp_101, qf_101, qA_103, qS_103, qc_103, qp_103, qf_103, qA_104, qS_104, qc_104, qp_104, qf_104, qA_105, qS_105, qc_105, qp_105, qf_105, qA_106, qS_106, qc_106, qp_106, qf_106, qA_107, qS_107, qc_107, qp_107, qf_107, qA_108, qS_108, qc_108, qp_108, qf_108, qA_109, qS_109, qc_109, qp_109, qf_109, qA_110, qS_110, qc_110, qp_110, qf_110, qA_112, qS_112, qc_112, qp_112, qf_112, qA_113, qS_113, qc_113, qp_113, qf_113, qA_114, qS_114, qc_114, qp_114, qf_114, qA_115, qS_115, qc_115, qp_115, qf_115, qA_116, qS_116, qc_116, qp_116, qf_116, qA_117, qS_117, qc_117, qp_117, qf_117, qA_118, qS_118, qc_118, qp_118, qf_118, qA_119, qS_119, qc_119, qp_119, qf_119, qA_120, qS_120, qc_120, qp_120, qf_120, qA_121, qS_121, qc_121, qp_121, qf_121, qA_122, qS_122, qc_122, qp_122, qf_122, qA_123, qS_123, qc_123, qp_123, qf_123, qA_124, qS_124, qc_124, qp_124, qf_124, qA_125, qS_125, qc_125, qp_125, qf_125, qA_126, qS_126, qc_126, qp_126, qf_126, qA_127, qS_127, qc_127, qp_127, qf_127, qA_128, qS_128, qc_128, qp_128, qf_128, qA_129, qS_129, qc_129, qp_129, qf_129, qA_130, qS_130, qc_130, qp_130, qf_130, qA_131, qS_131, qc_131, qp_131, qf_131, qA_132, qS_132, qc_132, qp_132, qf_132, m2, c]
set_option maxHeartbeats 2000000 in
theorem in_ltr {c : Nat} (hc : c < 256) : decide (¬ N c < N 97 ∧ ¬ N 122 < N c) = ltr c := by
  unfold ltr
  rw [← Bool.decide_and]
  apply decide_eq_decide.mpr
  rw [N_lt (by omega) (by omega), N_lt (by omega) (by omega)]
  omega
set_option maxHeartbeats 2000000 in
theorem in_dgt {c : Nat} (hc : c < 256) : decide (¬ N c < N 48 ∧ ¬ N 57 < N c) = dgt c := by
  unfold dgt
  rw [← Bool.decide_and]
  apply decide_eq_decide.mpr
  rw [N_lt (by omega) (by omega), N_lt (by omega) (by omega)]
  omega
set_option maxHeartbeats 2000000 in
theorem in_m1 {a b : Nat} (ha : a < 256) (hb : b < 256) : decide (¬ J (-1) < N a ∧ ¬ N b < J (-1)) = false := by
  apply decide_eq_false
  rw [JN_lt (by decide) (by decide) (by omega)]
  omega
set_option maxHeartbeats 2000000 in
theorem Lg_step (a c : Nat) (hc : 96 ≤ c) (hc2 : c < 256) : (27 : Int64) * Lg a + (N c).toInt64 - 96 = Lg (27 * a + (c - 96)) := by
  have e1 : (27 : Int64) = Int64.ofInt 27 := rfl
  have e2 : (96 : Int64) = Int64.ofInt 96 := rfl
  have e3 : (N c).toInt64 = Int64.ofInt c := by
    have : ∀ c : Fin 256, (N c.val).toInt64 = Int64.ofInt (c.val : Int) := by decide +kernel
    exact this ⟨c, hc2⟩
  unfold Lg
  rw [e1, e2, e3, ← Int64.ofInt_mul, ← Int64.ofInt_add, ← Int64.ofInt_sub]
  congr 1
  omega
