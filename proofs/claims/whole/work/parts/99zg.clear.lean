/-! a brigade is made -/
def RF (a j : Nat) : Option Nat := (refs0.find? (fun q => q.1 == a && q.2.1 == j)).map (fun q => q.2.2)
set_option maxHeartbeats 2000000 in
theorem RF_ok : ∀ q ∈ refs0, RF q.1 q.2.1 = some q.2.2 := by
  have h : refs0.all (fun q => decide (RF q.1 q.2.1 = some q.2.2)) = true := by decide +kernel
  intro q hq
  exact of_decide_eq_true (List.all_eq_true.mp h q hq)
/-- the full heap that is as h on the cells from b to c -/
def fuH (b c : Nat) (h : AH) : AH := (h.1, h.2.1, fun a j => if b ≤ a ∧ a ≤ c then h.2.2.1 a j else RF a j, 134, 1)
set_option maxHeartbeats 2000000 in
theorem fuH_wf {b c : Nat} {h : AH} (r : ∀ q ∈ refs0, b ≤ q.1 → q.1 ≤ c → gR h q.1 q.2.1 = some q.2.2) : WF (fuH b c h) := by
  refine ⟨rfl, rfl, fun q hq => ?_⟩
  show (if b ≤ q.1 ∧ q.1 ≤ c then gR h q.1 q.2.1 else RF q.1 q.2.1) = _
  by_cases z : b ≤ q.1 ∧ q.1 ≤ c
  · rw [if_pos z]; exact r q hq z.1 z.2
  · rw [if_neg z]; exact RF_ok q hq
set_option maxHeartbeats 2000000 in
theorem fuH_lo {b c m : Nat} {h : AH} (hm : gN h = m) (hx : gX h = 0) (hc : c < m) (r : ∀ a j x, b ≤ a → a ≤ c → gR h a j = some x → b ≤ x ∧ x ≤ c) : Lo (m, fun i => b ≤ i ∧ i ≤ c, h) h (fuH b c h) := by
  refine ⟨⟨hm, fun i hi => ?_⟩, hx, rfl, fun a j ha => ⟨rfl, rfl, ?_⟩, fun a j x ha e => Or.inl ?_, fun a j ha => ⟨rfl, rfl, rfl⟩⟩
  · have hi : b ≤ i ∧ i ≤ c := hi
    show i < m
    omega
  · have ha : b ≤ a ∧ a ≤ c := ha
    show gR h a j = if b ≤ a ∧ a ≤ c then gR h a j else RF a j
    rw [if_pos ha]
  · have ha : b ≤ a ∧ a ≤ c := ha
    have e : (if b ≤ a ∧ a ≤ c then gR h a j else RF a j) = some x := e
    rw [if_pos ha] at e
    exact r a j x ha.1 ha.2 e
set_option maxHeartbeats 2000000 in
theorem clear_lo {b m : Nat} (hb : b = 8 ∨ b = 29) {h : AH} (hm : gN h = m) (hx : gX h = 0) (hc : b + 20 < m) (r1 : ∀ q ∈ refs0, b ≤ q.1 → q.1 ≤ b + 20 → gR h q.1 q.2.1 = some q.2.2) (r2 : ∀ a j x, b ≤ a → a ≤ b + 20 → gR h a j = some x → b ≤ x ∧ x ≤ b + 20) :
    ∃ h', mX0_clear [.ref b] h = some (.inl none, h') ∧ gN h' = m ∧ gX h' = 0 ∧ (∀ a j, ¬ (b ≤ a ∧ a ≤ b + 20) → gI h' a j = gI h a j ∧ gL h' a j = gL h a j) ∧ (∀ a j, gR h' a j = gR h a j) ∧ HC b b0 h' ∧ gI h' b 10 = N 0 ∧ RW (b + 17) (rm b0 0) h' := by
  have wk := fuH_wf r1
  have lo := fuH_lo hm hx hc r2
  obtain ⟨k1, e, f, hc1, h10, rw1⟩ := c_clear wk hb
  obtain ⟨h1, e1, lo1, -⟩ := q_mX0_clear [.ref b] h (fuH b (b + 20) h) none k1 (okS.c (B := (m, fun i => b ≤ i ∧ i ≤ b + 20, h)) (Or.inl (show b ≤ b ∧ b ≤ b + 20 from ⟨Nat.le_refl b, Nat.le_add_right b 20⟩)) okS.n) lo e
  obtain ⟨⟨l1, -⟩, l2, l3, l4, l5, l6⟩ := lo1
  have hin : ∀ p ∈ hdL, b ≤ b + p.1 ∧ b + p.1 ≤ b + 20 := fun p hp => by have := hdL_lt p hp; omega
  refine ⟨h1, e1, l1, l2, fun a j ha => ⟨(l6 a j ha).1, (l6 a j ha).2.1⟩, fun a j => ?_, fun p hp => ((l4 (b + p.1) p.2.1 (hin p hp)).1).trans (hc1 p hp), (l4 b 10 ⟨Nat.le_refl b, Nat.le_add_right b 20⟩).1.trans h10, fun k hk => (l4 (b + 17) k ⟨Nat.le_add_right b 17, Nat.add_le_add_left (by decide) b⟩).1.trans (rw1 k hk)⟩
  by_cases ha : b ≤ a ∧ a ≤ b + 20
  · rw [(l4 a j ha).2.2, f.r a j]
    show (if b ≤ a ∧ a ≤ b + 20 then gR h a j else RF a j) = _
    rw [if_pos ha]
  · exact (l6 a j ha).2.2
