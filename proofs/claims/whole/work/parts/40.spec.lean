/-! what a brigade is: β 0 i its counts (the reference's fields), β a k its rows (the reference's cells) -/
abbrev BD : Type := Nat → Nat → Nat
def nN (β : BD) : Nat := β 0 2
def nT (β : BD) : Nat := β 0 4
def nE (β : BD) : Nat := β 0 5
def nS (β : BD) : Nat := β 0 6
def nD (β : BD) : Nat := β 0 7
def dst (β : BD) (a b : Nat) : Nat := β 114 (12 * a + b)
def WB (β : BD) : Prop :=
  (nN β ≤ 12 ∧ nT β ≤ 6 ∧ nE β ≤ 10 ∧ nS β ≤ 12 ∧ nD β ≤ 5) ∧ (10 ≤ β 0 1 ∧ β 0 1 ≤ 60 ∧ β 0 8 ≤ 40 ∧ 1 ≤ β 0 9 ∧ β 0 9 ≤ 12 ∧ 1 ≤ β 0 10 ∧ β 0 10 ≤ 12) ∧
  (∀ s, s < nT β → β 95 s < nN β) ∧ (∀ e, e < nE β → β 97 e < 3 ∧ β 98 e < nT β) ∧ (∀ s, s < nS β → β 99 s < nN β ∧ β 100 s ≤ 120 ∧ β 101 s ≤ 3) ∧
  (∀ d, d < nD β → β 103 d < nN β ∧ 1 ≤ β 104 d ∧ β 104 d ≤ 8 ∧ β 106 d ≤ 40 ∧ β 107 d < 2 ^ d ∧ β 108 d ≤ 23 ∧ (∀ k, k < 3 → β 105 (3 * d + k) ≤ 4) ∧ ∃ k, k < 3 ∧ 0 < β 105 (3 * d + k)) ∧
  ∀ k, k < 144 → β 114 k ≤ 1000000
/-- the reference's cells hold the brigade -/
def BM (β : BD) (h : AH) : Prop :=
  (∀ i, 1 ≤ i → i ≤ 10 → gI h 89 i = N (β 0 i)) ∧ gI h 89 55 = N (2 ^ nE β - 1) ∧ (∀ s, s < nT β → gI h 95 s = N (β 95 s)) ∧ (∀ e, e < nE β → gI h 97 e = N (β 97 e) ∧ gI h 98 e = N (β 98 e)) ∧
  (∀ s, s < nS β → gI h 99 s = N (β 99 s) ∧ gI h 100 s = N (β 100 s) ∧ gI h 101 s = J ((β 101 s : Int) - 1)) ∧
  (∀ d, d < nD β → gI h 103 d = N (β 103 d) ∧ gI h 104 d = N (β 104 d) ∧ gI h 106 d = N (β 106 d) ∧ gI h 107 d = N (β 107 d) ∧ gI h 108 d = N (β 108 d) ∧ ∀ k, k < 3 → gI h 105 (3 * d + k) = N (β 105 (3 * d + k))) ∧
  ∀ k, k < 144 → gI h 114 k = N (β 114 k)
def rowsM : List Nat := [95, 97, 98, 99, 100, 101, 103, 104, 105, 106, 107, 108, 114]
def okM (A : List Nat) (Q : List (Nat × Nat)) : Bool := rowsM.all (fun a => !(A.contains a || Q.any (fun q => q.1 == a))) && [1, 2, 3, 4, 5, 6, 7, 8, 9, 10, 55].all (fun i => !inF A Q 89 i)
set_option maxHeartbeats 400000 in
theorem BM.fr {β : BD} {h h' : AH} {A : List Nat} {Q : List (Nat × Nat)} (b : BM β h) (f : Fr A Q h h') (ok : okM A Q = true) : BM β h' := by
  unfold okM at ok
  rw [Bool.and_eq_true] at ok
  have hr : ∀ a, a ∈ rowsM → ∀ k, gI h' a k = gI h a k := fun a ha k => f.row (by
    have := List.all_eq_true.mp ok.1 a ha
    simpa using this) k
  have ho : ∀ i, i ∈ [1, 2, 3, 4, 5, 6, 7, 8, 9, 10, 55] → gI h' 89 i = gI h 89 i := fun i hi => f.i 89 i (by
    have := List.all_eq_true.mp ok.2 i hi
    simpa using this)
  obtain ⟨b1, b2, b3, b4, b5, b6, b7⟩ := b
  refine ⟨fun i h1 h2 => ?_, ?_, fun s hs => ?_, fun e he => ?_, fun s hs => ?_, fun d hd => ?_, fun k hk => ?_⟩
  · rw [ho i (by
      rcases (show i = 1 ∨ i = 2 ∨ i = 3 ∨ i = 4 ∨ i = 5 ∨ i = 6 ∨ i = 7 ∨ i = 8 ∨ i = 9 ∨ i = 10 by omega) with rfl | rfl | rfl | rfl | rfl | rfl | rfl | rfl | rfl | rfl <;> decide)]
    exact b1 i h1 h2
  · rw [ho 55 (by decide)]; exact b2
  · rw [hr 95 (by decide)]; exact b3 s hs
  · rw [hr 97 (by decide), hr 98 (by decide)]; exact b4 e he
  · rw [hr 99 (by decide), hr 100 (by decide), hr 101 (by decide)]; exact b5 s hs
  · rw [hr 103 (by decide), hr 104 (by decide), hr 106 (by decide), hr 107 (by decide), hr 108 (by decide)]
    obtain ⟨c1, c2, c3, c4, c5, c6⟩ := b6 d hd
    exact ⟨c1, c2, c3, c4, c5, fun k hk => by rw [hr 105 (by decide)]; exact c6 k hk⟩
  · rw [hr 114 (by decide)]; exact b7 k hk
/-- ends -/
def RetN (Q : AH → Prop) (o : Option Ou) : Prop := ∃ h', o = some (.inl none, h') ∧ Q h'
def RetI (Q : Int32 → AH → Prop) (o : Option Ou) : Prop := ∃ x h', o = some (.inl (some (.int x)), h') ∧ Q x h'
/-! where engines stand -/
def cntH (f : Nat → Bool) : Nat → Nat
  | 0 => 0
  | n + 1 => cntH f n + (if f n = true then 1 else 0)
def crw (β : BD) (a s n : Nat) : Nat := cntH (fun e => a.testBit e && (β 98 e == s)) n
def wrp (n s k : Nat) : Nat := if s + k < n then s + k else s + k - n
/-- the first station on the ring that has an engine to give -/
def giv (n s : Nat) (cr : Nat → Nat) : Nat → Nat → Option Nat
  | 0, _ => none
  | j + 1, k => if 2 ≤ cr (wrp n s k) then some (wrp n s k) else giv n s cr j (k + 1)
def lastE (f : Nat → Bool) : Nat → Option Nat
  | 0 => none
  | n + 1 => if f n = true then some n else lastE f n
def upN (f : Nat → Nat) (i v : Nat) : Nat → Nat := fun j => if j = i then v else f j
def mvS (β : BD) (a s : Nat) (q : (Nat → Nat) × (Nat → Nat)) : (Nat → Nat) × (Nat → Nat) :=
  if 0 < q.2 s then q else match giv (nT β) s q.2 (nT β - 1) 1 with
  | none => q
  | some g => match lastE (fun e => a.testBit e && (q.1 e == g)) (nE β) with
    | none => q
    | some e => (upN q.1 e s, upN (upN q.2 g (q.2 g - 1)) s (q.2 s + 1))
def mvd (β : BD) (a : Nat) : Nat → (Nat → Nat) × (Nat → Nat)
  | 0 => (β 98, fun s => crw β a s (nE β))
  | s + 1 => mvS β a s (mvd β a s)
def stM (β : BD) (a : Nat) : Nat → Nat := (mvd β a (nT β)).1
def srv (β : BD) (a e s : Nat) : Bool := a.testBit e && (β 101 s == 0 || β 97 e + 1 == β 101 s)
def near (β : BD) (a : Nat) (st : Nat → Nat) (s : Nat) : Nat → Nat
  | 0 => 1000000
  | n + 1 => if srv β a n s = true then Nat.min (near β a st s n) (dst β (β 95 (st n)) (β 99 s)) else near β a st s n
def opnB (β : BD) (a : Nat) (st : Nat → Nat) (s : Nat) : Bool := decide (β 100 s < near β a st s (nE β))
def opnN (β : BD) (a : Nat) (st : Nat → Nat) : Nat := mkN (opnB β a st) (nS β)
def gapN (β : BD) (a : Nat) : Nat := opnN β a (stM β a)
