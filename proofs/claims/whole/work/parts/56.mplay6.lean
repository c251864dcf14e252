/-- not launched yet: as at the start -/
def fresh (s : Nat → Int) (t i : Nat) (q : PL) : Prop := ∀ d, d < 5 → ((t : Int) < s d ∨ (s d = (t : Int) ∧ i ≤ d) ∨ s d < 0) → pSt q d = 0 ∧ pBk q d = -1 ∧ pEn q d = -1 ∧ pBg q d = -1 ∧ pTk q d = 0
set_option maxHeartbeats 400000 in
theorem han_pb {β : BD} {pl : Int32} {t : Nat} {q : PL} (pb : PB q) : PB (hanS β pl t q) := pb
set_option maxHeartbeats 400000 in
theorem fresh_S {β : BD} (wb : WB β) {mis : Nat} {s : Nat → Int} {t i : Nat} {q : PL} (f : fresh s t i q) : fresh s t (i + 1) (if s i = (t : Int) then lau β mis i t q else q) := by
  intro d hd hc
  split
  · next hs =>
    have hdi : d ≠ i := fun z => by subst z; omega
    obtain ⟨e1, e2, e3, e4, e5⟩ := lau_oth wb (mis := mis) (t := t) (q := q) hdi
    rw [e1, e2, e3, e4, e5]
    exact f d hd (by omega)
  · next hs =>
    refine f d hd ?_
    rcases hc with h | h | h
    · exact Or.inl h
    · exact Or.inr (Or.inl ⟨h.1, by omega⟩)
    · exact Or.inr (Or.inr h)
set_option maxHeartbeats 400000 in
theorem lauN_ok {β : BD} (wb : WB β) {mis : Nat} {s : Nat → Int} {t : Nat} (ht : t < 48) {q : PL} (pb : PB q) (f : fresh s t 0 q) : ∀ i, i ≤ nD β → PB (lauN β mis s t q i) ∧ fresh s t i (lauN β mis s t q i) := by
  intro i
  induction i with
  | zero => exact fun _ => ⟨pb, f⟩
  | succ i ih =>
    intro hi
    obtain ⟨h1, h2⟩ := ih (by omega)
    have h3 := fresh_S wb (mis := mis) h2
    refine ⟨?_, h3⟩
    show PB (if s i = (t : Int) then lau β mis i t (lauN β mis s t q i) else lauN β mis s t q i)
    split
    · exact PB_lau wb (by omega) ht h1
    · exact h1
set_option maxHeartbeats 400000 in
theorem run_ok {β : BD} (wb : WB β) {mis : Nat} {hz pl : Int32} {s : Nat → Int} (hs : ∀ d, nD β ≤ d → d < 5 → s d = -1) : ∀ t, t ≤ 48 → PB (run β mis hz pl s t) ∧ fresh s t 0 (run β mis hz pl s t) := by
  intro t
  induction t with
  | zero =>
    intro _
    refine ⟨⟨fun d hd => ?_, fun e he => ?_⟩, fun d hd hc => ⟨rfl, rfl, rfl, rfl, rfl⟩⟩
    · unfold run ini pSt pEn pBg pBk pTk
      dsimp only
      omega
    · show (0 : Nat) ≤ 80
      omega
  | succ t ih =>
    intro ht
    obtain ⟨h1, h2⟩ := ih (by omega)
    obtain ⟨h3, h4⟩ := lauN_ok wb (mis := mis) (s := s) (t := t) (by omega) (han_pb (β := β) (pl := pl) (t := t) h1) h2 (nD β) (Nat.le_refl _)
    refine ⟨h3, fun d hd hc => h4 d hd ?_⟩
    rcases hc with h | h | h
    · exact Or.inl (by omega)
    · exact Or.inl (by omega)
    · exact Or.inr (Or.inr h)
/-- what the reference's play leaves -/
def MQ2 (β : BD) (mis : Nat) (hz pl : Int32) (s : Nat → Int) (n : Nat) (h : AH) : Prop :=
  ∀ t, t < n → gI h 124 t = N (avN β mis t (run β mis hz pl s (t + 1))) ∧ gI h 125 t = pDr (run β mis hz pl s (t + 1)) ∧ gI h 126 t = pWe (run β mis hz pl s (t + 1)) ∧ gI h 127 t = pDg (run β mis hz pl s (t + 1))
def frP : List Nat := [118, 119, 120, 121, 122, 123, 124, 125, 126, 127, 128]
def frQ : List (Nat × Nat) := [(89, 72), (89, 73), (89, 74)]
