/-! a further drill never lets an earlier one end sooner -/
set_option maxHeartbeats 2000000 in
theorem lauN_congS {β : BD} {mis t n : Nat} {s s' : Nat → Int} {q : PL} (h : ∀ j, j < n → (s j = (t : Int) ↔ s' j = (t : Int))) : lauN β mis s t q n = lauN β mis s' t q n := by
  induction n with
  | zero => rfl
  | succ n ih =>
    have e := ih (fun j hj => h j (by omega))
    unfold lauN
    by_cases c : s n = (t : Int)
    · rw [if_pos c, if_pos ((h n (by omega)).mp c), e]
    · rw [if_neg c, if_neg (fun z => c ((h n (by omega)).mpr z)), e]
set_option maxHeartbeats 2000000 in
theorem run_congS {β : BD} {mis : Nat} {hz pl : Int32} {s s' : Nat → Int} {t : Nat} (h : ∀ k, k < t → ∀ j, j < nD β → (s j = (k : Int) ↔ s' j = (k : Int))) : run β mis hz pl s t = run β mis hz pl s' t := by
  induction t with
  | zero => rfl
  | succ t ih =>
    show lauN β mis s t (hanS β pl t (run β mis hz pl s t)) (nD β) = lauN β mis s' t (hanS β pl t (run β mis hz pl s' t)) (nD β)
    rw [ih (fun k hk => h k (by omega)), lauN_congS (h t (by omega))]
set_option maxHeartbeats 2000000 in
theorem en_const {β : BD} (wb : WB β) {mis : Nat} {hz pl : Int32} {s : Nat → Int} {j a : Nat} : ∀ m, (∀ k, a ≤ k → k < a + m → s j ≠ (k : Int)) → pEn (run β mis hz pl s (a + m)) j = pEn (run β mis hz pl s a) j ∧ pSt (run β mis hz pl s (a + m)) j = pSt (run β mis hz pl s a) j := by
  intro m
  induction m with
  | zero => intro _; exact ⟨rfl, rfl⟩
  | succ m ih =>
    intro h
    have e := ih (fun k h1 h2 => h k h1 (by omega))
    have := lauN_oth wb (mis := mis) (q := hanS β pl (a + m) (run β mis hz pl s (a + m))) (h (a + m) (by omega) (by omega)) (nD β)
    exact ⟨this.2.trans e.1, this.1.trans e.2⟩
def RS (β : BD) (t i : Nat) (buB : Nat → Nat) (SA SB : Nat) : Prop :=
  (∀ e, SA.testBit e = true → buB e ≤ t → SB.testBit e = true) ∧ ∀ e, SA.testBit e = true → ∃ e', SB.testBit e' = true ∧ slotsT β e i ≤ slotsT β e' i
set_option maxHeartbeats 2000000 in
theorem slotsT_mono {β : BD} (wb : WB β) {e e' i : Nat} (he : e' < nE β) (hi : i < nD β) (h : minsT β e i ≤ minsT β e' i) : slotsT β e i ≤ slotsT β e' i := by
  have h1 := minsT_le wb he hi
  have hw := wb
  obtain ⟨-, ⟨c1, c2, -⟩, -⟩ := hw
  unfold slotsT
  by_cases c : 1000000 ≤ minsT β e' i
  · rw [if_pos c]
    split
    · exact Nat.le_refl _
    · have : (minsT β e i + β 0 1 - 1) / β 0 1 ≤ minsT β e i + β 0 1 - 1 := Nat.div_le_self _ _
      have h4 : (minsT β e i + β 0 1 - 1) / β 0 1 ≤ (minsT β e i + β 0 1 - 1) / 10 := Nat.div_le_div_left c1 (by decide)
      omega
  · rw [if_neg c, if_neg (by omega)]
    exact Nat.div_le_div_right (by omega)
set_option maxHeartbeats 2000000 in
theorem chN_rel {β : BD} (wb : WB β) {mis t i k : Nat} (hi : i < nD β) {buA buB : Nat → Nat} (hF : ∀ e, e < nE β → buB e ≤ t → buA e ≤ t) : ∀ j SA SB SA' SB', chN β mis t buA i k j SA = some SA' → chN β mis t buB i k j SB = some SB' → RS β t i buB SA SB → RS β t i buB SA' SB' := by
  intro j
  induction j with
  | zero => intro SA SB SA' SB' h1 h2 r; cases h1; cases h2; exact r
  | succ j ih =>
    intro SA SB SA' SB' h1 h2 r
    unfold chN at h1 h2
    split at h1
    · cases h1
    · next a ha =>
      split at h2
      · cases h2
      · next b hb =>
        refine ih _ _ _ _ h1 h2 ?_
        obtain ⟨a1, a2⟩ := bestE_sp ha
        obtain ⟨b1, b2⟩ := bestE_sp hb
        obtain ⟨p1, p2, p3, p4, p5⟩ := pk_sp a2
        obtain ⟨q1, q2, q3, q4, q5⟩ := pk_sp b2
        have hbA : pk β mis t buA i k SA b = true := by
          have hbS : SA.testBit b = false := by
            cases hx : SA.testBit b with
            | false => rfl
            | true => rw [r.1 b hx q4] at q2; cases q2
          simp [pk, q1, hbS, q3, hF b b1 q4, q5]
        have m1 := bestE_min ha b b1 hbA
        refine ⟨fun e he hbe => ?_, fun e he => ?_⟩
        · rw [bit_or] at he ⊢
          by_cases hea : a = e
          · subst hea
            cases hx : SB.testBit a with
            | true => rfl
            | false =>
              have haB : pk β mis t buB i k SB a = true := by simp [pk, p1, hx, p3, hbe, p5]
              have m2 := bestE_min hb a a1 haB
              have : b = a := by omega
              simp [this]
          · simp [hea] at he
            rw [r.1 e he hbe]
            rfl
        · rw [bit_or] at he
          by_cases hea : a = e
          · subst hea
            exact ⟨b, by rw [bit_or]; simp, slotsT_mono wb b1 hi (by omega)⟩
          · simp [hea] at he
            obtain ⟨e', h3, h4⟩ := r.2 e he
            exact ⟨e', by rw [bit_or, h3]; rfl, h4⟩
set_option maxHeartbeats 2000000 in
theorem chK_rel {β : BD} (wb : WB β) {mis t i : Nat} (hi : i < nD β) {buA buB : Nat → Nat} (hF : ∀ e, e < nE β → buB e ≤ t → buA e ≤ t) : ∀ k SA SB, chK β mis t buA i k = some SA → chK β mis t buB i k = some SB → RS β t i buB SA SB := by
  intro k
  induction k with
  | zero => intro SA SB h1 h2; cases h1; cases h2; exact ⟨fun e h => by simp at h, fun e h => by simp at h⟩
  | succ k ih =>
    intro SA SB h1 h2
    unfold chK at h1 h2
    split at h1
    · cases h1
    · next A0 hA =>
      split at h2
      · cases h2
      · next B0 hB => exact chN_rel wb hi hF _ _ _ _ _ h1 h2 (ih _ _ hA hB)
set_option maxHeartbeats 2000000 in
theorem farN_ge {β : BD} {d S n e : Nat} (he : e < n) (hb : S.testBit e = true) : slotsT β e d ≤ farN β d S n := by
  induction n with
  | zero => omega
  | succ n ih =>
    unfold farN
    by_cases c : e = n
    · subst c; rw [if_pos hb]; exact Nat.le_max_right _ _
    · have := ih (by omega)
      split
      · exact Nat.le_trans this (Nat.le_max_left _ _)
      · exact this
set_option maxHeartbeats 2000000 in
theorem farN_lub {β : BD} {d S n M : Nat} (h : ∀ e, e < n → S.testBit e = true → slotsT β e d ≤ M) : farN β d S n ≤ M := by
  induction n with
  | zero => exact Nat.zero_le _
  | succ n ih =>
    unfold farN
    have := ih (fun e he => h e (by omega))
    split
    · next hb => exact Nat.max_le.mpr ⟨this, h n (by omega) hb⟩
    · exact this
-- launched: not cancelled 
set_option maxHeartbeats 2000000 in
theorem lau_ok {β : BD} (wb : WB β) {mis d t : Nat} {q : PL} (h : ¬ pSt (lau β mis d t q) d < 0) : ∃ S, chK β mis t (pBu q) d 3 = some S ∧ (∀ e, S.testBit e = true → okE β mis t (pBu q) d e) ∧ lau β mis d t q = offS β d t S q := by
  rcases lau_cases β wb mis d t q with ⟨v, hv, e⟩ | ⟨S, a0, a1, a2, -, -, -, e⟩
  · exfalso
    apply h
    rw [e]
    show upZ q.1 d v d < 0
    unfold upZ; rw [if_pos rfl]; omega
  · exact ⟨S, a0, a2, e⟩
set_option maxHeartbeats 2000000 in
theorem off_en {β : BD} {d t S : Nat} {q : PL} : pEn (offS β d t S q) d = ((t + farN β d S (nE β) + β 104 d : Nat) : Int) := by
  show upZ (pEn q) d _ d = _
  unfold upZ; rw [if_pos rfl]
set_option maxHeartbeats 2000000 in
theorem off_bu {β : BD} {d t S e : Nat} {q : PL} : pBu (offS β d t S q) e = if (decide (e < nE β) && S.testBit e) = true then t + farN β d S (nE β) + β 104 d + slotsT β e d else pBu q e := rfl
-- the same slot, with one more drill 
set_option maxHeartbeats 2000000 in
theorem slot_mono {β : BD} (wb : WB β) {mis t d : Nat} {s : Nat → Int} {q : PL} (hd : d < nD β) (hsd : s d ≠ (t : Int)) :
    ∀ i, i ≤ nD β → (∀ j, j < i → s j = (t : Int) → ¬ pSt (lau β mis j t (lauN β mis s t q j)) j < 0) → (∀ j, j < i → upZ s d (t : Int) j = (t : Int) → ¬ pSt (lau β mis j t (lauN β mis (upZ s d (t : Int)) t q j)) j < 0) →
      (∀ e, e < nE β → pBu (lauN β mis (upZ s d (t : Int)) t q i) e ≤ t → pBu (lauN β mis s t q i) e ≤ t) ∧ ∀ j, j ≠ d → pEn (lauN β mis s t q i) j ≤ pEn (lauN β mis (upZ s d (t : Int)) t q i) j := by
  intro i
  induction i with
  | zero => intro _ _ _; exact ⟨fun e _ h => h, fun j _ => Int.le_refl _⟩
  | succ i ih =>
    intro hi hA hB
    obtain ⟨f1, f2⟩ := ih (by omega) (fun j hj => hA j (by omega)) (fun j hj => hB j (by omega))
    have hl := (wb.2.2.2.2.2.1 i (by omega)).2.1
    by_cases hid : i = d
    · subst hid
      have eA : lauN β mis s t q (i + 1) = lauN β mis s t q i := by rw [lauN, if_neg hsd]
      have hBi : upZ s i (t : Int) i = (t : Int) := by unfold upZ; rw [if_pos rfl]
      have eB : lauN β mis (upZ s i (t : Int)) t q (i + 1) = lau β mis i t (lauN β mis (upZ s i (t : Int)) t q i) := by rw [lauN, if_pos hBi]
      obtain ⟨S, c1, c2, c3⟩ := lau_ok wb (hB i (by omega) hBi)
      rw [eA, eB]
      refine ⟨fun e he h => f1 e he ?_, fun j hj => ?_⟩
      · rw [c3, off_bu] at h
        split at h
        · omega
        · exact h
      · rw [(lau_oth wb hj).2.2.2.1]; exact f2 j hj
    · have hsi : upZ s d (t : Int) i = s i := by unfold upZ; rw [if_neg hid]
      by_cases c : s i = (t : Int)
      · have eA : lauN β mis s t q (i + 1) = lau β mis i t (lauN β mis s t q i) := by rw [lauN, if_pos c]
        have eB : lauN β mis (upZ s d (t : Int)) t q (i + 1) = lau β mis i t (lauN β mis (upZ s d (t : Int)) t q i) := by rw [lauN, if_pos (hsi.trans c)]
        obtain ⟨SA, a1, a2, a3⟩ := lau_ok wb (hA i (by omega) c)
        obtain ⟨SB, b1, b2, b3⟩ := lau_ok wb (hB i (by omega) (hsi.trans c))
        have rs := chK_rel wb (by omega) f1 3 SA SB a1 b1
        rw [eA, eB]
        refine ⟨fun e he h => ?_, fun j hj => ?_⟩
        · rw [b3, off_bu] at h
          rw [a3, off_bu]
          split at h
          · omega
          · next hnb =>
            have hnb : SB.testBit e = false := by
              cases hx : SB.testBit e with
              | false => rfl
              | true => exact absurd (by simp [he, hx]) hnb
            have hna : SA.testBit e = false := by
              cases hx : SA.testBit e with
              | false => rfl
              | true => rw [rs.1 e hx h] at hnb; cases hnb
            rw [hna, Bool.and_false, if_neg (by decide)]
            exact f1 e he h
        · by_cases hji : j = i
          · subst hji
            rw [a3, b3, off_en, off_en]
            have : farN β j SA (nE β) ≤ farN β j SB (nE β) := farN_lub (fun e _ he => by
              obtain ⟨e', h3, h4⟩ := rs.2 e he
              exact Nat.le_trans h4 (farN_ge (b2 e' h3).1 h3))
            omega
          · rw [(lau_oth wb hji).2.2.2.1, (lau_oth wb hji).2.2.2.1]; exact f2 j hj
      · have eA : lauN β mis s t q (i + 1) = lauN β mis s t q i := by rw [lauN, if_neg c]
        have eB : lauN β mis (upZ s d (t : Int)) t q (i + 1) = lauN β mis (upZ s d (t : Int)) t q i := by rw [lauN, if_neg (by rw [hsi]; exact c)]
        rw [eA, eB]
        exact ⟨f1, f2⟩
set_option maxHeartbeats 2000000 in
theorem neg_no {β : BD} (wb : WB β) {mis : Nat} {hz pl : Int32} {s : Nat → Int} (hs : ∀ d, nD β ≤ d → d < 5 → s d = -1) (hn : Neg β (run β mis hz pl s 48) = false) {t j : Nat} (ht : t < 48) (hj : j < nD β) (hsj : s j = (t : Int)) : ¬ pSt (lau β mis j t (lauN β mis s t (hanS β pl t (run β mis hz pl s t)) j)) j < 0 := by
  intro h
  have hD := wb.1.2.2.2.2
  have e1 := (lauN_at wb (mis := mis) (q := hanS β pl t (run β mis hz pl s t)) hsj hj).1
  have e2 : pSt (run β mis hz pl s (t + 1)) j < 0 := by
    show pSt (lauN β mis s t (hanS β pl t (run β mis hz pl s t)) (nD β)) j < 0
    rw [e1]; exact h
  have := neg_run wb hs (t := t + 1) (by omega) (anyB_t (f := fun d => decide (pSt (run β mis hz pl s (t + 1)) d < 0)) hj (by simp [e2]))
  rw [hn] at this
  cases this
set_option maxHeartbeats 2000000 in
theorem end_mono {β : BD} (wb : WB β) {mis : Nat} {hz pl : Int32} {s : Nat → Int} (hs : ∀ d, nD β ≤ d → d < 5 → s d = -1) {d t : Nat} (hd : d < nD β) (ht : t < 24) (hsd : s d = -1) (hle : ∀ j, j < nD β → s j ≤ (t : Int)) (n1 : Neg β (run β mis hz pl s 48) = false) (n2 : Neg β (run β mis hz pl (upZ s d (t : Int)) 48) = false) :
    ∀ j, j < nD β → pEn (run β mis hz pl s 48) j ≤ pEn (run β mis hz pl (upZ s d (t : Int)) 48) j := by
  have hD := wb.1.2.2.2.2
  have hs' := hs_up hs hd (t : Int)
  have e0 : run β mis hz pl s t = run β mis hz pl (upZ s d (t : Int)) t := run_congS (fun k hk j hj => by
    unfold upZ
    by_cases e : j = d
    · subst e; rw [if_pos rfl, hsd]; omega
    · rw [if_neg e])
  have key := slot_mono wb (mis := mis) (q := hanS β pl t (run β mis hz pl s t)) hd (show s d ≠ (t : Int) by rw [hsd]; omega) (nD β) (Nat.le_refl _) (fun j hj hsj => neg_no wb hs n1 (by omega) hj hsj) (fun j hj hsj => by
    have := neg_no wb hs' n2 (show t < 48 by omega) hj hsj
    rw [← e0] at this
    exact this)
  have k1 : ∀ j, j ≠ d → pEn (run β mis hz pl s (t + 1)) j ≤ pEn (run β mis hz pl (upZ s d (t : Int)) (t + 1)) j := fun j hj => by
    have := key.2 j hj
    show pEn (lauN β mis s t (hanS β pl t (run β mis hz pl s t)) (nD β)) j ≤ pEn (lauN β mis (upZ s d (t : Int)) t (hanS β pl t (run β mis hz pl (upZ s d (t : Int)) t)) (nD β)) j
    rw [← e0]
    exact this
  intro j hj
  have pb := (run_ok wb (mis := mis) (hz := hz) (pl := pl) hs' 48 (Nat.le_refl _)).1
  by_cases e : j = d
  · subst e
    have := (en_const wb (mis := mis) (hz := hz) (pl := pl) (s := s) (j := j) (a := 0) 48 (fun k _ _ => by rw [hsd]; omega)).1
    rw [Nat.zero_add] at this
    rw [this]
    exact (pb.1 j (by omega)).2.2.1
  · have c1 := (en_const wb (mis := mis) (hz := hz) (pl := pl) (s := s) (j := j) (a := t + 1) (47 - t) (fun k h1 h2 => by have := hle j hj; omega)).1
    have c2 := (en_const wb (mis := mis) (hz := hz) (pl := pl) (s := upZ s d (t : Int)) (j := j) (a := t + 1) (47 - t) (fun k h1 h2 => by unfold upZ; rw [if_neg e]; have := hle j hj; omega)).1
    rw [show t + 1 + (47 - t) = 48 from by omega] at c1 c2
    rw [c1, c2]
    exact k1 j e
set_option maxHeartbeats 2000000 in
theorem finI_mono {q r : PL} {n : Nat} (h : ∀ j, j < n → pEn q j ≤ pEn r j) : finI q n ≤ finI r n := by
  induction n with
  | zero => exact Int.le_refl _
  | succ n ih =>
    have h1 := ih (fun j hj => h j (by omega))
    have h2 := h n (by omega)
    unfold finI
    omega
/-! trying all orders: the reference's way and the class's -/
def fin (β : BD) (mis : Nat) (hz pl : Int32) (s : Nat → Int) : Int := finI (run β mis hz pl s 48) (nD β)
def foldN {α : Type} (f : Nat → α → α) : Nat → α → α
  | 0, x => x
  | n + 1, x => f n (foldN f n x)
def trS (β : BD) (mis : Nat) (hz pl : Int32) (rec : Nat → Nat → Int → (Nat → Int) → Int × Int → Int × Int) (taken many least : Nat) (digits : Int) (s : Nat → Int) (d : Nat) (p : Int × Int) : Int × Int :=
  if taken.testBit d = true then p else match setl β mis hz pl s d (24 - least) least with
  | none => p
  | some t => rec (taken ||| 2 ^ d) t (digits + ((d : Int) + 1) * 10 ^ many) (upZ s d (t : Int)) p
def tryR (β : BD) (mis : Nat) (hz pl : Int32) : Nat → Nat → Nat → Nat → Int → (Nat → Int) → Int × Int → Int × Int
  | 0, _, _, _, _, _, p => p
  | f + 1, many, taken, least, digits, s, p =>
    if many = nD β then (if p.1 ≠ -1 ∧ p.1 ≤ fin β mis hz pl s then p else (fin β mis hz pl s, digits))
    else foldN (trS β mis hz pl (tryR β mis hz pl f (many + 1)) taken many least digits s) (nD β) p
def tryC (β : BD) (mis : Nat) (hz pl : Int32) : Nat → Nat → Nat → Nat → Int → (Nat → Int) → Int × Int → Int × Int
  | 0, _, _, _, _, _, p => p
  | f + 1, many, taken, least, digits, s, p =>
    if p.1 ≠ -1 ∧ p.1 ≤ fin β mis hz pl s then p else if many = nD β then (fin β mis hz pl s, digits)
    else foldN (trS β mis hz pl (tryC β mis hz pl f (many + 1)) taken many least digits s) (nD β) p
/-- what holds of a schedule begun -/
def TS0 (β : BD) (mis : Nat) (hz pl : Int32) (taken least : Nat) (s : Nat → Int) : Prop :=
  least ≤ 23 ∧ (∀ j, -1 ≤ s j) ∧ (∀ d, nD β ≤ d → s d = -1) ∧ (∀ d, taken.testBit d = false → s d = -1) ∧ (∀ j, j < nD β → s j ≤ (least : Int)) ∧ Neg β (run β mis hz pl s 48) = false
set_option maxHeartbeats 2000000 in
theorem TS0_next {β : BD} {mis : Nat} {hz pl : Int32} {taken least d t : Nat} {s : Nat → Int} (hd : d < nD β) (h : TS0 β mis hz pl taken least s) (ht : setl β mis hz pl s d (24 - least) least = some t) : TS0 β mis hz pl (taken ||| 2 ^ d) t (upZ s d (t : Int)) := by
  obtain ⟨h1, h2, h3, h4, h5, h6⟩ := h
  obtain ⟨s1, s2, s3, -⟩ := setl_some _ _ _ ht
  refine ⟨by omega, fun j => ?_, fun j hj => ?_, fun j hj => ?_, fun j hj => ?_, ?_⟩
  · unfold upZ; split
    · omega
    · exact h2 j
  · unfold upZ; rw [if_neg (by omega)]; exact h3 j hj
  · rw [bit_or] at hj
    have hj2 : taken.testBit j = false ∧ d ≠ j := by
      cases hx : taken.testBit j with
      | false => rw [hx] at hj; simpa using hj
      | true => rw [hx] at hj; cases hj
    unfold upZ; rw [if_neg (fun z => hj2.2 z.symm)]; exact h4 j hj2.1
  · unfold upZ; split
    · exact Int.le_refl _
    · have := h5 j hj; omega
  · rw [vld_def] at s3
    simp only [Bool.and_eq_true, Bool.not_eq_true'] at s3
    exact s3.1
set_option maxHeartbeats 2000000 in
theorem fin_mono {β : BD} (wb : WB β) {mis : Nat} {hz pl : Int32} {taken least d t : Nat} {s : Nat → Int} (hd : d < nD β) (htk : taken.testBit d = false) (h : TS0 β mis hz pl taken least s) (ht : setl β mis hz pl s d (24 - least) least = some t) : fin β mis hz pl s ≤ fin β mis hz pl (upZ s d (t : Int)) := by
  have hn := TS0_next hd h ht
  obtain ⟨h1, h2, h3, h4, h5, h6⟩ := h
  obtain ⟨s1, s2, s3, -⟩ := setl_some _ _ _ ht
  exact finI_mono (end_mono wb (fun d h1 _ => h3 d h1) hd (by omega) (h4 d htk) (fun j hj => by have := h5 j hj; omega) h6 hn.2.2.2.2.2)
set_option maxHeartbeats 2000000 in
theorem foldN_id {α : Type} {f : Nat → α → α} {x : α} : ∀ n, (∀ d, d < n → f d x = x) → foldN f n x = x := by
  intro n
  induction n with
  | zero => intro _; rfl
  | succ n ih => intro h; show f n (foldN f n x) = x; rw [ih (fun d hd => h d (by omega)), h n (by omega)]
set_option maxHeartbeats 2000000 in
theorem foldN_cong {α : Type} {f g : Nat → α → α} : ∀ n x, (∀ d y, d < n → f d y = g d y) → foldN f n x = foldN g n x := by
  intro n
  induction n with
  | zero => intro x _; rfl
  | succ n ih => intro x h; show f n (foldN f n x) = g n (foldN g n x); rw [ih x (fun d y hd => h d y (by omega)), h n _ (by omega)]
set_option maxHeartbeats 2000000 in
theorem tryR_stay {β : BD} (wb : WB β) {mis : Nat} {hz pl : Int32} : ∀ f many taken least digits s p, TS0 β mis hz pl taken least s → p.1 ≠ -1 → p.1 ≤ fin β mis hz pl s → tryR β mis hz pl f many taken least digits s p = p := by
  intro f
  induction f with
  | zero => intro many taken least digits s p _ _ _; rfl
  | succ f ih =>
    intro many taken least digits s p h h1 h2
    unfold tryR
    split
    · rw [if_pos ⟨h1, h2⟩]
    · refine foldN_id _ (fun d hd => ?_)
      unfold trS
      cases htk : taken.testBit d with
      | true => rw [if_pos rfl]
      | false =>
        rw [if_neg (by decide)]
        cases hst : setl β mis hz pl s d (24 - least) least with
        | none => rfl
        | some t =>
          have := fin_mono wb hd htk h hst
          exact ih _ _ _ _ _ _ (TS0_next hd h hst) h1 (by omega)
set_option maxHeartbeats 2000000 in
theorem tryC_R {β : BD} (wb : WB β) {mis : Nat} {hz pl : Int32} : ∀ f many taken least digits s p, TS0 β mis hz pl taken least s → tryC β mis hz pl f many taken least digits s p = tryR β mis hz pl f many taken least digits s p := by
  intro f
  induction f with
  | zero => intro many taken least digits s p _; rfl
  | succ f ih =>
    intro many taken least digits s p h
    by_cases c : p.1 ≠ -1 ∧ p.1 ≤ fin β mis hz pl s
    · rw [tryR_stay wb _ _ _ _ _ _ _ h c.1 c.2]
      unfold tryC
      rw [if_pos c]
    · unfold tryC tryR
      rw [if_neg c]
      by_cases cm : many = nD β
      · rw [if_pos cm, if_pos cm, if_neg c]
      · rw [if_neg cm, if_neg cm]
        refine foldN_cong _ _ (fun d y hd => ?_)
        unfold trS
        split
        · rfl
        · cases hst : setl β mis hz pl s d (24 - least) least with
          | none => rfl
          | some t => exact ih _ _ _ _ _ _ (TS0_next hd h hst)
