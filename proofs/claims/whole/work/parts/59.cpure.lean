/-! what the class and the reference share of a timetable: pure -/
def wSum (β : BD) (k : Nat) (q : PL) : Nat → Int32
  | 0 => N 0
  | n + 1 => if pEn q n = (k : Int) then wSum β k q n + N (β 106 n) else wSum β k q n
set_option maxHeartbeats 400000 in
theorem i32_add0 (x : Int32) : x + N 0 = x := Int32.add_zero x
set_option maxHeartbeats 400000 in
theorem i32_0add (x : Int32) : N 0 + x = x := Int32.zero_add x
set_option maxHeartbeats 400000 in
theorem wetS_sum (β : BD) (t : Nat) (q : PL) (n : Nat) : wetS β t q n = pWe q + wSum β t q n := by
  induction n with
  | zero => exact (i32_add0 _).symm
  | succ n ih =>
    unfold wetS wSum
    rw [ih]
    split
    · exact Int32.add_assoc _ _ _
    · rfl
set_option maxHeartbeats 400000 in
theorem wSum_same {β : BD} {k : Nat} {q r : PL} {n : Nat} (h : ∀ j, j < n → (pEn q j = (k : Int) ↔ pEn r j = (k : Int))) : wSum β k q n = wSum β k r n := by
  induction n with
  | zero => rfl
  | succ n ih =>
    unfold wSum
    rw [ih (fun j hj => h j (by omega))]
    by_cases c : pEn q n = (k : Int)
    · rw [if_pos c, if_pos ((h n (by omega)).mp c)]
    · rw [if_neg c, if_neg (fun z => c ((h n (by omega)).mpr z))]
set_option maxHeartbeats 400000 in
theorem wSum_up {β : BD} {k : Nat} {q r : PL} {n d : Nat} (hd : d < n) (h : ∀ j, j ≠ d → pEn r j = pEn q j) (h0 : pEn q d ≠ (k : Int)) (h1 : pEn r d = (k : Int)) : wSum β k r n = wSum β k q n + N (β 106 d) := by
  induction n with
  | zero => omega
  | succ n ih =>
    unfold wSum
    by_cases c : d = n
    · subst c
      rw [if_pos h1, if_neg h0, wSum_same (q := r) (r := q) (fun j hj => by rw [h j (by omega)])]
    · rw [ih (by omega), h n (fun z => c z.symm)]
      split
      · rw [Int32.add_assoc, Int32.add_assoc, Int32.add_comm (N (β 106 d))]
      · rfl
/-- the calls of a drill: the engines near enough, the nearest first -/
def CLr (β : BD) (d cc : Nat) (cl : Nat → Nat) : Prop :=
  cc ≤ 10 ∧ (∀ i, i < cc → cl i < nE β ∧ slotsT β (cl i) d ≤ 6) ∧
  (∀ i j, i < j → j < cc → minsT β (cl i) d < minsT β (cl j) d ∨ (minsT β (cl i) d = minsT β (cl j) d ∧ cl i < cl j)) ∧
  ∀ e, e < nE β → slotsT β e d ≤ 6 → ∃ i, i < cc ∧ cl i = e
def CL (β : BD) (b : Nat) (h : AH) : Prop :=
  ∀ d, d < nD β → (∀ e, e < nE β → gI h (b + 12) (d * 10 + e) = N (slotsT β e d)) ∧ ∃ cc cl, CLr β d cc cl ∧ gI h (b + 14) d = N cc ∧ ∀ i, i < cc → gI h (b + 13) (d * 10 + i) = N (cl i)
set_option maxHeartbeats 400000 in
theorem bestE_min {β : BD} {p : Nat → Bool} {d n b : Nat} (h : bestE β p d n = some b) : ∀ j, j < n → p j = true → minsT β b d < minsT β j d ∨ (minsT β b d = minsT β j d ∧ b ≤ j) := by
  induction n generalizing b with
  | zero => intro j hj; omega
  | succ n ih =>
    intro j hj hp
    cases hb : bestE β p d n with
    | none =>
      have hno : ∀ m, m ≤ n → bestE β p d m = none → ∀ j, j < m → p j = false := by
        intro m
        induction m with
        | zero => intro _ _ j hj; omega
        | succ m im =>
          intro hm hz j hj
          cases hq : bestE β p d m with
          | some c =>
            unfold bestE at hz
            rw [hq] at hz
            dsimp only at hz
            split at hz <;> cases hz
          | none =>
            unfold bestE at hz
            rw [hq] at hz
            dsimp only at hz
            by_cases e : j = m
            · subst e
              cases hpj : p j with
              | false => rfl
              | true => rw [hpj] at hz; cases hz
            · exact im (by omega) hq j (by omega)
      have h2 := hno n (Nat.le_refl _) hb
      by_cases e : j = n
      · subst e
        rw [bestE_T0 hp hb] at h
        cases h
        exact Or.inr ⟨rfl, Nat.le_refl _⟩
      · rw [h2 j (by omega)] at hp; cases hp
    | some c =>
      have hc := ih hb
      by_cases c1 : p n = true ∧ minsT β n d < minsT β c d
      · rw [bestE_T1 c1.1 hb c1.2] at h
        cases h
        by_cases e : j = n
        · subst e; exact Or.inr ⟨rfl, Nat.le_refl _⟩
        · have := hc j (by omega) hp
          omega
      · have e2 : bestE β p d (n + 1) = some c := by
          unfold bestE
          rw [hb]
          dsimp only
          rw [if_neg c1]
        rw [e2] at h
        cases h
        by_cases e : j = n
        · subst e
          have hbn := (bestE_sp hb).1
          have : ¬ minsT β j d < minsT β b d := fun z => c1 ⟨hp, z⟩
          omega
        · exact hc j (by omega) hp
set_option maxHeartbeats 400000 in
theorem bestE_none {β : BD} {p : Nat → Bool} {d n : Nat} (h : ∀ j, j < n → p j = false) : bestE β p d n = none := by
  cases hb : bestE β p d n with
  | none => rfl
  | some b =>
    obtain ⟨h1, h2⟩ := bestE_sp hb
    rw [h b h1] at h2
    cases h2
set_option maxHeartbeats 400000 in
theorem bestE_eq {β : BD} {p : Nat → Bool} {d n b : Nat} (hb : b < n) (hp : p b = true) (h : ∀ j, j < n → p j = true → j ≠ b → minsT β b d < minsT β j d ∨ (minsT β b d = minsT β j d ∧ b < j)) : bestE β p d n = some b := by
  cases hc : bestE β p d n with
  | none =>
    exfalso
    have hno : ∀ m, m ≤ n → b < m → bestE β p d m ≠ none := by
      intro m
      induction m with
      | zero => intro _ h; omega
      | succ m im =>
        intro hm hbm hz
        unfold bestE at hz
        cases hq : bestE β p d m with
        | some c =>
          rw [hq] at hz
          dsimp only at hz
          split at hz <;> cases hz
        | none =>
          rw [hq] at hz
          dsimp only at hz
          by_cases e : b = m
          · subst e; rw [hp] at hz; cases hz
          · exact im (by omega) (by omega) hq
    exact hno n (Nat.le_refl _) hb hc
  | some c =>
    obtain ⟨h1, h2⟩ := bestE_sp hc
    have h3 := bestE_min hc b hb hp
    by_cases e : c = b
    · rw [e]
    · have := h c h1 h2 e
      omega
-- the next of the calls: taken, or passed over 
set_option maxHeartbeats 400000 in
theorem chN_take {β : BD} {mis t d k S : Nat} {bu : Nat → Nat} {cc : Nat} {cl : Nat → Nat} (cr : CLr β d cc cl) {r : Nat} (hr : r < cc) (hpre : ∀ i, i < r → pk β mis t bu d k S (cl i) = false) (hp : pk β mis t bu d k S (cl r) = true) (j : Nat) : chN β mis t bu d k (j + 1) S = chN β mis t bu d k j (S ||| 2 ^ cl r) := by
  obtain ⟨-, c2, c3, c4⟩ := cr
  have e : bestE β (pk β mis t bu d k S) d (nE β) = some (cl r) := by
    refine bestE_eq (c2 r hr).1 hp (fun j hj hpj hne => ?_)
    obtain ⟨i, hi, e⟩ := c4 j hj (pk_sp hpj).2.2.2.2
    subst e
    rcases Nat.lt_trichotomy i r with h | h | h
    · rw [hpre i h] at hpj; cases hpj
    · subst h; exact absurd rfl hne
    · exact c3 r i h hi
  rw [chN, e]
set_option maxHeartbeats 400000 in
theorem chN_stop {β : BD} {mis t d k S : Nat} {bu : Nat → Nat} {cc : Nat} {cl : Nat → Nat} (cr : CLr β d cc cl) (hpre : ∀ i, i < cc → pk β mis t bu d k S (cl i) = false) (j : Nat) : chN β mis t bu d k (j + 1) S = none := by
  obtain ⟨-, c2, c3, c4⟩ := cr
  have e : bestE β (pk β mis t bu d k S) d (nE β) = none := by
    refine bestE_none (fun j hj => ?_)
    cases hpj : pk β mis t bu d k S j with
    | false => rfl
    | true =>
      obtain ⟨i, hi, e⟩ := c4 j hj (pk_sp hpj).2.2.2.2
      subst e
      rw [hpre i hi] at hpj
      cases hpj
  rw [chN, e]
/-- what holds all along -/
def PI (β : BD) (t : Nat) (q : PL) : Prop := (∀ e, nE β ≤ e → pBu q e = 0) ∧ ∀ k, t + β 0 9 ≤ k → pDa q k = N 0
set_option maxHeartbeats 400000 in
theorem pi_lau {β : BD} (wb : WB β) {mis d t t' : Nat} {q : PL} (h : PI β t' q) : PI β t' (lau β mis d t q) := by
  rcases lau_cases β wb mis d t q with ⟨v, hv, e⟩ | ⟨S, -, a1, a2, -, -, -, e⟩
  · rw [e]; exact h
  · rw [e]
    refine ⟨fun e he => ?_, h.2⟩
    show (if (decide (e < nE β) && S.testBit e) = true then _ else pBu q e) = 0
    have : ¬ e < nE β := by omega
    rw [if_neg (by simp [this])]
    exact h.1 e he
set_option maxHeartbeats 400000 in
theorem pi_lauN {β : BD} (wb : WB β) {mis t t' : Nat} {s : Nat → Int} {q : PL} (h : PI β t' q) (n : Nat) : PI β t' (lauN β mis s t q n) := by
  induction n with
  | zero => exact h
  | succ n ih =>
    unfold lauN
    split
    · exact pi_lau wb ih
    · exact ih
set_option maxHeartbeats 400000 in
theorem pi_han {β : BD} {pl : Int32} {t : Nat} {q : PL} (h : PI β t q) : PI β (t + 1) (hanS β pl t q) := by
  refine ⟨h.1, fun k hk => ?_⟩
  show upW (pDa q) (t + β 0 9) _ k = N 0
  unfold upW
  rw [if_neg (by omega)]
  exact h.2 k (by omega)
set_option maxHeartbeats 400000 in
theorem pi_run {β : BD} (wb : WB β) {mis : Nat} {hz pl : Int32} {s : Nat → Int} (t : Nat) : PI β t (run β mis hz pl s t) := by
  induction t with
  | zero => exact ⟨fun _ _ => rfl, fun _ _ => rfl⟩
  | succ t ih => exact pi_lauN wb (pi_han ih) _
def Neg (β : BD) (q : PL) : Bool := anyB (fun d => decide (pSt q d < 0)) (nD β)
set_option maxHeartbeats 400000 in
theorem anyB_cong {f g : Nat → Bool} {n : Nat} (h : ∀ j, j < n → f j = g j) : anyB f n = anyB g n := by
  induction n with
  | zero => rfl
  | succ n ih => show (anyB f n || f n) = (anyB g n || g n); rw [ih (fun j hj => h j (by omega)), h n (by omega)]
set_option maxHeartbeats 400000 in
theorem anyB_up {f g : Nat → Bool} {n d : Nat} (hd : d < n) (h : ∀ j, j ≠ d → g j = f j) (h0 : f d = false) : anyB g n = (anyB f n || g d) := by
  induction n with
  | zero => omega
  | succ n ih =>
    show (anyB g n || g n) = ((anyB f n || f n) || g d)
    by_cases c : d = n
    · subst c
      rw [anyB_cong (fun j hj => h j (by omega)), h0, Bool.or_false]
    · rw [ih (by omega), h n (fun z => c z.symm)]
      cases anyB f n <;> cases f n <;> cases g d <;> rfl
set_option maxHeartbeats 400000 in
theorem neg_lau {β : BD} (wb : WB β) {mis d t : Nat} {q : PL} (hd : d < nD β) (h0 : pSt q d = 0) : Neg β (lau β mis d t q) = (Neg β q || decide (pSt (lau β mis d t q) d < 0)) := by
  unfold Neg
  refine anyB_up (f := fun d => decide (pSt q d < 0)) (g := fun j => decide (pSt (lau β mis d t q) j < 0)) hd (fun j hj => ?_) ?_
  · rw [(lau_oth wb hj).1]
  · rw [h0]; rfl
set_option maxHeartbeats 400000 in
theorem lau_st {β : BD} (wb : WB β) {mis d t : Nat} {q : PL} : pSt (lau β mis d t q) d < 0 ∨ pSt (lau β mis d t q) d = 1 := by
  rcases lau_cases β wb mis d t q with ⟨v, hv, e⟩ | ⟨S, -, a1, a2, -, -, -, e⟩
  · rw [e]
    left
    show upZ q.1 d v d < 0
    unfold upZ
    rw [if_pos rfl]
    omega
  · rw [e]
    right
    show upZ _ d 1 d = 1
    unfold upZ
    rw [if_pos rfl]
-- nobody is away and nothing starts any more: nothing changes 
set_option maxHeartbeats 400000 in
theorem lauN_no {β : BD} {mis t : Nat} {s : Nat → Int} {q : PL} {n : Nat} (h : ∀ d, d < n → s d ≠ (t : Int)) : lauN β mis s t q n = q := by
  induction n with
  | zero => rfl
  | succ n ih =>
    unfold lauN
    rw [if_neg (h n (by omega))]
    exact ih (fun d hd => h d (by omega))
def SameQ (q r : PL) : Prop := pSt r = pSt q ∧ pTk r = pTk q ∧ pBg r = pBg q ∧ pEn r = pEn q ∧ pBk r = pBk q ∧ pBu r = pBu q
set_option maxHeartbeats 400000 in
theorem run_stay {β : BD} {mis : Nat} {hz pl : Int32} {s : Nat → Int} {t : Nat} (h : ∀ d, d < nD β → s d ≤ (t : Int)) : ∀ j, SameQ (run β mis hz pl s (t + 1)) (run β mis hz pl s (t + 1 + j)) := by
  intro j
  induction j with
  | zero => exact ⟨rfl, rfl, rfl, rfl, rfl, rfl⟩
  | succ j ih =>
    have e : run β mis hz pl s (t + 1 + (j + 1)) = hanS β pl (t + 1 + j) (run β mis hz pl s (t + 1 + j)) := by
      show lauN β mis s (t + 1 + j) (hanS β pl (t + 1 + j) (run β mis hz pl s (t + 1 + j))) (nD β) = _
      exact lauN_no (fun d hd => by have := h d hd; omega)
    rw [e]
    exact ih
set_option maxHeartbeats 400000 in
theorem anyB_ext {f : Nat → Bool} {n m : Nat} (hnm : n ≤ m) (h : ∀ j, n ≤ j → j < m → f j = false) : anyB f m = anyB f n := by
  induction m with
  | zero => have : n = 0 := by omega
            subst this; rfl
  | succ m ih =>
    by_cases e : n = m + 1
    · subst e; rfl
    · show (anyB f m || f m) = anyB f n
      rw [h m (by omega) (by omega), ih (by omega) (fun j h1 h2 => h j h1 (by omega)), Bool.or_false]
def gapB (β : BD) (mis : Nat) (hz pl : Int32) (s : Nat → Int) (t : Nat) : Bool := decide (gapN β (avN β mis t (run β mis hz pl s (t + 1))) ≠ 0)
set_option maxHeartbeats 400000 in
theorem vld_def (β : BD) (mis : Nat) (hz pl : Int32) (s : Nat → Int) : vld β mis hz pl s = (!Neg β (run β mis hz pl s 48) && !anyB (gapB β mis hz pl s) 48) := rfl
set_option maxHeartbeats 400000 in
theorem vld_early {β : BD} {mis : Nat} {hz pl : Int32} {s : Nat → Int} {t : Nat} (ht : t < 48) (h : ∀ d, d < nD β → s d ≤ (t : Int)) (ha : ∀ e, e < nE β → pBu (run β mis hz pl s (t + 1)) e ≤ t) (hg : gapB β mis hz pl s t = false) :
    Neg β (run β mis hz pl s 48) = Neg β (run β mis hz pl s (t + 1)) ∧ anyB (gapB β mis hz pl s) 48 = anyB (gapB β mis hz pl s) (t + 1) ∧ SameQ (run β mis hz pl s (t + 1)) (run β mis hz pl s 48) := by
  have st : ∀ j, SameQ (run β mis hz pl s (t + 1)) (run β mis hz pl s (t + 1 + j)) := run_stay h
  have s48 : SameQ (run β mis hz pl s (t + 1)) (run β mis hz pl s 48) := by
    have := st (48 - (t + 1))
    rwa [show t + 1 + (48 - (t + 1)) = 48 from by omega] at this
  refine ⟨?_, ?_, s48⟩
  · unfold Neg; rw [s48.1]
  · refine anyB_ext (by omega) (fun j h1 h2 => ?_)
    have sj : SameQ (run β mis hz pl s (t + 1)) (run β mis hz pl s (j + 1)) := by
      have := st (j - t)
      rwa [show t + 1 + (j - t) = j + 1 from by omega] at this
    have : avN β mis j (run β mis hz pl s (j + 1)) = avN β mis t (run β mis hz pl s (t + 1)) := by
      unfold avN
      refine mkN_cong (fun e he => ?_)
      rw [sj.2.2.2.2.2]
      have := ha e he
      have h3 : pBu (run β mis hz pl s (t + 1)) e ≤ j := by omega
      simp [this, h3]
    unfold gapB at hg ⊢
    rw [this]
    exact hg
set_option maxHeartbeats 400000 in
theorem bkN_eq {β : BD} {d S en : Nat} {n : Nat} : (∃ e, e < n ∧ S.testBit e = true) → bkN β d S en n = ((en + farN β d S n : Nat) : Int) := by
  induction n with
  | zero => intro ⟨e, h, _⟩; omega
  | succ n ih =>
    intro ⟨e, he, hb⟩
    unfold bkN farN
    by_cases hn : S.testBit n = true
    · rw [if_pos hn, if_pos hn]
      by_cases hx : ∃ e, e < n ∧ S.testBit e = true
      · rw [ih hx, show Nat.max (farN β d S n) (slotsT β n d) = max (farN β d S n) (slotsT β n d) from rfl]
        omega
      · have hno : ∀ m, m ≤ n → bkN β d S en m = -1 ∧ farN β d S m = 0 := by
          intro m
          induction m with
          | zero => intro _; exact ⟨rfl, rfl⟩
          | succ m im =>
            intro hm
            unfold bkN farN
            have : ¬ S.testBit m = true := fun z => hx ⟨m, by omega, z⟩
            rw [if_neg this, if_neg this]
            exact im (by omega)
        obtain ⟨z1, z2⟩ := hno n (Nat.le_refl _)
        rw [z1, z2, show Nat.max 0 (slotsT β n d) = max 0 (slotsT β n d) from rfl]
        omega
    · rw [if_neg hn, if_neg hn]
      refine ih ⟨e, ?_, hb⟩
      by_cases h : e = n
      · subst h; exact absurd hb hn
      · omega
