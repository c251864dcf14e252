/-! runs on a heap that is not yet full -/
/-- how many cells, which of them may be touched, the first heap -/
abbrev BT : Type := Nat × (Nat → Prop) × AH
def rkV (B : BT) : Value → Prop
  | .ref i => B.2.1 i ∨ 134 ≤ i
  | _ => True
def okL (B : BT) (L : Lc) : Prop := ∀ v, some v ∈ L → rkV B v
def okS (B : BT) (S : List Value) : Prop := ∀ v ∈ S, rkV B v
/-- h as k where it may be touched, as the first heap elsewhere -/
def Lo (B : BT) (h k : AH) : Prop := (gN h = B.1 ∧ ∀ i, B.2.1 i → i < B.1) ∧ gX h = 0 ∧ gN k = 134 ∧ (∀ a j, B.2.1 a → gI h a j = gI k a j ∧ gL h a j = gL k a j ∧ gR h a j = gR k a j) ∧ (∀ a j r, B.2.1 a → gR k a j = some r → B.2.1 r ∨ 134 ≤ r) ∧ ∀ a j, ¬ B.2.1 a → gI h a j = gI B.2.2 a j ∧ gL h a j = gL B.2.2 a j ∧ gR h a j = gR B.2.2 a j
def PF (B : BT) (F : Fn) : Prop := ∀ L S h k v k1, okL B L → okS B S → Lo B h k → F L S k = some (.inl v, k1) → ∃ h1, F L S h = some (.inl v, h1) ∧ Lo B h1 k1 ∧ ∀ x, v = some x → rkV B x
def PM (B : BT) (f : List Value → AH → Option Ou) : Prop := ∀ av h k v k1, okS B av → Lo B h k → f av k = some (.inl v, k1) → ∃ h1, f av h = some (.inl v, h1) ∧ Lo B h1 k1 ∧ ∀ x, v = some x → rkV B x
set_option maxHeartbeats 2000000 in
theorem okS.c {B : BT} {v : Value} {S : List Value} (h : rkV B v) (s : okS B S) : okS B (v :: S) := fun x hx => by
  rcases List.mem_cons.mp hx with rfl | hx
  · exact h
  · exact s x hx
set_option maxHeartbeats 2000000 in
theorem okS.i {B : BT} {x : Int32} {S : List Value} (s : okS B S) : okS B (.int x :: S) := okS.c trivial s
set_option maxHeartbeats 2000000 in
theorem okS.t {B : BT} {v : Value} {S : List Value} (s : okS B (v :: S)) : okS B S := fun x hx => s x (List.mem_cons_of_mem _ hx)
set_option maxHeartbeats 2000000 in
theorem okS.h {B : BT} {v : Value} {S : List Value} (s : okS B (v :: S)) : rkV B v := s v List.mem_cons_self
set_option maxHeartbeats 2000000 in
theorem okS.n {B : BT} : okS B [] := fun x hx => nomatch hx
set_option maxHeartbeats 2000000 in
theorem okL.set {B : BT} {L : Lc} (l : okL B L) (i : Nat) (x : Int32) : okL B (L.set i (some (.int x))) := fun v hv => by
  rcases List.mem_or_eq_of_mem_set hv with h | h
  · exact l v h
  · injection h with h; subst h; exact trivial
set_option maxHeartbeats 2000000 in
theorem Lo.lt {B : BT} {h k : AH} (q : Lo B h k) {i : Nat} (r : rkV B (.ref i)) (hi : i < gN k) : i < gN h ∧ B.2.1 i := by
  have e1 := q.1.1
  have e2 := q.2.2.1
  have r : B.2.1 i ∨ 134 ≤ i := r
  rcases r with r | r
  · exact ⟨by rw [e1]; exact q.1.2 i r, r⟩
  · exact absurd hi (by omega)
set_option maxHeartbeats 2000000 in
theorem Lo.sI {B : BT} {h k : AH} (q : Lo B h k) {i : Nat} (hi : B.2.1 i) (j : Nat) (x : Int32) : Lo B (sI h i j x) (sI k i j x) := by
  obtain ⟨q1, q2, q3, q4, q5, q6⟩ := q
  refine ⟨q1, q2, q3, fun a l ha => ⟨?_, (q4 a l ha).2⟩, q5, fun a l ha => ⟨?_, (q6 a l ha).2⟩⟩
  · rw [gI_sI, gI_sI, (q4 a l ha).1]
  · rw [gI_sI, if_neg (show ¬ (a = i ∧ l = j) from fun c => ha (c.1 ▸ hi))]; exact (q6 a l ha).1
set_option maxHeartbeats 2000000 in
theorem Lo.sR {B : BT} {h k : AH} (q : Lo B h k) {i : Nat} (hi : B.2.1 i) (j r : Nat) (hr : B.2.1 r ∨ 134 ≤ r) : Lo B (sR h i j (some r)) (sR k i j (some r)) := by
  obtain ⟨q1, q2, q3, q4, q5, q6⟩ := q
  refine ⟨q1, q2, q3, fun a l ha => ⟨(q4 a l ha).1, (q4 a l ha).2.1, ?_⟩, fun a l r' ha e => ?_, fun a l ha => ⟨(q6 a l ha).1, (q6 a l ha).2.1, ?_⟩⟩
  · rw [gR_sR, gR_sR, (q4 a l ha).2.2]
  · rw [gR_sR] at e
    split at e
    · injection e with e; subst e; exact hr
    · exact q5 a l r' ha e
  · rw [gR_sR, if_neg (show ¬ (a = i ∧ l = j) from fun c => ha (c.1 ▸ hi))]; exact (q6 a l ha).2.2
set_option maxHeartbeats 2000000 in
theorem rk_rv {B : BT} {h k : AH} (q : Lo B h k) {a j : Nat} (ha : B.2.1 a) : rkV B (rv (gR k a j)) := by
  cases e : gR k a j with
  | none => exact trivial
  | some r => exact q.2.2.2.2.1 a j r ha e
set_option maxHeartbeats 2000000 in
theorem P_bin {B : BT} {F : Fn} {f : Int32 → Int32 → Int32} (p : PF B F) : PF B (i_bin f F) := by
  intro L S h k v k1 hL hS lo hf
  unfold i_bin at hf
  split at hf
  · exact p _ _ h k v k1 hL (okS.i hS.t.t) lo hf
  · cases hf
set_option maxHeartbeats 2000000 in
theorem P_ineg {B : BT} {F : Fn}  (p : PF B F) : PF B (i_ineg F) := by
  intro L S h k v k1 hL hS lo hf
  unfold i_ineg at hf
  split at hf
  · exact p _ _ h k v k1 hL (okS.i hS.t) lo hf
  · cases hf
set_option maxHeartbeats 2000000 in
theorem P_div {B : BT} {F : Fn} {f : Int32 → Int32 → Int32} (p : PF B F) : PF B (i_div f F) := by
  intro L S h k v k1 hL hS lo hf
  unfold i_div at hf
  split at hf
  · next y x S1 =>
    split at hf
    · cases hf
    · next hc =>
      obtain ⟨h1, e, q⟩ := p _ _ h k v k1 hL (okS.i hS.t.t) lo hf
      exact ⟨h1, by rw [r_div, if_neg hc]; exact e, q⟩
  · cases hf
set_option maxHeartbeats 2000000 in
theorem P_max {B : BT} {F : Fn}  (p : PF B F) : PF B (i_max F) := by
  intro L S h k v k1 hL hS lo hf
  unfold i_max at hf
  split at hf
  · next y x S1 =>
    split at hf
    · next hc =>
      obtain ⟨h1, e, q⟩ := p _ _ h k v k1 hL (okS.i hS.t.t) lo hf
      refine ⟨h1, ?_, q⟩
      show (if (S1.map fun v => v.category).sum ≤ 8 then _ else none) = _
      rw [if_pos hc]; exact e
    · cases hf
  · cases hf
set_option maxHeartbeats 2000000 in
theorem P_min {B : BT} {F : Fn}  (p : PF B F) : PF B (i_min F) := by
  intro L S h k v k1 hL hS lo hf
  unfold i_min at hf
  split at hf
  · next y x S1 =>
    split at hf
    · next hc =>
      obtain ⟨h1, e, q⟩ := p _ _ h k v k1 hL (okS.i hS.t.t) lo hf
      refine ⟨h1, ?_, q⟩
      show (if (S1.map fun v => v.category).sum ≤ 8 then _ else none) = _
      rw [if_pos hc]; exact e
    · cases hf
  · cases hf
set_option maxHeartbeats 2000000 in
theorem P_pop {B : BT} {F : Fn}  (p : PF B F) : PF B (i_pop F) := by
  intro L S h k v k1 hL hS lo hf
  unfold i_pop at hf
  split at hf
  · next x S1 =>
    split at hf
    · next hc =>
      obtain ⟨h1, e, q⟩ := p _ _ h k v k1 hL hS.t lo hf
      refine ⟨h1, ?_, q⟩
      show (if x.category = 1 then _ else none) = _
      rw [if_pos hc]; exact e
    · cases hf
  · cases hf
set_option maxHeartbeats 2000000 in
theorem P_dup {B : BT} {F : Fn}  (p : PF B F) : PF B (i_dup F) := by
  intro L S h k v k1 hL hS lo hf
  unfold i_dup at hf
  split at hf
  · next x S1 =>
    split at hf
    · next hc =>
      obtain ⟨h1, e, q⟩ := p _ _ h k v k1 hL (okS.c hS.h hS) lo hf
      refine ⟨h1, ?_, q⟩
      show (if x.category = 1 then _ else none) = _
      rw [if_pos hc]; exact e
    · cases hf
  · cases hf
set_option maxHeartbeats 2000000 in
theorem P_dup2 {B : BT} {F : Fn}  (p : PF B F) : PF B (i_dup2 F) := by
  intro L S h k v k1 hL hS lo hf
  unfold i_dup2 at hf
  split at hf
  · next x y S1 =>
    split at hf
    · next hc =>
      obtain ⟨h1, e, q⟩ := p _ _ h k v k1 hL (okS.c hS.h (okS.c hS.t.h hS)) lo hf
      refine ⟨h1, ?_, q⟩
      show (if x.category = 1 ∧ y.category = 1 then _ else none) = _
      rw [if_pos hc]; exact e
    · cases hf
  · cases hf
set_option maxHeartbeats 2000000 in
theorem P_push {B : BT} {F : Fn} {x : Value} (hx : rkV B x) (p : PF B F) : PF B (i_push x F) := fun L S h k v k1 hL hS lo hf => p L _ h k v k1 hL (okS.c hx hS) lo hf
set_option maxHeartbeats 2000000 in
theorem P_iceq {B : BT} {F G : Fn}  (p : PF B F) (p2 : PF B G) : PF B (i_iceq F G) := by
  intro L S h k v k1 hL hS lo hf
  unfold i_iceq at hf
  split at hf
  · next y x S1 =>
    split at hf
    · next hc =>
      obtain ⟨h1, e, q⟩ := p _ _ h k v k1 hL hS.t.t lo hf
      refine ⟨h1, ?_, q⟩
      show (if x = y then _ else _) = _
      rw [if_pos hc]; exact e
    · next hc =>
      obtain ⟨h1, e, q⟩ := p2 _ _ h k v k1 hL hS.t.t lo hf
      refine ⟨h1, ?_, q⟩
      show (if x = y then _ else _) = _
      rw [if_neg hc]; exact e
  · cases hf
set_option maxHeartbeats 2000000 in
theorem P_icge {B : BT} {F G : Fn}  (p : PF B F) (p2 : PF B G) : PF B (i_icge F G) := by
  intro L S h k v k1 hL hS lo hf
  unfold i_icge at hf
  split at hf
  · next y x S1 =>
    split at hf
    · next hc =>
      obtain ⟨h1, e, q⟩ := p _ _ h k v k1 hL hS.t.t lo hf
      refine ⟨h1, ?_, q⟩
      show (if y ≤ x then _ else _) = _
      rw [if_pos hc]; exact e
    · next hc =>
      obtain ⟨h1, e, q⟩ := p2 _ _ h k v k1 hL hS.t.t lo hf
      refine ⟨h1, ?_, q⟩
      show (if y ≤ x then _ else _) = _
      rw [if_neg hc]; exact e
  · cases hf
set_option maxHeartbeats 2000000 in
theorem P_icgt {B : BT} {F G : Fn}  (p : PF B F) (p2 : PF B G) : PF B (i_icgt F G) := by
  intro L S h k v k1 hL hS lo hf
  unfold i_icgt at hf
  split at hf
  · next y x S1 =>
    split at hf
    · next hc =>
      obtain ⟨h1, e, q⟩ := p _ _ h k v k1 hL hS.t.t lo hf
      refine ⟨h1, ?_, q⟩
      show (if y < x then _ else _) = _
      rw [if_pos hc]; exact e
    · next hc =>
      obtain ⟨h1, e, q⟩ := p2 _ _ h k v k1 hL hS.t.t lo hf
      refine ⟨h1, ?_, q⟩
      show (if y < x then _ else _) = _
      rw [if_neg hc]; exact e
  · cases hf
set_option maxHeartbeats 2000000 in
theorem P_icle {B : BT} {F G : Fn}  (p : PF B F) (p2 : PF B G) : PF B (i_icle F G) := by
  intro L S h k v k1 hL hS lo hf
  unfold i_icle at hf
  split at hf
  · next y x S1 =>
    split at hf
    · next hc =>
      obtain ⟨h1, e, q⟩ := p _ _ h k v k1 hL hS.t.t lo hf
      refine ⟨h1, ?_, q⟩
      show (if x ≤ y then _ else _) = _
      rw [if_pos hc]; exact e
    · next hc =>
      obtain ⟨h1, e, q⟩ := p2 _ _ h k v k1 hL hS.t.t lo hf
      refine ⟨h1, ?_, q⟩
      show (if x ≤ y then _ else _) = _
      rw [if_neg hc]; exact e
  · cases hf
set_option maxHeartbeats 2000000 in
theorem P_iclt {B : BT} {F G : Fn}  (p : PF B F) (p2 : PF B G) : PF B (i_iclt F G) := by
  intro L S h k v k1 hL hS lo hf
  unfold i_iclt at hf
  split at hf
  · next y x S1 =>
    split at hf
    · next hc =>
      obtain ⟨h1, e, q⟩ := p _ _ h k v k1 hL hS.t.t lo hf
      refine ⟨h1, ?_, q⟩
      show (if x < y then _ else _) = _
      rw [if_pos hc]; exact e
    · next hc =>
      obtain ⟨h1, e, q⟩ := p2 _ _ h k v k1 hL hS.t.t lo hf
      refine ⟨h1, ?_, q⟩
      show (if x < y then _ else _) = _
      rw [if_neg hc]; exact e
  · cases hf
set_option maxHeartbeats 2000000 in
theorem P_icne {B : BT} {F G : Fn}  (p : PF B F) (p2 : PF B G) : PF B (i_icne F G) := by
  intro L S h k v k1 hL hS lo hf
  unfold i_icne at hf
  split at hf
  · next y x S1 =>
    split at hf
    · next hc =>
      obtain ⟨h1, e, q⟩ := p2 _ _ h k v k1 hL hS.t.t lo hf
      refine ⟨h1, ?_, q⟩
      show (if x = y then _ else _) = _
      rw [if_pos hc]; exact e
    · next hc =>
      obtain ⟨h1, e, q⟩ := p _ _ h k v k1 hL hS.t.t lo hf
      refine ⟨h1, ?_, q⟩
      show (if x = y then _ else _) = _
      rw [if_neg hc]; exact e
  · cases hf
set_option maxHeartbeats 2000000 in
theorem P_ifeq {B : BT} {F G : Fn}  (p : PF B F) (p2 : PF B G) : PF B (i_ifeq F G) := by
  intro L S h k v k1 hL hS lo hf
  unfold i_ifeq at hf
  split at hf
  · next x S1 =>
    split at hf
    · next hc =>
      obtain ⟨h1, e, q⟩ := p _ _ h k v k1 hL hS.t lo hf
      refine ⟨h1, ?_, q⟩
      show (if x = 0 then _ else _) = _
      rw [if_pos hc]; exact e
    · next hc =>
      obtain ⟨h1, e, q⟩ := p2 _ _ h k v k1 hL hS.t lo hf
      refine ⟨h1, ?_, q⟩
      show (if x = 0 then _ else _) = _
      rw [if_neg hc]; exact e
  · cases hf
set_option maxHeartbeats 2000000 in
theorem P_ifle {B : BT} {F G : Fn}  (p : PF B F) (p2 : PF B G) : PF B (i_ifle F G) := by
  intro L S h k v k1 hL hS lo hf
  unfold i_ifle at hf
  split at hf
  · next x S1 =>
    split at hf
    · next hc =>
      obtain ⟨h1, e, q⟩ := p _ _ h k v k1 hL hS.t lo hf
      refine ⟨h1, ?_, q⟩
      show (if x ≤ 0 then _ else _) = _
      rw [if_pos hc]; exact e
    · next hc =>
      obtain ⟨h1, e, q⟩ := p2 _ _ h k v k1 hL hS.t lo hf
      refine ⟨h1, ?_, q⟩
      show (if x ≤ 0 then _ else _) = _
      rw [if_neg hc]; exact e
  · cases hf
set_option maxHeartbeats 2000000 in
theorem P_iflt {B : BT} {F G : Fn}  (p : PF B F) (p2 : PF B G) : PF B (i_iflt F G) := by
  intro L S h k v k1 hL hS lo hf
  unfold i_iflt at hf
  split at hf
  · next x S1 =>
    split at hf
    · next hc =>
      obtain ⟨h1, e, q⟩ := p _ _ h k v k1 hL hS.t lo hf
      refine ⟨h1, ?_, q⟩
      show (if x < 0 then _ else _) = _
      rw [if_pos hc]; exact e
    · next hc =>
      obtain ⟨h1, e, q⟩ := p2 _ _ h k v k1 hL hS.t lo hf
      refine ⟨h1, ?_, q⟩
      show (if x < 0 then _ else _) = _
      rw [if_neg hc]; exact e
  · cases hf
set_option maxHeartbeats 2000000 in
theorem P_ifne {B : BT} {F G : Fn}  (p : PF B F) (p2 : PF B G) : PF B (i_ifne F G) := by
  intro L S h k v k1 hL hS lo hf
  unfold i_ifne at hf
  split at hf
  · next x S1 =>
    split at hf
    · next hc =>
      obtain ⟨h1, e, q⟩ := p2 _ _ h k v k1 hL hS.t lo hf
      refine ⟨h1, ?_, q⟩
      show (if x = 0 then _ else _) = _
      rw [if_pos hc]; exact e
    · next hc =>
      obtain ⟨h1, e, q⟩ := p _ _ h k v k1 hL hS.t lo hf
      refine ⟨h1, ?_, q⟩
      show (if x = 0 then _ else _) = _
      rw [if_neg hc]; exact e
  · cases hf
set_option maxHeartbeats 2000000 in
theorem P_ifge {B : BT} {F G : Fn}  (p : PF B F) (p2 : PF B G) : PF B (i_ifge F G) := by
  intro L S h k v k1 hL hS lo hf
  unfold i_ifge at hf
  split at hf
  · next x S1 =>
    split at hf
    · next hc =>
      obtain ⟨h1, e, q⟩ := p _ _ h k v k1 hL hS.t lo hf
      refine ⟨h1, ?_, q⟩
      show (if 0 ≤ x then _ else _) = _
      rw [if_pos hc]; exact e
    · next hc =>
      obtain ⟨h1, e, q⟩ := p2 _ _ h k v k1 hL hS.t lo hf
      refine ⟨h1, ?_, q⟩
      show (if 0 ≤ x then _ else _) = _
      rw [if_neg hc]; exact e
  · cases hf
set_option maxHeartbeats 2000000 in
theorem P_iload {B : BT} {F : Fn} {i : Nat} (p : PF B F) : PF B (i_iload i F) := by
  intro L S h k v k1 hL hS lo hf
  unfold i_iload at hf ⊢
  split at hf
  · next x e =>
    obtain ⟨h1, e1, q⟩ := p _ _ h k v k1 hL (okS.i hS) lo hf
    exact ⟨h1, e1, q⟩
  · cases hf
set_option maxHeartbeats 2000000 in
theorem P_aload {B : BT} {F : Fn} {i : Nat} (p : PF B F) : PF B (i_aload i F) := by
  intro L S h k v k1 hL hS lo hf
  unfold i_aload at hf ⊢
  split at hf
  · next x e =>
    obtain ⟨h1, e1, q⟩ := p _ _ h k v k1 hL (okS.c (hL _ (List.mem_of_getElem? e)) hS) lo hf
    exact ⟨h1, e1, q⟩
  · next e =>
    obtain ⟨h1, e1, q⟩ := p _ _ h k v k1 hL (okS.c (v := .null) trivial hS) lo hf
    exact ⟨h1, e1, q⟩
  · cases hf
set_option maxHeartbeats 2000000 in
theorem P_iinc {B : BT} {F : Fn} {i : Nat} {n : Int32} (p : PF B F) : PF B (i_iinc i n F) := by
  intro L S h k v k1 hL hS lo hf
  unfold i_iinc at hf ⊢
  split at hf
  · next x e =>
    split at hf
    · next hc =>
      obtain ⟨h1, e1, q⟩ := p _ _ h k v k1 (hL.set i _) hS lo hf
      refine ⟨h1, ?_, q⟩
      show (if lgAt L i = false then _ else _) = _
      rw [if_pos hc]; exact e1
    · cases hf
  · cases hf
set_option maxHeartbeats 2000000 in
theorem P_istore {B : BT} {F : Fn} {i : Nat} (p : PF B F) : PF B (i_istore i F) := by
  intro L S h k v k1 hL hS lo hf
  unfold i_istore at hf
  split at hf
  · next x S1 =>
    split at hf
    · next hc =>
      obtain ⟨h1, e1, q⟩ := p _ _ h k v k1 (hL.set i _) hS.t lo hf
      refine ⟨h1, ?_, q⟩
      show (if lgAt L i = false ∧ i < L.length then _ else _) = _
      rw [if_pos hc]; exact e1
    · cases hf
  · cases hf
set_option maxHeartbeats 2000000 in
theorem P_getI {B : BT} {F : Fn} {ci : Nat} {j : Nat} (p : PF B F) : PF B (i_getI ci j F) := by
  intro L S h k v k1 hL hS lo hf
  unfold i_getI at hf
  split at hf
  · next i S1 =>
    split at hf
    · next hc =>
      obtain ⟨l1, l2⟩ := lo.lt hS.h hc.2
      obtain ⟨h1, e1, q⟩ := p _ _ h k v k1 hL (okS.i hS.t) lo hf
      refine ⟨h1, ?_, q⟩
      rw [r_getI, if_pos ⟨hc.1, l1⟩, (lo.2.2.2.1 i j l2).1]; exact e1
    · cases hf
  · cases hf
set_option maxHeartbeats 2000000 in
theorem P_getR {B : BT} {F : Fn} {ci : Nat} {j : Nat} (p : PF B F) : PF B (i_getR ci j F) := by
  intro L S h k v k1 hL hS lo hf
  unfold i_getR at hf
  split at hf
  · next i S1 =>
    split at hf
    · next hc =>
      obtain ⟨l1, l2⟩ := lo.lt hS.h hc.2
      obtain ⟨h1, e1, q⟩ := p _ _ h k v k1 hL (okS.c (rk_rv lo l2) hS.t) lo hf
      refine ⟨h1, ?_, q⟩
      rw [r_getR, if_pos ⟨hc.1, l1⟩, (lo.2.2.2.1 i j l2).2.2]; exact e1
    · cases hf
  · cases hf
set_option maxHeartbeats 2000000 in
theorem P_putI {B : BT} {F : Fn} {ci : Nat} {j : Nat} (p : PF B F) : PF B (i_putI ci j F) := by
  intro L S h k v k1 hL hS lo hf
  unfold i_putI at hf
  split at hf
  · next x i S1 =>
    split at hf
    · next hc =>
      obtain ⟨l1, l2⟩ := lo.lt hS.t.h hc.2
      obtain ⟨h1, e1, q⟩ := p _ _ (sI h i j x) _ v k1 hL hS.t.t (lo.sI l2 j x) hf
      refine ⟨h1, ?_, q⟩
      rw [r_putI, if_pos ⟨hc.1, l1⟩]; exact e1
    · cases hf
  · cases hf
set_option maxHeartbeats 2000000 in
theorem P_putR {B : BT} {F : Fn} {ci : Nat} {j : Nat} (p : PF B F) : PF B (i_putR ci j F) := by
  intro L S h k v k1 hL hS lo hf
  unfold i_putR at hf
  split at hf
  · next x i S1 =>
    split at hf
    · next hc =>
      obtain ⟨l1, l2⟩ := lo.lt hS.t.h hc.2
      obtain ⟨h1, e1, q⟩ := p _ _ (sR h i j (some x)) _ v k1 hL hS.t.t (lo.sR l2 j x hS.h) hf
      refine ⟨h1, ?_, q⟩
      rw [r_putR, if_pos ⟨hc.1, l1⟩]; exact e1
    · cases hf
  · cases hf
set_option maxHeartbeats 2000000 in
theorem P_alen {B : BT} {F : Fn}  (p : PF B F) : PF B (i_alen F) := by
  intro L S h k v k1 hL hS lo hf
  unfold i_alen at hf
  split at hf
  · next i S1 =>
    split at hf
    · next hc =>
      obtain ⟨l1, l2⟩ := lo.lt hS.h hc.2.2
      obtain ⟨h1, e1, q⟩ := p _ _ h k v k1 hL (okS.i hS.t) lo hf
      refine ⟨h1, ?_, q⟩
      rw [r_alen, if_pos ⟨hc.1, hc.2.1, l1⟩]; exact e1
    · cases hf
  · cases hf
set_option maxHeartbeats 2000000 in
theorem P_iaload {B : BT} {F : Fn}  (p : PF B F) : PF B (i_iaload F) := by
  intro L S h k v k1 hL hS lo hf
  unfold i_iaload at hf
  split at hf
  · next j i S1 =>
    split at hf
    · next hc =>
      obtain ⟨l1, l2⟩ := lo.lt hS.t.h hc.2.1
      obtain ⟨h1, e1, q⟩ := p _ _ h k v k1 hL (okS.i hS.t.t) lo hf
      refine ⟨h1, ?_, q⟩
      rw [r_iaload, if_pos ⟨hc.1, l1, hc.2.2⟩, (lo.2.2.2.1 i j.toNatClampNeg l2).1]; exact e1
    · cases hf
  · cases hf
set_option maxHeartbeats 2000000 in
theorem P_iastore {B : BT} {F : Fn}  (p : PF B F) : PF B (i_iastore F) := by
  intro L S h k v k1 hL hS lo hf
  unfold i_iastore at hf
  split at hf
  · next x j i S1 =>
    split at hf
    · next hc =>
      obtain ⟨l1, l2⟩ := lo.lt hS.t.t.h hc.2.1
      obtain ⟨h1, e1, q⟩ := p _ _ (sI h i j.toNatClampNeg x) _ v k1 hL hS.t.t.t (lo.sI l2 _ x) hf
      refine ⟨h1, ?_, q⟩
      rw [r_iastore, if_pos ⟨hc.1, l1, hc.2.2⟩]; exact e1
    · cases hf
  · cases hf
set_option maxHeartbeats 2000000 in
theorem P_ireturn {B : BT} : PF B i_ireturn := by
  intro L S h k v k1 hL hS lo hf
  unfold i_ireturn at hf
  split at hf
  · cases hf
    exact ⟨h, rfl, lo, fun x hx => by cases hx; exact trivial⟩
  · cases hf
set_option maxHeartbeats 2000000 in
theorem P_zreturn {B : BT} : PF B i_zreturn := by
  intro L S h k v k1 hL hS lo hf
  unfold i_zreturn at hf
  split at hf
  · next x =>
    split at hf
    · next hc =>
      cases hf
      refine ⟨h, ?_, lo, fun x hx => by cases hx; exact trivial⟩
      show (if x = 0 ∨ x = 1 then _ else _) = _
      rw [if_pos hc]
    · cases hf
  · cases hf
set_option maxHeartbeats 2000000 in
theorem P_return {B : BT} : PF B i_return := by
  intro L S h k v k1 hL hS lo hf
  unfold i_return at hf
  split at hf
  · cases hf
    exact ⟨h, rfl, lo, fun x hx => by cases hx⟩
  · cases hf
set_option maxHeartbeats 2000000 in
theorem P_no {B : BT} : PF B (fun _ _ _ => none) := fun L S h k v k1 hL hS lo hf => by cases hf
set_option maxHeartbeats 2000000 in
theorem P_throw {B : BT} {x : Nat} : PF B (i_throw x) := by
  intro L S h k v k1 hL hS lo hf
  unfold i_throw at hf
  split at hf <;> cases hf
set_option maxHeartbeats 2000000 in
theorem P_after {B : BT} {f : List Value → AH → Option Ou} {F : Fn} (m : PM B f) (p : PF B F) {av S : List Value} {L : Lc} {h k : AH} {v : Option Value} {k1 : AH} (hL : okL B L) (ha : okS B av) (hS : okS B S) (lo : Lo B h k) (hf : i_after (f av k) S F L = some (.inl v, k1)) :
    ∃ h1, i_after (f av h) S F L = some (.inl v, h1) ∧ Lo B h1 k1 ∧ ∀ x, v = some x → rkV B x := by
  cases e : f av k with
  | none => rw [e] at hf; cases hf
  | some o =>
    obtain ⟨r, k2⟩ := o
    rw [e] at hf
    cases r with
    | inr x => cases hf
    | inl v1 =>
      obtain ⟨h2, e2, lo2, r2⟩ := m av h k v1 k2 ha lo e
      have hf : F L (v1.toList ++ S) k2 = some (.inl v, k1) := hf
      have hs : okS B (v1.toList ++ S) := by
        cases v1 with
        | none => exact hS
        | some x => exact okS.c (r2 x rfl) hS
      obtain ⟨h1, e1, q⟩ := p L _ h2 k2 v k1 hL hs lo2 hf
      exact ⟨h1, by rw [e2]; exact e1, q⟩
set_option maxHeartbeats 2000000 in
theorem okS.drop {B : BT} {S : List Value} (s : okS B S) (n : Nat) : okS B (S.drop n) := fun x hx => s x (List.mem_of_mem_drop hx)
set_option maxHeartbeats 2000000 in
theorem okS.tk {B : BT} {S : List Value} (s : okS B S) (n : Nat) : okS B (S.take n).reverse := fun x hx => s x (List.mem_of_mem_take (List.mem_reverse.mp hx))
set_option maxHeartbeats 2000000 in
theorem P_callS {B : BT} {f : List Value → AH → Option Ou} {F : Fn} {n : Nat} (m : PM B f) (p : PF B F) : PF B (i_callS n f F) := by
  intro L S h k v k1 hL hS lo hf
  unfold i_callS at hf ⊢
  split at hf
  · next hc =>
    rw [if_pos hc]
    exact P_after m p hL (hS.tk n) (hS.drop n) lo hf
  · cases hf
set_option maxHeartbeats 2000000 in
theorem P_callV {B : BT} {f : List Value → AH → Option Ou} {F : Fn} {ci n : Nat} (m : PM B f) (p : PF B F) : PF B (i_callV ci n f F) := by
  intro L S h k v k1 hL hS lo hf
  unfold i_callV at hf ⊢
  have hd := hS.drop n
  split at hf
  · next i rest e =>
    rw [e] at hd
    split at hf
    · next hc =>
      obtain ⟨l1, l2⟩ := lo.lt hd.h hc.2.1
      show ∃ h1, (if sh i = (0, ci) ∧ i < gN h ∧ (rest.map fun v => v.category).sum ≤ 8 then i_after (f (.ref i :: (S.take n).reverse) h) rest F L else none) = _ ∧ _
      rw [if_pos ⟨hc.1, l1, hc.2.2⟩]
      exact P_after m p hL (okS.c hd.h (hS.tk n)) hd.t lo hf
    · cases hf
  · cases hf
