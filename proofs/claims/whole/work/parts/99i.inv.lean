/-! the state between two calls -/
abbrev SG : Type := (Nat → Nat) × Nat × BD × Nat × (Nat → Int) × (Nat → Nat → Int) × Nat × Int32 × Int32
def HS (β : BD) (s : Nat → Int) : Prop := ∀ d, nD (cpl β) ≤ d → d < 5 → s d = -1
def OKG (β : BD) (b : Nat) (s : Nat → Int) (past : Nat → Nat → Int) (k : Nat) : Prop := (b = 8 ∨ b = 29) ∧ WP β ∧ SB s ∧ HS β s ∧ k ≤ 8 ∧ ∀ j, j < k → SB (past j) ∧ HS β (past j)
/-- the brigade that is served -/
def CBr (β : BD) (b : Nat) (h : AH) : Prop := gR h 0 8 = some b ∧ gR h 0 9 = some (37 - b) ∧ NMC b β h ∧ BC (cpl β) b h ∧ CL (cpl β) b h ∧ CV (cpl β) b h ∧ gR h 72 12 = some b
/-- the timetable -/
def CTt (β : BD) (b : Nat) (s : Nat → Int) (h : AH) : Prop := TI56 b (2 ^ nE (cpl β) - 1) (N (β 0 8)) (N (β 0 10)) s h ∧ CP56 (cpl β) (N (β 0 10)) (run (cpl β) 0 (N (β 0 8)) (N (β 0 10)) s 48) 48 h ∧ CQ56 (cpl β) 0 (N (β 0 8)) (N (β 0 10)) s 48 h ∧ VR (vL (cpl β) 0 (N (β 0 8)) (N (β 0 10)) s 48) h
/-- what has been given in, and the last error -/
def CIn (bs : Nat → Nat) (n : Nat) (err off : Int32) (h : AH) : Prop := gI h 0 10 = N n ∧ IC bs n h ∧ gI h 0 11 = err ∧ gI h 0 12 = off
def CHi (past : Nat → Nat → Int) (k : Nat) (h : AH) : Prop := gI h 6 0 = N k ∧ ∀ j, j < k → ∀ d, d < 5 → gI h 7 (j * 5 + d) = J (past j d)
def GCl (g : SG) (h : AH) : Prop := CIn g.1 g.2.1 g.2.2.2.2.2.2.2.1 g.2.2.2.2.2.2.2.2 h ∧ CBr g.2.2.1 g.2.2.2.1 h ∧ GC (cpl g.2.2.1) h ∧ CTt g.2.2.1 g.2.2.2.1 g.2.2.2.2.1 h ∧ CHi g.2.2.2.2.2.1 g.2.2.2.2.2.2.1 h
def MIn (bs : Nat → Nat) (n : Nat) (err off : Int32) (h : AH) : Prop := IM bs n h ∧ gI h 89 38 = err ∧ gI h 89 39 = off
def MBr (β : BD) (h : AH) : Prop := HdM β h ∧ RowM (cnt β) β h ∧ BM (cpl β) h ∧ PW h
def MHi (past : Nat → Nat → Int) (k : Nat) (h : AH) : Prop := gI h 89 75 = N k ∧ ∀ j, j < k → ∀ d, d < 5 → gI h 129 (5 * j + d) = J (past j d)
def GRf (g : SG) (h : AH) : Prop := MIn g.1 g.2.1 g.2.2.2.2.2.2.2.1 g.2.2.2.2.2.2.2.2 h ∧ MBr g.2.2.1 h ∧ GM (cpl g.2.2.1) h ∧ MI2 0 (N (g.2.2.1 0 8)) (N (g.2.2.1 0 10)) g.2.2.2.2.1 h ∧ MHi g.2.2.2.2.2.1 g.2.2.2.2.2.2.1 h
def GA (g : SG) (h : AH) : Prop := WF h ∧ OKG g.2.2.1 g.2.2.2.1 g.2.2.2.2.1 g.2.2.2.2.2.1 g.2.2.2.2.2.2.1 ∧ GCl g h ∧ GRf g h
/-- the cells of one side -/
def loC (A : List Nat) (Q : List (Nat × Nat)) : Bool := A.all (fun a => decide (a < 89)) && Q.all (fun q => decide (q.1 < 89))
def hiC (A : List Nat) (Q : List (Nat × Nat)) : Bool := A.all (fun a => decide (89 ≤ a)) && Q.all (fun q => decide (89 ≤ q.1))
set_option maxHeartbeats 2000000 in
theorem lo_no {A : List Nat} {Q : List (Nat × Nat)} (ok : loC A Q = true) {a k : Nat} (ha : 89 ≤ a) : inF A Q a k = false := by
  unfold loC at ok
  rw [Bool.and_eq_true] at ok
  unfold inF
  rw [Bool.or_eq_false_iff]
  refine ⟨?_, ?_⟩
  · cases hc : A.contains a with
    | false => rfl
    | true =>
      rw [List.contains_iff_mem] at hc
      have := of_decide_eq_true (List.all_eq_true.mp ok.1 _ hc)
      omega
  · cases hc : Q.contains (a, k) with
    | false => rfl
    | true =>
      rw [List.contains_iff_mem] at hc
      have := of_decide_eq_true (List.all_eq_true.mp ok.2 _ hc)
      have : a < 89 := this
      omega
set_option maxHeartbeats 2000000 in
theorem hi_no {A : List Nat} {Q : List (Nat × Nat)} (ok : hiC A Q = true) {a k : Nat} (ha : a < 89) : inF A Q a k = false := by
  unfold hiC at ok
  rw [Bool.and_eq_true] at ok
  unfold inF
  rw [Bool.or_eq_false_iff]
  refine ⟨?_, ?_⟩
  · cases hc : A.contains a with
    | false => rfl
    | true =>
      rw [List.contains_iff_mem] at hc
      have := of_decide_eq_true (List.all_eq_true.mp ok.1 _ hc)
      omega
  · cases hc : Q.contains (a, k) with
    | false => rfl
    | true =>
      rw [List.contains_iff_mem] at hc
      have := of_decide_eq_true (List.all_eq_true.mp ok.2 _ hc)
      have : 89 ≤ a := this
      omega
/-- the class's side depends on the class's cells alone -/
def EqC (h h' : AH) : Prop := (∀ a k, a < 89 → gI h' a k = gI h a k) ∧ ∀ a k, gR h' a k = gR h a k
def EqM (h h' : AH) : Prop := ∀ a k, 89 ≤ a → gI h' a k = gI h a k ∧ gL h' a k = gL h a k
set_option maxHeartbeats 2000000 in
theorem Fr.eqC {A : List Nat} {Q : List (Nat × Nat)} {h h' : AH} (f : Fr A Q h h') (ok : hiC A Q = true) : EqC h h' := ⟨fun a k ha => (f.2 a k (hi_no ok ha)).1, fun a k => f.r a k⟩
set_option maxHeartbeats 2000000 in
theorem Fr.eqM {A : List Nat} {Q : List (Nat × Nat)} {h h' : AH} (f : Fr A Q h h') (ok : loC A Q = true) : EqM h h' := fun a k ha => f.2 a k (lo_no ok ha)
set_option maxHeartbeats 2000000 in
theorem Fx.eqM {A : List Nat} {Q R : List (Nat × Nat)} {h h' : AH} (f : Fx A Q R h h') (ok : loC A Q = true) : EqM h h' := fun a k ha => f.1.2 a k (lo_no ok ha)
set_option maxHeartbeats 2000000 in
theorem EqM.trans {h h1 h2 : AH} (x : EqM h h1) (y : EqM h1 h2) : EqM h h2 := fun a k ha => ⟨(y a k ha).1.trans (x a k ha).1, (y a k ha).2.trans (x a k ha).2⟩
set_option maxHeartbeats 2000000 in
theorem EqC.trans {h h1 h2 : AH} (x : EqC h h1) (y : EqC h1 h2) : EqC h h2 := ⟨fun a k ha => (y.1 a k ha).trans (x.1 a k ha), fun a k => (y.2 a k).trans (x.2 a k)⟩
set_option maxHeartbeats 2000000 in
theorem CBr.on {β : BD} {b : Nat} {h h' : AH} (q : CBr β b h) (r : ∀ a, (b ≤ a ∧ a ≤ b + 20) ∨ a = 53 → ∀ k, gI h' a k = gI h a k) (rr : ∀ p ∈ [(0, 8), (0, 9), (51, 0), (72, 12)], gR h' p.1 p.2 = gR h p.1 p.2) : CBr β b h' := by
  obtain ⟨q1, q2, ⟨n1, ob, n2, n3⟩, q4, q5, ⟨q6, q7⟩, q8⟩ := q
  refine ⟨(rr (0, 8) (by decide)).trans q1, (rr (0, 9) (by decide)).trans q2, ⟨(r _ (by omega) _).trans n1, ob, fun i hi => ⟨(n2 i hi).1, (r _ (by omega) _).trans (n2 i hi).2.1, (r _ (by omega) _).trans (n2 i hi).2.2⟩, n3⟩, ?_, ?_, ⟨(rr (51, 0) (by decide)).trans q6, fun s hs k hk => (r _ (by omega) _).trans (q7 s hs k hk)⟩, (rr (72, 12) (by decide)).trans q8⟩
  · obtain ⟨⟨a1, a2, a3, a4, a5, a6, a7, a8, a9⟩, a10, a11, a12, a13, a14⟩ := q4
    refine ⟨⟨(r _ (by omega) _).trans a1, (r _ (by omega) _).trans a2, (r _ (by omega) _).trans a3, (r _ (by omega) _).trans a4, (r _ (by omega) _).trans a5, (r _ (by omega) _).trans a6, (r _ (by omega) _).trans a7, (r _ (by omega) _).trans a8, (r _ (by omega) _).trans a9⟩, fun s hs => (r _ (by omega) _).trans (a10 s hs), fun e he => ⟨(r _ (by omega) _).trans (a11 e he).1, (r _ (by omega) _).trans (a11 e he).2⟩, fun s hs => ?_, fun d hd => ?_, fun k hk => (r _ (by omega) _).trans (a14 k hk)⟩
    · obtain ⟨x, y, z⟩ := a12 s hs
      exact ⟨(r _ (by omega) _).trans x, (r _ (by omega) _).trans y, (r _ (by omega) _).trans z⟩
    · obtain ⟨x1, x2, x3, x4, x5, x6⟩ := a13 d hd
      exact ⟨(r _ (by omega) _).trans x1, (r _ (by omega) _).trans x2, (r _ (by omega) _).trans x3, (r _ (by omega) _).trans x4, (r _ (by omega) _).trans x5, fun k hk => (r _ (by omega) _).trans (x6 k hk)⟩
  · intro d hd
    obtain ⟨z1, cc, cl, z2, z3, z4⟩ := q5 d hd
    exact ⟨fun e he => (r _ (by omega) _).trans (z1 e he), cc, cl, z2, (r _ (by omega) _).trans z3, fun i hi => (r _ (by omega) _).trans (z4 i hi)⟩
set_option maxHeartbeats 2000000 in
theorem CBr.eq {β : BD} {b : Nat} {h h' : AH} (hb : b = 8 ∨ b = 29) (q : CBr β b h) (e : EqC h h') : CBr β b h' := q.on (fun a ha k => e.1 a k (by omega)) (fun p _ => e.2 p.1 p.2)
set_option maxHeartbeats 2000000 in
theorem CTt.on {β : BD} {b : Nat} {s : Nat → Int} {h h' : AH} (q : CTt β b s h) (r : ∀ a, 56 ≤ a ∧ a ≤ 71 → ∀ k, gI h' a k = gI h a k) (rr : gR h' 56 12 = gR h 56 12) : CTt β b s h' := by
  obtain ⟨⟨t1, t2, t3, t4, t5⟩, ⟨⟨c1, c2, c3, c4, c5⟩, c6, c7, c8, c9, aw, c10, c11⟩, cq, v1, v2⟩ := q
  refine ⟨⟨rr.trans t1, (r _ (by omega) _).trans t2, (r _ (by omega) _).trans t3, (r _ (by omega) _).trans t4, fun d hd => (r _ (by omega) _).trans (t5 d hd)⟩, ⟨⟨(r _ (by omega) _).trans c1, (r _ (by omega) _).trans c2, (r _ (by omega) _).trans c3, (r _ (by omega) _).trans c4, (r _ (by omega) _).trans c5⟩, fun k hk => (r _ (by omega) _).trans (c6 k hk), fun k h1 hk => (r _ (by omega) _).trans (c7 k h1 hk), fun d hd => ?_, fun k h1 hk e he => ?_, aw, (r _ (by omega) _).trans c10, c11⟩, fun t ht => ?_, (r _ (by omega) _).trans v1, fun k hk => (r _ (by omega) _).trans (v2 k hk)⟩
  · obtain ⟨x1, x2, x3, x4, x5⟩ := c8 d hd
    exact ⟨(r _ (by omega) _).trans x1, (r _ (by omega) _).trans x2, (r _ (by omega) _).trans x3, (r _ (by omega) _).trans x4, (r _ (by omega) _).trans x5⟩
  · rw [r _ (by omega)]; exact c9 k h1 hk e he
  · obtain ⟨x1, x2, x3, x4⟩ := cq t ht
    exact ⟨(r _ (by omega) _).trans x1, (r _ (by omega) _).trans x2, (r _ (by omega) _).trans x3, (r _ (by omega) _).trans x4⟩
set_option maxHeartbeats 2000000 in
theorem CTt.eq {β : BD} {b : Nat} {s : Nat → Int} {h h' : AH} (q : CTt β b s h) (e : EqC h h') : CTt β b s h' := q.on (fun a ha k => e.1 a k (by omega)) (e.2 56 12)
set_option maxHeartbeats 2000000 in
theorem CIn.eq {bs : Nat → Nat} {n : Nat} {err off : Int32} {h h' : AH} (q : CIn bs n err off h) (e : EqC h h') : CIn bs n err off h' := by
  obtain ⟨q1, ⟨i1, i2, i3⟩, q2, q3⟩ := q
  have r : ∀ a, a < 89 → ∀ k, gI h' a k = gI h a k := fun a ha k => e.1 a k ha
  exact ⟨(r _ (by omega) _).trans q1, ⟨i1, fun k hk => (r _ (by omega) _).trans (i2 k hk), i3⟩, (r _ (by omega) _).trans q2, (r _ (by omega) _).trans q3⟩
set_option maxHeartbeats 2000000 in
theorem CHi.eq {past : Nat → Nat → Int} {k : Nat} {h h' : AH} (q : CHi past k h) (e : EqC h h') : CHi past k h' :=
  ⟨(e.1 _ _ (by omega)).trans q.1, fun j hj d hd => (e.1 _ _ (by omega)).trans (q.2 j hj d hd)⟩
set_option maxHeartbeats 2000000 in
theorem GCl.eq {g : SG} {h h' : AH} (hb : g.2.2.2.1 = 8 ∨ g.2.2.2.1 = 29) (q : GCl g h) (e : EqC h h') : GCl g h' :=
  ⟨q.1.eq e, q.2.1.eq hb e, fun a ha => by rw [e.1 52 a (by omega)]; exact q.2.2.1 a ha, q.2.2.2.1.eq e, q.2.2.2.2.eq e⟩
set_option maxHeartbeats 2000000 in
theorem MIn.eq {bs : Nat → Nat} {n : Nat} {err off : Int32} {h h' : AH} (q : MIn bs n err off h) (e : EqM h h') : MIn bs n err off h' := by
  obtain ⟨⟨i1, i2, i3, i4⟩, q2, q3⟩ := q
  exact ⟨⟨i1, (e 89 37 (by omega)).1.trans i2, fun k hk => (e 113 k (by omega)).1.trans (i3 k hk), i4⟩, (e 89 38 (by omega)).1.trans q2, (e 89 39 (by omega)).1.trans q3⟩
set_option maxHeartbeats 2000000 in
theorem MBr.eq {β : BD} {h h' : AH} (q : MBr β h) (e : EqM h h') : MBr β h' := by
  obtain ⟨q1, ⟨q2, q3⟩, ⟨b1, b2, b3, b4, b5, b6, b7⟩, q5⟩ := q
  have r : ∀ a, 89 ≤ a → ∀ k, gI h' a k = gI h a k := fun a ha k => (e a k ha).1
  have hI : ∀ a ∈ rI, 89 ≤ a := by decide
  have hL : ∀ a ∈ rL, 89 ≤ a := by decide
  refine ⟨fun i h1 h2 => (r _ (by omega) _).trans (q1 i h1 h2), ⟨fun a ha k hk => (r _ (hI a ha) _).trans (q2 a ha k hk), fun a ha k hk => (e a k (hL a ha)).2.trans (q3 a ha k hk)⟩, ⟨fun i h1 h2 => (r _ (by omega) _).trans (b1 i h1 h2), (r _ (by omega) _).trans b2, fun s hs => (r _ (by omega) _).trans (b3 s hs), fun e he => ⟨(r _ (by omega) _).trans (b4 e he).1, (r _ (by omega) _).trans (b4 e he).2⟩, fun s hs => ?_, fun d hd => ?_, fun k hk => (r _ (by omega) _).trans (b7 k hk)⟩, fun k hk => (r _ (by omega) _).trans (q5 k hk)⟩
  · obtain ⟨x, y, z⟩ := b5 s hs
    exact ⟨(r _ (by omega) _).trans x, (r _ (by omega) _).trans y, (r _ (by omega) _).trans z⟩
  · obtain ⟨x1, x2, x3, x4, x5, x6⟩ := b6 d hd
    exact ⟨(r _ (by omega) _).trans x1, (r _ (by omega) _).trans x2, (r _ (by omega) _).trans x3, (r _ (by omega) _).trans x4, (r _ (by omega) _).trans x5, fun k hk => (r _ (by omega) _).trans (x6 k hk)⟩
set_option maxHeartbeats 2000000 in
theorem MI2.eq {mis : Nat} {hz pl : Int32} {s : Nat → Int} {h h' : AH} (q : MI2 mis hz pl s h) (e : EqM h h') : MI2 mis hz pl s h' :=
  ⟨fun d hd => (e 109 d (by omega)).1.trans (q.1 d hd), (e 89 58 (by omega)).1.trans q.2.1, (e 89 59 (by omega)).1.trans q.2.2.1, (e 89 60 (by omega)).1.trans q.2.2.2⟩
set_option maxHeartbeats 2000000 in
theorem MHi.eq {past : Nat → Nat → Int} {k : Nat} {h h' : AH} (q : MHi past k h) (e : EqM h h') : MHi past k h' :=
  ⟨(e 89 75 (by omega)).1.trans q.1, fun j hj d hd => (e 129 _ (by omega)).1.trans (q.2 j hj d hd)⟩
set_option maxHeartbeats 2000000 in
theorem GRf.eq {g : SG} {h h' : AH} (q : GRf g h) (e : EqM h h') : GRf g h' :=
  ⟨q.1.eq e, q.2.1.eq e, fun a ha => by rw [(e 115 a (by omega)).1]; exact q.2.2.1 a ha, q.2.2.2.1.eq e, q.2.2.2.2.eq e⟩
