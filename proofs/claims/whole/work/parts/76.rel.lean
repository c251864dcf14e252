/-! the brigade as it is read: rows by the reference's cells; both sides hold them -/
def ub (β : BD) (a k v : Nat) : BD := fun x y => if x = a ∧ y = k then v else β x y
set_option maxHeartbeats 2000000 in
theorem ub_eq {β : BD} {a k v : Nat} : ub β a k v a k = v := by unfold ub; rw [if_pos ⟨rfl, rfl⟩]
set_option maxHeartbeats 2000000 in
theorem ub_ne {β : BD} {a k v x y : Nat} (h : x ≠ a) : ub β a k v x y = β x y := by unfold ub; rw [if_neg (fun z => h z.1)]
set_option maxHeartbeats 2000000 in
theorem ub_nk {β : BD} {a k v x y : Nat} (h : y ≠ k) : ub β a k v x y = β x y := by unfold ub; rw [if_neg (fun z => h z.2)]
def VJ (β : BD) (a k : Nat) : Int32 := if a = 101 then J ((β a k : Int) - 1) else N (β a k)
set_option maxHeartbeats 2000000 in
theorem VJ_N {β : BD} {a k : Nat} (h : a ≠ 101) : VJ β a k = N (β a k) := if_neg h
set_option maxHeartbeats 2000000 in
theorem VJ_ub {β : BD} {a k v x y : Nat} (h : ¬ (x = a ∧ y = k)) : VJ (ub β a k v) x y = VJ β x y := by
  unfold VJ ub
  rw [if_neg h]
def rI : List Nat := [91, 92, 93, 95, 97, 98, 99, 100, 101, 103, 104, 105, 106, 107, 108]
def rL : List Nat := [90, 94, 96, 102]
/-- the class's row of a reference's row (roads apart) -/
def rC : List (Nat × Nat) := [(95, 18), (97, 19), (98, 20), (99, 2), (100, 3), (101, 4), (103, 6), (104, 7), (105, 11), (106, 8), (107, 9), (108, 10)]
def RowM (c : Nat → Nat) (β : BD) (h : AH) : Prop := (∀ a ∈ rI, ∀ k, k < c a → gI h a k = VJ β a k) ∧ ∀ a ∈ rL, ∀ k, k < c a → gL h a k = Lg (β a k)
def RowC (b : Nat) (c : Nat → Nat) (β : BD) (h : AH) : Prop := ∀ p ∈ rC, ∀ k, k < c p.1 → gI h (b + p.2) k = VJ β p.1 k
def HdM (β : BD) (h : AH) : Prop := ∀ i, 1 ≤ i → i ≤ 10 → gI h 89 i = N (β 0 i)
def HdC (b : Nat) (β : BD) (h : AH) : Prop := gI h b 2 = N (β 0 2) ∧ gI h b 3 = N (β 0 3) ∧ gI h b 4 = N (β 0 4) ∧ gI h b 5 = N (β 0 5) ∧ gI h b 6 = N (β 0 1) ∧ gI h b 7 = N (β 0 8) ∧ gI h b 8 = N (β 0 9) ∧ gI h b 9 = N (β 0 10) ∧ gI h (b + 1) 0 = N (β 0 6) ∧ gI h (b + 5) 0 = N (β 0 7)
/-- how many of a row are given -/
def cnt (β : BD) (a : Nat) : Nat := if a = 90 then β 0 2 else if a < 94 then β 0 3 else if a < 96 then β 0 4 else if a < 99 then β 0 5 else if a < 102 then β 0 6 else if a = 105 then 3 * β 0 7 else β 0 7
set_option maxHeartbeats 2000000 in
theorem RowM.updI {c c' : Nat → Nat} {β : BD} {h : AH} (r : RowM c β h) {a0 k0 v : Nat} {x : Int32} (h1 : ∀ a k, k < c' a → (a = a0 ∧ k = k0) ∨ k < c a) (hx : VJ (ub β a0 k0 v) a0 k0 = x) (ha : a0 ∈ rI) : RowM c' (ub β a0 k0 v) (sI h a0 k0 x) := by
  refine ⟨fun a ham k hk => ?_, fun a ham k hk => ?_⟩
  · by_cases e : a = a0 ∧ k = k0
    · obtain ⟨e1, e2⟩ := e
      subst e1; subst e2
      rw [gI_eq, hx]
    · rw [VJ_ub e, gI_sI, if_neg e]
      rcases h1 a k hk with z | z
      · exact absurd z e
      · exact r.1 a ham k z
  · have hne : a ≠ a0 := fun z => by
      subst z
      revert ham ha
      unfold rL rI
      intro h2 h3
      simp at h2 h3
      omega
    rw [gL_sI, ub_ne hne]
    rcases h1 a k hk with z | z
    · exact absurd z.1 hne
    · exact r.2 a ham k z
set_option maxHeartbeats 2000000 in
theorem RowM.updL {c c' : Nat → Nat} {β : BD} {h : AH} (r : RowM c β h) {a0 k0 v : Nat} (h1 : ∀ a k, k < c' a → (a = a0 ∧ k = k0) ∨ k < c a) (ha : a0 ∈ rL) : RowM c' (ub β a0 k0 v) (sL h a0 k0 (Lg v)) := by
  refine ⟨fun a ham k hk => ?_, fun a ham k hk => ?_⟩
  · have hne : a ≠ a0 := fun z => by
      subst z
      revert ham ha
      unfold rL rI
      intro h2 h3
      simp at h2 h3
      omega
    rw [gI_sL, VJ_ub (fun z => hne z.1)]
    rcases h1 a k hk with z | z
    · exact absurd z.1 hne
    · exact r.1 a ham k z
  · by_cases e : a = a0 ∧ k = k0
    · obtain ⟨e1, e2⟩ := e
      subst e1; subst e2
      rw [gL_sL, if_pos ⟨rfl, rfl⟩, ub_eq]
    · rw [gL_sL, if_neg e]
      have : ub β a0 k0 v a k = β a k := by unfold ub; rw [if_neg e]
      rw [this]
      rcases h1 a k hk with z | z
      · exact absurd z e
      · exact r.2 a ham k z
set_option maxHeartbeats 2000000 in
theorem RowM.head {c : Nat → Nat} {β : BD} {h : AH} (r : RowM c β h) {i v : Nat} {x : Int32} : RowM c (ub β 0 i v) (sI h 89 i x) := by
  have e0 : ∀ a, a ∈ rI → a ≠ 0 ∧ a ≠ 89 := by decide
  have e1 : ∀ a, a ∈ rL → a ≠ 0 := by decide
  refine ⟨fun a ha k hk => ?_, fun a ha k hk => ?_⟩
  · rw [gI_ne (e0 a ha).2, VJ_ub (fun z => (e0 a ha).1 z.1)]; exact r.1 a ha k hk
  · rw [gL_sI, ub_ne (e1 a ha)]; exact r.2 a ha k hk
set_option maxHeartbeats 2000000 in
theorem RowM.fr {c : Nat → Nat} {β : BD} {h h' : AH} {A : List Nat} {Q : List (Nat × Nat)} (r : RowM c β h) (f : Fr A Q h h') (ok : okR A Q (rI ++ rL) [] = true) : RowM c β h' :=
  ⟨fun a ha k hk => (f.row (okR_r ok (List.mem_append_left _ ha)) k).trans (r.1 a ha k hk), fun a ha k hk => (f.rowL (okR_r ok (List.mem_append_right _ ha)) k).trans (r.2 a ha k hk)⟩
set_option maxHeartbeats 2000000 in
theorem RowM.mono {c c' : Nat → Nat} {β : BD} {h : AH} (r : RowM c β h) (hc : ∀ a, c' a ≤ c a) : RowM c' β h :=
  ⟨fun a ha k hk => r.1 a ha k (Nat.lt_of_lt_of_le hk (hc a)), fun a ha k hk => r.2 a ha k (Nat.lt_of_lt_of_le hk (hc a))⟩
set_option maxHeartbeats 2000000 in
theorem HdM.fr {β : BD} {h h' : AH} {A : List Nat} {Q : List (Nat × Nat)} (r : HdM β h) (f : Fr A Q h h') (ok : okR A Q [] [(89, 1), (89, 2), (89, 3), (89, 4), (89, 5), (89, 6), (89, 7), (89, 8), (89, 9), (89, 10)] = true) : HdM β h' := fun i h1 h2 => by
  have : (89, i) ∈ [(89, 1), (89, 2), (89, 3), (89, 4), (89, 5), (89, 6), (89, 7), (89, 8), (89, 9), (89, 10)] := by
    rcases (show i = 1 ∨ i = 2 ∨ i = 3 ∨ i = 4 ∨ i = 5 ∨ i = 6 ∨ i = 7 ∨ i = 8 ∨ i = 9 ∨ i = 10 by omega) with rfl | rfl | rfl | rfl | rfl | rfl | rfl | rfl | rfl | rfl <;> decide
  exact (f.i 89 i (okR_p (p := (89, i)) ok this)).trans (r i h1 h2)
set_option maxHeartbeats 2000000 in
theorem HdM.upd {β : BD} {h : AH} (r : HdM β h) {i v : Nat} : HdM (ub β 0 i v) (sI h 89 i (N v)) := fun j h1 h2 => by
  by_cases e : j = i
  · subst e; rw [gI_eq, ub_eq]
  · rw [gI_nk e, ub_nk e]; exact r j h1 h2
set_option maxHeartbeats 2000000 in
theorem HdM.row {β : BD} {h : AH} (r : HdM β h) {a k v : Nat} {x : Int32} (ha : a ≠ 0) (h2 : a ≠ 89) : HdM (ub β a k v) (sI h a k x) := fun j h1 h3 => by
  rw [gI_ne (fun z => h2 z.symm), ub_ne (fun z => ha z.symm)]; exact r j h1 h3
set_option maxHeartbeats 2000000 in
theorem HdM.rowL {β : BD} {h : AH} (r : HdM β h) {a k v : Nat} {x : Int64} (ha : a ≠ 0) : HdM (ub β a k v) (sL h a k x) := fun j h1 h3 => by
  rw [gI_sL, ub_ne (fun z => ha z.symm)]; exact r j h1 h3
set_option maxHeartbeats 2000000 in
theorem RowC.upd {b : Nat} {c c' : Nat → Nat} {β : BD} {h : AH} (r : RowC b c β h) {a0 j0 k0 v : Nat} {x : Int32} (h1 : ∀ a k, k < c' a → (a = a0 ∧ k = k0) ∨ k < c a) (hx : VJ (ub β a0 k0 v) a0 k0 = x) (ha : (a0, j0) ∈ rC) : RowC b c' (ub β a0 k0 v) (sI h (b + j0) k0 x) := by
  have inj : ∀ p ∈ rC, ∀ q ∈ rC, (p.1 = q.1 ↔ p.2 = q.2) := by decide
  intro p hp k hk
  have hin := inj p hp _ ha
  dsimp only at hin
  by_cases e : p.1 = a0 ∧ k = k0
  · obtain ⟨e1, e2⟩ := e
    have e3 := hin.mp e1
    rw [e1, e2, e3, gI_eq, hx]
  · rw [VJ_ub e, gI_sI, if_neg (fun z => e ⟨hin.mpr (by have := z.1; omega), z.2⟩)]
    rcases h1 p.1 k hk with z | z
    · exact absurd z e
    · exact r p hp k z
set_option maxHeartbeats 2000000 in
theorem RowC.fr {b : Nat} (hb : b = 8 ∨ b = 29) {c : Nat → Nat} {β : BD} {h h' : AH} {A : List Nat} {Q : List (Nat × Nat)} (r : RowC b c β h) (f : Fr A Q h h') (ok : okR A Q (rC.map (fun p => b + p.2)) [] = true) : RowC b c β h' := fun p hp k hk =>
  (f.row (okR_r ok (List.mem_map.mpr ⟨p, hp, rfl⟩)) k).trans (r p hp k hk)
set_option maxHeartbeats 2000000 in
theorem RowC.mono {b : Nat} {c c' : Nat → Nat} {β : BD} {h : AH} (r : RowC b c β h) (hc : ∀ a, c' a ≤ c a) : RowC b c' β h := fun p hp k hk => r p hp k (Nat.lt_of_lt_of_le hk (hc p.1))
set_option maxHeartbeats 2000000 in
theorem RowC.un {b : Nat} {c : Nat → Nat} {β : BD} {h : AH} (r : RowC b c β h) {a k v : Nat} (ha : ∀ p ∈ rC, p.1 = a → c a ≤ k) : RowC b c (ub β a k v) h := fun p hp j hj => by
  rw [VJ_ub (fun z => by have := ha p hp z.1; rw [z.1] at hj; omega)]; exact r p hp j hj
set_option maxHeartbeats 2000000 in
theorem RowM.un {c : Nat → Nat} {β : BD} {h : AH} (r : RowM c β h) {a k v : Nat} (ha : a ∈ rI ∨ a ∈ rL → c a ≤ k) : RowM c (ub β a k v) h :=
  ⟨fun p hp j hj => by
    rw [VJ_ub (fun z => by have := ha (Or.inl (z.1 ▸ hp)); rw [z.1] at hj; omega)]; exact r.1 p hp j hj,
   fun p hp j hj => by
    have : ub β a k v p j = β p j := by
      unfold ub
      rw [if_neg (fun z => by have := ha (Or.inr (z.1 ▸ hp)); rw [z.1] at hj; omega)]
    rw [this]; exact r.2 p hp j hj⟩
