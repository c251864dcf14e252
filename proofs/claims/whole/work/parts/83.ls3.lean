/-! adding one thing: cells put ahead of the count, then the count -/
set_option maxHeartbeats 2000000 in
theorem ub_old {β γ : BD} {a0 k0 v a k : Nat} (h : cnt γ a0 ≤ k0) (hk : k < cnt γ a) : ub β a0 k0 v a k = β a k := by
  unfold ub
  rw [if_neg (fun z => by rw [z.1, z.2] at hk; omega)]
def LY (bs : Nat → Nat) (n K b : Nat) (β : BD) (i : Nat) (sl ho : Bool) (hc hr : AH) : Prop :=
  CR bs n K i hc hr ∧ (gR hc 50 3 = some b ∧ gI hc 50 5 = bi sl ∧ gI hc 50 6 = bi ho ∧ HC b β hc ∧ RowC b (cnt β) β hc ∧ RMC b β hc) ∧
  (gI hr 89 47 = bi sl ∧ gI hr 89 48 = bi ho ∧ HdM β hr ∧ RowM (cnt β) β hr)
set_option maxHeartbeats 2000000 in
theorem LZ.y {bs : Nat → Nat} {n K b : Nat} {β : BD} {i : Nat} {sl ho : Bool} {hc hr : AH} (l : LZ bs n K b β i sl ho hc hr) : LY bs n K b β i sl ho hc hr := by
  obtain ⟨l1, ⟨a1, a2, a3, a4, a5, a6, a7⟩, l3, l4⟩ := l
  exact ⟨l1, ⟨a1, a2, a3, a4, a5, a7⟩, l3⟩
set_option maxHeartbeats 2000000 in
theorem LY.pokeC {bs : Nat → Nat} {n K b : Nat} (hb : b = 8 ∨ b = 29) {β : BD} {i : Nat} {sl ho : Bool} {hc hr : AH} (l : LY bs n K b β i sl ho hc hr) {j k : Nat} {x : Int32} (hj : j < 21) (h0 : j ≠ 0 ∧ j ≠ 1 ∧ j ≠ 5 ∧ j ≠ 17) (hn : ∀ p ∈ rC, p.2 = j → cnt β p.1 ≤ k) : LY bs n K b β i sl ho (sI hc (b + j) k x) hr := by
  obtain ⟨c, ⟨a1, a2, a3, a4, a5, a7⟩, r⟩ := l
  have hd : ∀ j, j < 21 → okR [8 + j] [] [4, 5] [(2, 3), (50, 4)] = true ∧ okR [29 + j] [] [4, 5] [(2, 3), (50, 4)] = true := by decide
  have f : Fr [b + j] [] hc (sI hc (b + j) k x) := (Fr.refl _ _ _).sI (inF_c (by simp)) _
  refine ⟨c.same f (by rcases hb with rfl | rfl; exact (hd j hj).1; exact (hd j hj).2) (Fr.refl [] [] hr) rfl, ⟨a1, ?_, ?_, ?_, ?_, ?_⟩, r⟩
  · rw [gI_ne (by omega)]; exact a2
  · rw [gI_ne (by omega)]; exact a3
  · have h2 : ∀ p ∈ hdL, p.1 = 0 ∨ p.1 = 1 ∨ p.1 = 5 := by decide
    exact a4.oth (fun p hp z => by have := h2 p hp; omega)
  · intro p hp m hm
    by_cases e : p.2 = j
    · have := hn p hp e
      rw [gI_nk (by omega)]; exact a5 p hp m hm
    · rw [gI_ne (by omega)]; exact a5 p hp m hm
  · intro m hm
    rw [gI_ne (by omega)]; exact a7 m hm
set_option maxHeartbeats 2000000 in
theorem LY.ad {bs : Nat → Nat} {n K b : Nat} (hb : b = 8 ∨ b = 29) {β : BD} {i : Nat} {sl ho : Bool} {hc hr : AH} (l : LY bs n K b β i sl ho hc hr) {nm v o : Nat} : LY bs n K b β i sl ho (adN b nm v o hc) hr := by
  obtain ⟨c, ⟨a1, a2, a3, a4, a5, a7⟩, r⟩ := l
  have f : Fr [b, b + 15, b + 16] [] hc (adN b nm v o hc) := adN_fr hb
  refine ⟨c.same f (by rcases hb with rfl | rfl <;> rfl) (Fr.refl [] [] hr) rfl, ⟨a1, ?_, ?_, a4.ad, a5.ad, a7.ad⟩, r⟩
  · rw [f.i 50 5 (by rcases hb with rfl | rfl <;> rfl)]; exact a2
  · rw [f.i 50 6 (by rcases hb with rfl | rfl <;> rfl)]; exact a3
set_option maxHeartbeats 2000000 in
theorem rML : ∀ a, a < 109 → 90 ≤ a → okR [a] [] [113] ((89, 37) :: (89, 40) :: (89, 41) :: frL) = true := by decide
set_option maxHeartbeats 2000000 in
theorem LY.pokeM {bs : Nat → Nat} {n K b : Nat} {β : BD} {i : Nat} {sl ho : Bool} {hc hr : AH} (l : LY bs n K b β i sl ho hc hr) {a k : Nat} {x : Int32} (ha : 90 ≤ a ∧ a ≤ 108) (hk : cnt β a ≤ k) : LY bs n K b β i sl ho hc (sI hr a k x) := by
  obtain ⟨c, q, ⟨b1, b2, b3, b4⟩⟩ := l
  have g : Fr [a] [] hr (sI hr a k x) := (Fr.refl _ _ _).sI (inF_c (by simp)) _
  refine ⟨c.same (Fr.refl [] [] hc) rfl g (rML a (by omega) ha.1), q, ⟨?_, ?_, ?_, ?_, ?_⟩⟩
  · rw [gI_ne (by omega)]; exact b1
  · rw [gI_ne (by omega)]; exact b2
  · intro j h1 h2; rw [gI_ne (by omega)]; exact b3 j h1 h2
  · intro y hy m hm
    by_cases e : y = a
    · subst e; rw [gI_nk (by omega)]; exact b4.1 y hy m hm
    · rw [gI_ne e]; exact b4.1 y hy m hm
  · intro y hy m hm
    rw [gL_sI]; exact b4.2 y hy m hm
set_option maxHeartbeats 2000000 in
theorem LY.pokeL {bs : Nat → Nat} {n K b : Nat} {β : BD} {i : Nat} {sl ho : Bool} {hc hr : AH} (l : LY bs n K b β i sl ho hc hr) {a k : Nat} {x : Int64} (ha : 90 ≤ a ∧ a ≤ 108) (hk : cnt β a ≤ k) : LY bs n K b β i sl ho hc (sL hr a k x) := by
  obtain ⟨c, q, ⟨b1, b2, b3, b4⟩⟩ := l
  have g : Fr [a] [] hr (sL hr a k x) := (Fr.refl _ _ _).sL (inF_c (by simp)) _
  refine ⟨c.same (Fr.refl [] [] hc) rfl g (rML a (by omega) ha.1), q, ⟨b1, b2, ?_, ?_, ?_⟩⟩
  · intro j h1 h2; rw [gI_sL]; exact b3 j h1 h2
  · intro y hy m hm
    rw [gI_sL]; exact b4.1 y hy m hm
  · intro y hy m hm
    by_cases e : y = a
    · subst e; rw [gL_sL, if_neg (by omega)]; exact b4.2 y hy m hm
    · rw [gL_sL, if_neg (by omega)]; exact b4.2 y hy m hm
set_option maxHeartbeats 2000000 in
theorem LZ.pokeM {bs : Nat → Nat} {n K b : Nat} {β : BD} {i : Nat} {sl ho : Bool} {hc hr : AH} (l : LZ bs n K b β i sl ho hc hr) {a k : Nat} {x : Int32} (ha : 90 ≤ a ∧ a ≤ 108) (hk : cnt β a ≤ k) : LZ bs n K b β i sl ho hc (sI hr a k x) := by
  obtain ⟨c, -, r⟩ := l.y.pokeM (x := x) ha hk
  exact ⟨c, l.2.1, r, l.2.2.2⟩
set_option maxHeartbeats 2000000 in
theorem LZ.pokeL {bs : Nat → Nat} {n K b : Nat} {β : BD} {i : Nat} {sl ho : Bool} {hc hr : AH} (l : LZ bs n K b β i sl ho hc hr) {a k : Nat} {x : Int64} (ha : 90 ≤ a ∧ a ≤ 108) (hk : cnt β a ≤ k) : LZ bs n K b β i sl ho hc (sL hr a k x) := by
  obtain ⟨c, -, r⟩ := l.y.pokeL (x := x) ha hk
  exact ⟨c, l.2.1, r, l.2.2.2⟩
set_option maxHeartbeats 2000000 in
theorem cnt_oth {β β' : BD} {ix : Nat} (p2 : ∀ j, j ≠ ix → β' 0 j = β 0 j) {a : Nat} (h : cix a ≠ ix) : cnt β' a = cnt β a := by
  rw [cnt_cix, cnt_cix, p2 _ h]
set_option maxHeartbeats 2000000 in
theorem VJ_cong {β β' : BD} {a k : Nat} (h : β' a k = β a k) : VJ β' a k = VJ β a k := by
  unfold VJ; rw [h]
set_option maxHeartbeats 2000000 in
theorem LY.commit {bs : Nat → Nat} {n K b : Nat} (hb : b = 8 ∨ b = 29) {β : BD} {i : Nat} {sl ho : Bool} {hc hr hc' hr' : AH} (l : LY bs n K b β i sl ho hc hr) {β' : BD} {ix j0 k0 : Nat} (hp : (j0, k0, ix) ∈ hdL) (hix : 2 ≤ ix ∧ ix ≤ 7)
    (p1 : β' 0 ix = β 0 ix + 1) (p2 : ∀ j, j ≠ ix → β' 0 j = β 0 j) (p3 : ∀ a, a ≠ 0 → ∀ k, k < cnt β a → β' a k = β a k)
    (f : Fr [b + 17] [(b + j0, k0)] hc hc') (f1 : gI hc' (b + j0) k0 = N (β 0 ix + 1)) (g : Fr [] [(89, ix)] hr hr') (g1 : gI hr' 89 ix = N (β 0 ix + 1))
    (n1 : ∀ a ∈ rI, cix a = ix → ∀ k, cnt β a ≤ k → k < cnt β' a → gI hr a k = VJ β' a k)
    (n2 : ∀ a ∈ rL, cix a = ix → ∀ k, cnt β a ≤ k → k < cnt β' a → gL hr a k = Lg (β' a k))
    (n3 : ∀ p ∈ rC, cix p.1 = ix → ∀ k, cnt β p.1 ≤ k → k < cnt β' p.1 → gI hc (b + p.2) k = VJ β' p.1 k)
    (nm : NMC b β' hc) (rmc : RMC b β' hc') (wp : WP β') : LZ bs n K b β' i sl ho hc' hr' := by
  obtain ⟨c, ⟨a1, a2, a3, a4, a5, a7⟩, ⟨b1, b2, b3, b4⟩⟩ := l
  have hd1 : ∀ p ∈ hdL, okR [8 + 17] [(8 + p.1, p.2.1)] [4, 5] [(2, 3), (50, 4)] = true ∧ okR [29 + 17] [(29 + p.1, p.2.1)] [4, 5] [(2, 3), (50, 4)] = true := by decide
  have hd2 : ∀ ix, ix < 8 → okR [] [(89, ix)] [113] ((89, 37) :: (89, 40) :: (89, 41) :: frL) = true := by decide
  have hd3 : ∀ p ∈ hdL, ∀ q ∈ hdL, p.2.2 ≠ q.2.2 → inF [8 + 17] [(8 + q.1, q.2.1)] (8 + p.1) p.2.1 = false ∧ inF [29 + 17] [(29 + q.1, q.2.1)] (29 + p.1) p.2.1 = false := by decide
  have hd4 : ∀ p ∈ rC, ∀ q ∈ hdL, (([8 + 17] : List Nat).contains (8 + p.2) || ([(8 + q.1, q.2.1)] : List (Nat × Nat)).any (fun q => q.1 == 8 + p.2)) = false ∧ (([29 + 17] : List Nat).contains (29 + p.2) || ([(29 + q.1, q.2.1)] : List (Nat × Nat)).any (fun q => q.1 == 29 + p.2)) = false := by decide
  have hd5 : ∀ q ∈ hdL, (inF [8 + 17] [(8 + q.1, q.2.1)] 8 10 = false ∧ inF [29 + 17] [(29 + q.1, q.2.1)] 29 10 = false) ∧ (inF [8 + 17] [(8 + q.1, q.2.1)] 50 5 = false ∧ inF [29 + 17] [(29 + q.1, q.2.1)] 50 5 = false) ∧ (inF [8 + 17] [(8 + q.1, q.2.1)] 50 6 = false ∧ inF [29 + 17] [(29 + q.1, q.2.1)] 50 6 = false) := by decide
  have hd6 : ∀ q ∈ hdL, ((([8 + 17] : List Nat).contains (8 + 15) || ([(8 + q.1, q.2.1)] : List (Nat × Nat)).any (fun q => q.1 == 8 + 15)) = false ∧ (([29 + 17] : List Nat).contains (29 + 15) || ([(29 + q.1, q.2.1)] : List (Nat × Nat)).any (fun q => q.1 == 29 + 15)) = false) ∧ ((([8 + 17] : List Nat).contains (8 + 16) || ([(8 + q.1, q.2.1)] : List (Nat × Nat)).any (fun q => q.1 == 8 + 16)) = false ∧ (([29 + 17] : List Nat).contains (29 + 16) || ([(29 + q.1, q.2.1)] : List (Nat × Nat)).any (fun q => q.1 == 29 + 16)) = false) := by decide
  have hx6 : ∀ ix, ix < 8 → inF [] [(89, ix)] 89 47 = false ∧ inF [] [(89, ix)] 89 48 = false := by decide
  have hcx : ∀ a, cix a ≠ ix → cnt β' a = cnt β a := fun a h => cnt_oth p2 h
  have e10 : gI hc' b 10 = gI hc b 10 := f.i _ _ (by
    have := hd5 _ hp
    rcases hb with rfl | rfl
    · exact this.1.1
    · exact this.1.2)
  have e15 : ∀ k, gI hc' (b + 15) k = gI hc (b + 15) k := fun k => f.row (by
    have := hd6 _ hp
    rcases hb with rfl | rfl
    · exact this.1.1
    · exact this.1.2) k
  have e16 : ∀ k, gI hc' (b + 16) k = gI hc (b + 16) k := fun k => f.row (by
    have := hd6 _ hp
    rcases hb with rfl | rfl
    · exact this.2.1
    · exact this.2.2) k
  refine ⟨c.same f (by have := hd1 _ hp; rcases hb with rfl | rfl; exact this.1; exact this.2) g (hd2 ix (by omega)), ⟨(f.r 50 3).trans a1, ?_, ?_, ?_, ?_, ?_, rmc⟩, ⟨?_, ?_, ?_, ?_, ?_⟩, wp⟩
  · rw [f.i 50 5 (by have := (hd5 _ hp).2.1; rcases hb with rfl | rfl; exact this.1; exact this.2)]; exact a2
  · rw [f.i 50 6 (by have := (hd5 _ hp).2.2; rcases hb with rfl | rfl; exact this.1; exact this.2)]; exact a3
  · intro p hpp
    by_cases e : p.2.2 = ix
    · obtain ⟨e1, e2⟩ := (hdL_inj p hpp _ hp).mp e
      rw [e1, e2, e, p1]; exact f1
    · rw [p2 _ e, f.i _ _ (by have := hd3 p hpp _ hp e; rcases hb with rfl | rfl; exact this.1; exact this.2)]
      exact a4 p hpp
  · intro p hpp m hm
    rw [f.row (by have := hd4 p hpp _ hp; rcases hb with rfl | rfl; exact this.1; exact this.2)]
    by_cases e : m < cnt β p.1
    · have h0 : ∀ p ∈ rC, p.1 ≠ 0 := by decide
      rw [VJ_cong (p3 _ (h0 p hpp) _ e)]; exact a5 p hpp m e
    · by_cases e2 : cix p.1 = ix
      · exact n3 p hpp e2 m (by omega) hm
      · rw [hcx _ e2] at hm; exact absurd hm e
  · obtain ⟨q1, ob, q2, q3⟩ := nm
    exact ⟨e10.trans q1, ob, fun i hi => by rw [e15, e16]; exact q2 i hi, q3⟩
  · rw [g.i 89 47 (hx6 ix (by omega)).1]; exact b1
  · rw [g.i 89 48 (hx6 ix (by omega)).2]; exact b2
  · intro j h1 h2
    by_cases e : j = ix
    · rw [e, p1]; exact g1
    · rw [p2 _ e, g.i 89 j (by unfold inF; simp; omega)]; exact b3 j h1 h2
  · intro a ha m hm
    have h0 : ∀ a ∈ rI, a ≠ 0 ∧ a ≠ 89 := by decide
    rw [g.i a m (by unfold inF; have := h0 a ha; simp; omega)]
    by_cases e : m < cnt β a
    · rw [VJ_cong (p3 _ (h0 a ha).1 _ e)]; exact b4.1 a ha m e
    · by_cases e2 : cix a = ix
      · exact n1 a ha e2 m (by omega) hm
      · rw [hcx _ e2] at hm; exact absurd hm e
  · intro a ha m hm
    have h0 : ∀ a ∈ rL, a ≠ 0 ∧ a ≠ 89 := by decide
    rw [g.l a m (by unfold inF; have := h0 a ha; simp; omega)]
    by_cases e : m < cnt β a
    · rw [p3 _ (h0 a ha).1 _ e]; exact b4.2 a ha m e
    · by_cases e2 : cix a = ix
      · exact n2 a ha e2 m (by omega) hm
      · rw [hcx _ e2] at hm; exact absurd hm e
/-- a head changes, and cells from the count on -/
def GB (β β' : BD) (ix : Nat) : Prop := β' 0 ix = β 0 ix + 1 ∧ (∀ j, j ≠ ix → β' 0 j = β 0 j) ∧ ∀ a, a ≠ 0 → ∀ k, k < cnt β a → β' a k = β a k
set_option maxHeartbeats 2000000 in
theorem GB.cb {β β' : BD} {ix : Nat} (g : GB β β' ix) (hix : 2 ≤ ix ∧ ix ≤ 7) (cb : CB β) (h : β 0 ix < if ix = 2 then 12 else if ix = 3 then 20 else if ix = 4 then 6 else if ix = 5 then 10 else if ix = 6 then 12 else 5) : CB β' := by
  obtain ⟨g1, g2, g3⟩ := g
  obtain ⟨q1, q2, q3, q4, q5, q6⟩ := cb
  have pe : ∀ j, β' 0 j = β 0 j + (if j = ix then 1 else 0) := fun j => by
    by_cases e : j = ix
    · rw [if_pos e, e]; exact g1
    · rw [if_neg e]; exact g2 j e
  unfold CB
  rw [pe 2, pe 3, pe 4, pe 5, pe 6, pe 7]
  rcases (show ix = 2 ∨ ix = 3 ∨ ix = 4 ∨ ix = 5 ∨ ix = 6 ∨ ix = 7 by omega) with rfl | rfl | rfl | rfl | rfl | rfl <;> simp at h ⊢ <;> omega
def nix (s : Nat) : Nat := if s = 0 then 2 else if s = 1 then 4 else if s = 2 then 5 else 7
set_option maxHeartbeats 2000000 in
theorem nc_ix (β : BD) (s : Nat) : nc β s = β 0 (nix s) := by
  unfold nc nix
  split
  · rfl
  · split
    · rfl
    · split <;> rfl
set_option maxHeartbeats 2000000 in
theorem GB.an {β β' : BD} {s v : Nat} (g : GB β β' (nix s)) (hs : s < 4) (h : β' (nrow s) (nc β s) = v) : AddN β β' s v := by
  obtain ⟨g1, g2, g3⟩ := g
  refine ⟨hs, fun t ht => ?_, fun t ht k hk => ?_, h⟩
  · have hinj : ∀ t, t < 4 → ∀ s, s < 4 → (nix t = nix s ↔ t = s) := by decide
    rw [nc_ix, nc_ix]
    by_cases e : t = s
    · rw [e, if_pos rfl]; exact g1
    · rw [if_neg e]; exact g2 _ (fun z => e ((hinj t ht s hs).mp z))
  · have : nrow t ≠ 0 := by have := nrow_in ht; omega
    exact g3 _ this k (by rw [← nc_cnt β ht]; exact hk)
-- no name more 
set_option maxHeartbeats 2000000 in
theorem GB.sn {β β' : BD} {ix : Nat} (g : GB β β' ix) (hix : ix = 3 ∨ ix = 6) : SN β β' := by
  obtain ⟨g1, g2, g3⟩ := g
  intro s hs
  have hinj : ∀ t, t < 4 → nix t ≠ 3 ∧ nix t ≠ 6 := by decide
  refine ⟨?_, fun k hk => ?_⟩
  · rw [nc_ix, nc_ix]; have := hinj s hs; exact g2 _ (by omega)
  · have : nrow s ≠ 0 := by have := nrow_in hs; omega
    exact g3 _ this k (by rw [← nc_cnt β hs]; exact hk)
set_option maxHeartbeats 2000000 in
theorem GB.rm {β β' : BD} {ix : Nat} (g : GB β β' ix) {b : Nat} {h : AH} (hix : ix ≠ 3) (r : RMC b β h) : RMC b β' h := by
  obtain ⟨g1, g2, g3⟩ := g
  intro k hk
  rw [g2 3 (fun z => hix z.symm), rm_cong (β := β) (β' := β') (β 0 3) (fun j hj => ⟨g3 91 (by decide) j hj, g3 92 (by decide) j hj, g3 93 (by decide) j hj⟩)]
  exact r k hk
set_option maxHeartbeats 2000000 in
theorem GB.wp {β β' : BD} {ix : Nat} (g : GB β β' ix) (hix : 2 ≤ ix ∧ ix ≤ 7) (w : WP β) (cb : CB β') (nd : ND β')
    (q3 : ix = 3 → β' 91 (β 0 3) < β 0 2 ∧ β' 92 (β 0 3) < β 0 2 ∧ 1 ≤ β' 93 (β 0 3) ∧ β' 93 (β 0 3) ≤ 60)
    (q4 : ix = 4 → β' 95 (β 0 4) < β 0 2)
    (q5 : ix = 5 → β' 97 (β 0 5) < 3 ∧ β' 98 (β 0 5) < β 0 4)
    (q6 : ix = 6 → β' 99 (β 0 6) < β 0 2 ∧ β' 100 (β 0 6) ≤ 120 ∧ β' 101 (β 0 6) ≤ 3)
    (q7 : ix = 7 → β' 103 (β 0 7) < β 0 2 ∧ 1 ≤ β' 104 (β 0 7) ∧ β' 104 (β 0 7) ≤ 8 ∧ β' 106 (β 0 7) ≤ 40 ∧ β' 107 (β 0 7) < 2 ^ (β 0 7) ∧ β' 108 (β 0 7) ≤ 23 ∧ (∀ k, k < 3 → β' 105 (3 * β 0 7 + k) ≤ 4) ∧ ∃ k, k < 3 ∧ 0 < β' 105 (3 * β 0 7 + k)) : WP β' := by
  obtain ⟨g1, g2, g3⟩ := g
  obtain ⟨-, -, w0, w1, w2, w3, w4, w5⟩ := w
  have pe : ∀ j, β' 0 j = β 0 j + (if j = ix then 1 else 0) := fun j => by
    by_cases e : j = ix
    · rw [if_pos e, e]; exact g1
    · rw [if_neg e]; exact g2 j e
  have ge : ∀ j, β 0 j ≤ β' 0 j := fun j => by rw [pe]; omega
  have old : ∀ j k, k < β' 0 j → k < β 0 j ∨ (ix = j ∧ k = β 0 j) := fun j k h => by
    rw [pe] at h
    by_cases e : j = ix
    · rw [if_pos e] at h; by_cases e2 : k = β 0 j
      · exact Or.inr ⟨e.symm, e2⟩
      · exact Or.inl (by omega)
    · rw [if_neg e] at h; exact Or.inl h
  have ge2 := ge 2
  have ge4 := ge 4
  refine ⟨cb, nd, ?_, fun k hk => ?_, fun k hk => ?_, fun k hk => ?_, fun k hk => ?_, fun k hk => ?_⟩
  · rw [g2 1 (by omega), g2 8 (by omega), g2 9 (by omega), g2 10 (by omega)]; exact w0
  · rcases old 3 k hk with h | ⟨h, rfl⟩
    · rw [g3 91 (by decide) k h, g3 92 (by decide) k h, g3 93 (by decide) k h]
      have := w1 k h; omega
    · have := q3 h; omega
  · rcases old 4 k hk with h | ⟨h, rfl⟩
    · rw [g3 95 (by decide) k h]
      have := w2 k h; omega
    · have := q4 h; omega
  · rcases old 5 k hk with h | ⟨h, rfl⟩
    · rw [g3 97 (by decide) k h, g3 98 (by decide) k h]
      have := w3 k h; omega
    · have := q5 h; omega
  · rcases old 6 k hk with h | ⟨h, rfl⟩
    · rw [g3 99 (by decide) k h, g3 100 (by decide) k h, g3 101 (by decide) k h]
      have := w4 k h; omega
    · have := q6 h; omega
  · rcases old 7 k hk with h | ⟨h, rfl⟩
    · have h105 : ∀ j, j < 3 → β' 105 (3 * k + j) = β 105 (3 * k + j) := fun j hj => g3 105 (by decide) _ (show 3 * k + j < 3 * β 0 7 by omega)
      rw [g3 103 (by decide) k h, g3 104 (by decide) k h, g3 106 (by decide) k h, g3 107 (by decide) k h, g3 108 (by decide) k h]
      obtain ⟨d1, d2, d3, d4, d5, d6, d7, d8⟩ := w5 k h
      exact ⟨by omega, d2, d3, d4, d5, d6, fun j hj => by rw [h105 j hj]; exact d7 j hj, by
        obtain ⟨j, j1, j2⟩ := d8
        exact ⟨j, j1, by rw [h105 j j1]; exact j2⟩⟩
    · obtain ⟨d1, d2⟩ := q7 h
      exact ⟨by omega, d2⟩
set_option maxHeartbeats 2000000 in
theorem NMC.fr {b : Nat} {β : BD} {h h' : AH} (nm : NMC b β h) (e10 : gI h' b 10 = gI h b 10) (e15 : ∀ k, gI h' (b + 15) k = gI h (b + 15) k) (e16 : ∀ k, gI h' (b + 16) k = gI h (b + 16) k) : NMC b β h' := by
  obtain ⟨q1, ob, q2, q3⟩ := nm
  exact ⟨e10.trans q1, ob, fun i hi => by rw [e15, e16]; exact q2 i hi, q3⟩
