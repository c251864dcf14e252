abbrev vwCl : List vw_C := [(RX0, TX0, 17), (RX1, TX1, 11), (RX2, TX2, 5), (RX3, TX3, 10), (RX4, TX4, 2), (RX5, TX5, 10), (RX6, TX6, 4), (RX7, TX7, 4), (RX8, TX8, 18), (RX10, TX10, 4), (RX11, TX11, 13), (RX12, TX12, 86)]
def shT : List (Nat × Nat) := [(0, 10), (2, 1000), (0, 9), (4, 1001), (1, 1001), (1, 1001), (0, 4), (1, 40), (0, 0), (0, 7), (1, 12), (1, 12), (1, 12), (0, 3), (1, 5), (1, 5), (1, 5), (1, 5), (1, 5), (1, 15), (1, 50), (1, 50), (1, 5), (1, 33), (1, 33), (1, 144), (1, 6), (1, 10), (1, 10), (0, 0), (0, 7), (1, 12), (1, 12), (1, 12), (0, 3), (1, 5), (1, 5), (1, 5), (1, 5), (1, 5), (1, 15), (1, 50), (1, 50), (1, 5), (1, 33), (1, 33), (1, 144), (1, 6), (1, 10), (1, 10), (0, 1), (0, 2), (1, 1024), (1, 18), (1, 10), (1, 6), (0, 8), (0, 5), (1, 48), (1, 48), (1, 48), (1, 48), (1, 48), (1, 5), (1, 5), (1, 5), (1, 5), (1, 5), (1, 5), (1, 48), (1, 53), (1, 48), (0, 8), (0, 5), (1, 48), (1, 48), (1, 48), (1, 48), (1, 48), (1, 5), (1, 5), (1, 5), (1, 5), (1, 5), (1, 5), (1, 48), (1, 53), (1, 48), (0, 6), (0, 11), (3, 12), (1, 20), (1, 20), (1, 20), (3, 6), (1, 6), (3, 10), (1, 10), (1, 10), (1, 12), (1, 12), (1, 12), (3, 5), (1, 5), (1, 5), (1, 15), (1, 5), (1, 5), (1, 5), (1, 5), (1, 220), (3, 33), (1, 10), (1, 1000), (1, 144), (1, 1024), (1, 10), (1, 6), (1, 5), (1, 5), (1, 5), (1, 5), (1, 5), (1, 10), (1, 48), (1, 48), (1, 48), (1, 48), (1, 64), (1, 40), (1, 5), (1, 5), (1, 5), (3, 1)]
def NT : Nat := 134
def sh (i : Nat) : Nat × Nat := shT.getD i (9, 0)
def fkT : List (List Nat) := [[2, 2, 0, 0, 0, 0, 0, 0, 0, 0, 0, 2, 2, 2, 2, 2, 2], [0, 0, 2, 2, 0, 0, 0, 0, 0, 0, 0], [2, 2, 2, 2, 2], [0, 2, 2, 2, 2, 2, 2, 2, 2, 2], [0, 2], [2, 2, 2, 0, 0, 0, 0, 0, 2, 2], [0, 0, 2, 0], [0, 2, 2, 2], [2, 2, 2, 2, 2, 2, 2, 2, 0, 2, 2, 2, 2, 0, 0, 0, 0, 0], [2, 2, 2, 0], [2, 2, 2, 2, 2, 2, 2, 2, 2, 2, 0, 0, 0], [0, 0, 0, 0, 0, 0, 0, 0, 0, 0, 0, 2, 2, 2, 2, 2, 2, 2, 2, 2, 2, 2, 2, 2, 2, 2, 2, 2, 2, 2, 2, 2, 2, 0, 0, 2, 2, 0, 0, 0, 0, 0, 0, 0, 0, 1, 0, 0, 0, 0, 1, 0, 0, 2, 2, 0, 2, 2, 0, 0, 0, 2, 2, 2, 2, 2, 2, 2, 2, 2, 2, 2, 0, 0, 0, 0, 2, 0, 0, 0, 0, 2, 2, 0, 0, 2]]
def fk (ci k : Nat) : Nat := (fkT.getD ci []).getD k 0
def nf (ci : Nat) : Nat := (fkT.getD ci []).length
/-! the abstract heap: ints, longs, references (by the number of the cell), how many cells are made, how many more were thrown away -/
abbrev WD : Type := Nat × (Nat → Nat) × va_G × (Nat → ClassId)
abbrev AH : Type := (Nat → Nat → Int32) × (Nat → Nat → Int64) × (Nat → Nat → Option Nat) × Nat × Nat
def gI (h : AH) (a k : Nat) : Int32 := h.1 a k
def gL (h : AH) (a k : Nat) : Int64 := h.2.1 a k
def gR (h : AH) (a k : Nat) : Option Nat := h.2.2.1 a k
def gN (h : AH) : Nat := h.2.2.2.1
def gX (h : AH) : Nat := h.2.2.2.2
def up2 {α : Type} (f : Nat → Nat → α) (a k : Nat) (v : α) : Nat → Nat → α := fun b j => if b = a ∧ j = k then v else f b j
def sI (h : AH) (a k : Nat) (v : Int32) : AH := (up2 h.1 a k v, h.2)
def sL (h : AH) (a k : Nat) (v : Int64) : AH := (h.1, up2 h.2.1 a k v, h.2.2)
def sR (h : AH) (a k : Nat) (v : Option Nat) : AH := (h.1, h.2.1, up2 h.2.2.1 a k v, h.2.2.2)
/-- a new cell, all zeros -/
def nw (h : AH) : AH := (fun b j => if b = gN h then 0 else h.1 b j, fun b j => if b = gN h then 0 else h.2.1 b j, fun b j => if b = gN h then none else h.2.2.1 b j, gN h + 1, gX h)
/-- cells were made that nobody sees again: the next cell has no number -/
def xt (h : AH) : AH := (h.1, h.2.1, h.2.2.1, gN h, 1)
/-- n ints copied from one cell to another -/
def cpI (h : AH) (a sp b dp n : Nat) : AH := (fun c j => if c = b ∧ dp ≤ j ∧ j < dp + n then h.1 a (sp + (j - dp)) else h.1 c j, h.2)
def fv (wd : WD) (h : AH) (ci i k : Nat) : Value := match fk ci k with
  | 0 => .int (gI h i k)
  | 1 => .long (gL h i k)
  | _ => va_re wd.2.1 (gR h i k)
def ent (wd : WD) (h : AH) (i : Nat) : va_E := match sh i with
  | (0, ci) => .inr (ci, (List.range (nf ci)).map (fv wd h ci i))
  | (1, n) => .inl (wd.2.2.2 0, n, .inl (gI h i))
  | (2, n) => .inl (wd.2.2.2 1, n, .inl (gI h i))
  | (3, n) => .inl (wd.2.2.2 2, n, .inr (.inl (gL h i)))
  | (_, n) => .inl (wd.2.2.2 3, n, .inr (.inr (.inr (.inr (fun j => (gR h i j).map wd.2.1)))))
def wsO (wd : WD) (h : AH) : va_W := (List.range (gN h)).map (fun i => (wd.2.1 i, ent wd h i))
abbrev tyO (wd : WD) : List (ClassId × FieldType) := [(wd.2.2.2 0, .int), (wd.2.2.2 1, .byte), (wd.2.2.2 2, .long), (wd.2.2.2 3, .object RX9)]
abbrev AO (wd : WD) : Nat → Prop := fun q => wd.1 ≤ q
def AdO (wd : WD) : Prop := ∀ i, i < NT → wd.2.1 i = wd.1 + i
def PH (wd : WD) (h : AH) (H : Heap) : Prop := va_P wd.2.2.1 vwCl (wsO wd h) H ∧ gN h ≤ NT ∧ (gX h = 0 → H.size = wd.1 + gN h)
theorem wsO_get (wd : WD) (h : AH) {i : Nat} (hi : i < gN h) : (wsO wd h)[i]? = some (wd.2.1 i, ent wd h i) := by
  simp [wsO, hi]
theorem wsO_inv {wd : WD} {h : AH} {k : Nat} {q : Nat × va_E} (hk : (wsO wd h)[k]? = some q) : k < gN h ∧ q = (wd.2.1 k, ent wd h k) := by
  by_cases hi : k < gN h
  · rw [wsO_get wd h hi] at hk
    exact ⟨hi, (Option.some.inj hk).symm⟩
  · simp [wsO, hi] at hk
theorem wsO_D {wd : WD} {h : AH} (hA : AdO wd) (hn : gN h ≤ NT) : va_D (AO wd) (wsO wd h) := by
  refine ⟨fun i j p q hp hq e => ?_, fun k q hq => ?_⟩
  · obtain ⟨h1, rfl⟩ := wsO_inv hp
    obtain ⟨h2, rfl⟩ := wsO_inv hq
    have e1 := hA i (by omega)
    have e2 := hA j (by omega)
    dsimp only at e
    omega
  · obtain ⟨h1, rfl⟩ := wsO_inv hq
    have e1 := hA k (by omega)
    show wd.1 ≤ wd.2.1 k
    omega
theorem wsO_set {wd : WD} {h h' : AH} {i : Nat} {e : va_E} (hn : gN h' = gN h) (he : ent wd h' i = e) (ho : ∀ k, k ≠ i → ent wd h' k = ent wd h k) : (wsO wd h).set i (wd.2.1 i, e) = wsO wd h' := by
  apply List.ext_getElem?
  intro k
  rw [List.getElem?_set]
  by_cases hk : k < gN h
  · by_cases hik : i = k
    · subst hik
      rw [if_pos rfl, wsO_get wd h' (by omega), he]
      simp [wsO, hk]
    · rw [if_neg hik, wsO_get wd h hk, wsO_get wd h' (by omega), ho k (Ne.symm hik)]
  · have e1 : (wsO wd h)[k]? = none := by simp [wsO]; omega
    have e2 : (wsO wd h')[k]? = none := by simp [wsO]; omega
    rw [e2]
    by_cases hik : i = k
    · rw [if_pos hik, if_neg]
      subst hik
      simp [wsO]; omega
    · rw [if_neg hik, e1]
theorem wsO_push {wd : WD} {h h' : AH} {q : Nat} {e : va_E} (hn : gN h' = gN h + 1) (hq : q = wd.2.1 (gN h)) (he : ent wd h' (gN h) = e) (ho : ∀ k, k < gN h → ent wd h' k = ent wd h k) : wsO wd h ++ [(q, e)] = wsO wd h' := by
  unfold wsO
  rw [hn, List.range_succ, List.map_append, List.map_cons, List.map_nil, he, hq]
  congr 1
  apply List.map_congr_left
  intro k hk
  rw [ho k (List.mem_range.mp hk)]
-- what an entry is, by its shape
theorem ent_o {wd : WD} {h : AH} {i ci : Nat} (hs : sh i = (0, ci)) : ent wd h i = .inr (ci, (List.range (nf ci)).map (fv wd h ci i)) := by unfold ent; rw [hs]; rfl
theorem ent_i {wd : WD} {h : AH} {i n : Nat} (hs : sh i = (1, n)) : ent wd h i = .inl (wd.2.2.2 0, n, .inl (gI h i)) := by unfold ent; rw [hs]; rfl
theorem ent_b {wd : WD} {h : AH} {i n : Nat} (hs : sh i = (2, n)) : ent wd h i = .inl (wd.2.2.2 1, n, .inl (gI h i)) := by unfold ent; rw [hs]; rfl
theorem ent_l {wd : WD} {h : AH} {i n : Nat} (hs : sh i = (3, n)) : ent wd h i = .inl (wd.2.2.2 2, n, .inr (.inl (gL h i))) := by unfold ent; rw [hs]; rfl
theorem ent_q {wd : WD} {h : AH} {i n : Nat} (hs : sh i = (4, n)) : ent wd h i = .inl (wd.2.2.2 3, n, .inr (.inr (.inr (.inr (fun j => (gR h i j).map wd.2.1))))) := by unfold ent; rw [hs]; rfl
/-- an entry depends on its own cell alone -/
theorem ent_cong {wd : WD} {h h' : AH} {i : Nat} (h1 : gI h' i = gI h i) (h2 : gL h' i = gL h i) (h3 : gR h' i = gR h i) : ent wd h' i = ent wd h i := by
  have hf : ∀ ci, fv wd h' ci i = fv wd h ci i := by
    intro ci
    funext k
    unfold fv
    rw [h1, h2, h3]
  unfold ent
  rw [h1, h2]
  simp only [hf, h3]
theorem gI_sI_ne {h : AH} {a k : Nat} {v : Int32} {i : Nat} (hi : i ≠ a) : gI (sI h a k v) i = gI h i := by
  funext j; simp [gI, sI, up2, hi]
theorem gL_sL_ne {h : AH} {a k : Nat} {v : Int64} {i : Nat} (hi : i ≠ a) : gL (sL h a k v) i = gL h i := by
  funext j; simp [gL, sL, up2, hi]
theorem gR_sR_ne {h : AH} {a k : Nat} {v : Option Nat} {i : Nat} (hi : i ≠ a) : gR (sR h a k v) i = gR h i := by
  funext j; simp [gR, sR, up2, hi]
theorem ent_sI_ne {wd : WD} {h : AH} {a k : Nat} {v : Int32} {i : Nat} (hi : i ≠ a) : ent wd (sI h a k v) i = ent wd h i := ent_cong (gI_sI_ne hi) rfl rfl
theorem ent_sL_ne {wd : WD} {h : AH} {a k : Nat} {v : Int64} {i : Nat} (hi : i ≠ a) : ent wd (sL h a k v) i = ent wd h i := ent_cong rfl (gL_sL_ne hi) rfl
theorem ent_sR_ne {wd : WD} {h : AH} {a k : Nat} {v : Option Nat} {i : Nat} (hi : i ≠ a) : ent wd (sR h a k v) i = ent wd h i := ent_cong rfl rfl (gR_sR_ne hi)
theorem fvs_get {wd : WD} {h : AH} {ci i k : Nat} (hk : k < nf ci) : ((List.range (nf ci)).map (fv wd h ci i))[k]? = some (fv wd h ci i k) := by simp [hk]
theorem fvs_set {wd : WD} {h h' : AH} {ci i k : Nat} {v : Value} (hv : fv wd h' ci i k = v) (ho : ∀ j, j ≠ k → fv wd h' ci i j = fv wd h ci i j) : ((List.range (nf ci)).map (fv wd h ci i)).set k v = (List.range (nf ci)).map (fv wd h' ci i) := by
  apply List.ext_getElem?
  intro j
  rw [List.getElem?_set]
  by_cases hj : j < nf ci
  · by_cases hkj : k = j
    · subst hkj; simp [hj, hv]
    · rw [if_neg hkj]; simp [hj, ho j (Ne.symm hkj)]
  · by_cases hkj : k = j
    · subst hkj; simp [hj]
    · rw [if_neg hkj]; simp [hj]
