def tokNm : List String := ["SLOT", "NODE", "ROAD", "STATION", "ENGINE", "STREET", "HOSES_WORD", "DRILL", "AT", "WITHIN", "DRY", "RACKS", "LASTS", "NEEDS", "HOSE", "AFTER", "FROM", "PUMP", "LADDER", "RESCUE", "NAME", "NUMBER", "SEMICOLON", "COMMA", "BAD", "END"]
def tokLim : List Int32 := [1, 12, 20, 6, 10, 12, 1, 5, 0, 0, 0, 0, 0, 0, 0, 0, 0, 0, 0, 0, 0, 0, 0, 0, 0, 0]
def tokTx : List Nat := [6, 7, 8, 9, 10, 11, 12, 13, 14, 15, 16, 17, 18, 19, 20, 21, 22, 23, 24, 25, 26, 26, 26, 26, 26, 26]
def txN : Nat := 27
def txLen : List Nat := [24, 26, 24, 17, 36, 29, 4, 4, 4, 7, 6, 6, 5, 5, 2, 6, 3, 5, 5, 5, 4, 5, 4, 4, 6, 6, 0]
def txByt : List (List Int32) := [[97, 110, 32, 105, 110, 100, 101, 120, 32, 105, 115, 32, 111, 117, 116, 32, 111, 102, 32, 114, 97, 110, 103, 101], [97, 32, 98, 105, 116, 32, 115, 116, 97, 110, 100, 115, 32, 102, 111, 114, 32, 110, 111, 32, 101, 110, 103, 105, 110, 101], [97, 32, 110, 117, 109, 98, 101, 114, 32, 105, 115, 32, 111, 117, 116, 32, 111, 102, 32, 114, 97, 110, 103, 101], [111, 114, 100, 101, 114, 32, 105, 115, 32, 110, 101, 103, 97, 116, 105, 118, 101], [97, 32, 100, 105, 103, 105, 116, 32, 111, 102, 32, 111, 114, 100, 101, 114, 32, 115, 116, 97, 110, 100, 115, 32, 102, 111, 114, 32, 110, 111, 32, 100, 114, 105, 108, 108], [97, 32, 100, 114, 105, 108, 108, 32, 111, 99, 99, 117, 114, 115, 32, 116, 119, 105, 99, 101, 32, 105, 110, 32, 111, 114, 100, 101, 114], [115, 108, 111, 116], [110, 111, 100, 101], [114, 111, 97, 100], [115, 116, 97, 116, 105, 111, 110], [101, 110, 103, 105, 110, 101], [115, 116, 114, 101, 101, 116], [104, 111, 115, 101, 115], [100, 114, 105, 108, 108], [97, 116], [119, 105, 116, 104, 105, 110], [100, 114, 121], [114, 97, 99, 107, 115], [108, 97, 115, 116, 115], [110, 101, 101, 100, 115], [104, 111, 115, 101], [97, 102, 116, 101, 114], [102, 114, 111, 109], [112, 117, 109, 112], [108, 97, 100, 100, 101, 114], [114, 101, 115, 99, 117, 101], []]
def txRefs : List (String × Nat × String × Nat) := [("DrillPlanner", 348, "an index is out of range", 0), ("DrillPlanner", 342, "a bit stands for no engine", 1), ("DrillPlanner", 344, "a number is out of range", 2), ("DrillPlanner", 333, "order is negative", 3), ("DrillPlanner", 338, "a digit of order stands for no drill", 4), ("DrillPlanner", 340, "a drill occurs twice in order", 5), ("DrillPlannerModel", 277, "slot", 6), ("DrillPlannerModel", 279, "node", 7), ("DrillPlannerModel", 281, "road", 8), ("DrillPlannerModel", 283, "station", 9), ("DrillPlannerModel", 285, "engine", 10), ("DrillPlannerModel", 287, "street", 11), ("DrillPlannerModel", 289, "hoses", 12), ("DrillPlannerModel", 291, "drill", 13), ("DrillPlannerModel", 293, "at", 14), ("DrillPlannerModel", 295, "within", 15), ("DrillPlannerModel", 296, "dry", 16), ("DrillPlannerModel", 298, "racks", 17), ("DrillPlannerModel", 300, "lasts", 18), ("DrillPlannerModel", 301, "needs", 19), ("DrillPlannerModel", 302, "hose", 20), ("DrillPlannerModel", 304, "after", 21), ("DrillPlannerModel", 305, "from", 22), ("DrillPlannerModel", 271, "pump", 23), ("DrillPlannerModel", 273, "ladder", 24), ("DrillPlannerModel", 275, "rescue", 25), ("DrillPlanner$Token", 175, "", 26), ("DrillPlanner$Token", 118, "node", 7), ("DrillPlanner$Token", 121, "road", 8), ("DrillPlanner$Token", 124, "station", 9), ("DrillPlanner$Token", 127, "engine", 10), ("DrillPlanner$Token", 130, "street", 11), ("DrillPlanner$Token", 136, "drill", 13), ("DrillPlanner$Token", 112, "slot", 6), ("DrillPlanner$Token", 139, "at", 14), ("DrillPlanner$Token", 166, "pump", 23), ("DrillPlanner$Token", 169, "ladder", 24), ("DrillPlanner$Token", 172, "rescue", 25), ("DrillPlanner$Token", 142, "within", 15), ("DrillPlanner$Token", 151, "lasts", 18), ("DrillPlanner$Token", 154, "needs", 19), ("DrillPlanner$Token", 157, "hose", 20), ("DrillPlanner$Token", 160, "after", 21), ("DrillPlanner$Token", 163, "from", 22), ("DrillPlanner$Token", 145, "dry", 16), ("DrillPlanner$Token", 148, "racks", 17), ("DrillPlanner$Token", 133, "hoses", 12)]
/-! the words: those of the tables that keep; the others by premises of their own -/
def TS : List Cond := lw_tbl.filter goodWord
def isNw : Cond → Bool
  | .fieldLinkNest .. => true
  | .methodLinkNest .. => true
  | .castable .. => true
  | .declares .. => true
  | _ => false
theorem in_TS {w : Cond} (i : Nat) (h : lw_tbl[i]? = some w) (g : goodWord w = true) : w ∈ TS := List.mem_filter.mpr ⟨List.mem_of_getElem? h, g⟩
theorem in_T1 {w : Cond} (i : Nat) (h : tables_1[i]? = some w) (g : goodWord w = true) : w ∈ TS := List.mem_filter.mpr ⟨List.mem_append_right _ (List.mem_of_getElem? h), g⟩
theorem good_TS {ws : List Cond} (h : ∀ w ∈ TS, w ∈ ws) : GoodIn ws TS := fun w hw => ⟨h w hw, good_of_word (List.mem_filter.mp hw).2⟩
/-- the nest's words and their like, at a state -/
def NW (U : State) : Prop := ∀ w ∈ lw_tbl, isNw w = true → va_Nw w U
theorem NW.warm {s U : State} (hW : s.WarmedH U.vm) (h : NW s) : NW U := by
  intro w hw hi
  have h1 := h w hw hi
  cases w <;> first | exact va_Nw.warmF hW h1 | exact va_Nw.warmM hW h1 | exact va_Nw.warmC hW h1 | exact va_Nw.warmD hW h1 | (exfalso; revert hi; simp [isNw]; done)
/-! constants that are there from the start: enum constants 1000 + i, their array 1100, texts 2000 + k (their rows 3000 + k) -/
def SF (wd : WD) (U : State) (H : Heap) : Prop :=
  va_En RX9 "LDrillPlanner$Token;" tokNm [(RX9, "limit", "I", tokLim)] (fun i => wd.2.1 (1000 + i)) (AO wd) U H
  ∧ va_Ef 26 RX9 "text" "Ljava/lang/String;" (fun i => .ref (wd.2.1 (2000 + tokTx.getD i 0))) (fun i => wd.2.1 (1000 + i)) (AO wd) U H
  ∧ va_Z RX10 "ALL_SORTS" "[LDrillPlanner$Token;" (.ref (wd.2.1 1100)) (AO wd) U H
  ∧ va_T (.object RX9) (wd.2.1 1100) 26 (fun i => .ref (wd.2.1 (1000 + i))) (AO wd) U H
  ∧ vk_S txN txLen txByt (fun k => wd.2.1 (2000 + k)) (fun k => wd.2.1 (3000 + k)) (AO wd) U H
  ∧ vx_Zq Bundle.tN "UNASSIGNED_STACK" Bundle.steD (AO wd) U H ∧ vx_Zq Bundle.tN "SUPPRESSED_SENTINEL" Bundle.listD (AO wd) U H
  ∧ va_Z RJ0 "COMPACT_STRINGS" "Z" (.int 1) (AO wd) U H
  ∧ va_Zq RJ3 "SIOOBE_FORMATTER" "Ljava/util/function/BiFunction;" (AO wd) U H
theorem SF.moved {wd : WD} {u U : State} {H : Heap} (hvm : u.vm.Alike U.vm) (h : SF wd u H) : SF wd U H := by
  obtain ⟨h1, h2, h3, h4, h5, h6, h7, h8, h9⟩ := h
  exact ⟨va_En.moved hvm h1, va_Ef.moved hvm h2, va_Z.moved hvm h3, va_T.moved hvm h4, vk_S.moved hvm h5, vx_Zq.moved hvm h6, vx_Zq.moved hvm h7, va_Z.moved hvm h8, va_Zq.moved hvm h9⟩
theorem SF.kept {wd : WD} {U : State} {H H1 : Heap} (h : SF wd U H) (hq : ∀ a : Nat, a < H.size → ¬ AO wd a → H1[a]? = H[a]?) : SF wd U H1 := by
  obtain ⟨h1, h2, h3, h4, h5, h6, h7, h8, h9⟩ := h
  exact ⟨h1.kept hq, h2.kept hq, h3.kept hq, h4.kept hq, h5.kept hq, h6.kept hq, h7.kept hq, h8.kept hq, h9.kept hq⟩
def TX (wd : WD) (U : State) : Prop := ∀ q ∈ txRefs, vk_R q.1 q.2.1 q.2.2.1 (wd.2.1 (2000 + q.2.2.2)) U
/-- what holds at every method's entry -/
def KK (l : Launch) (wd : WD) (U : State) : Prop := va_K wd.2.2.1 vwCl (tyO wd) U ∧ SF wd U U.heap ∧ TX wd U ∧ NW U ∧ wd.1 ≤ U.heap.size ∧ AdO wd ∧ l.stackTraces = false ∧ va_AO RX9 U
theorem KK.warm {l : Launch} {wd : WD} {s U : State} (hW : s.WarmedH U.vm) (hz : s.heap.size ≤ U.heap.size) (hq : ∀ a : Nat, a < s.heap.size → ¬ AO wd a → U.heap[a]? = s.heap[a]?) (h : KK l wd s) : KK l wd U := by
  obtain ⟨h1, h2, h3, h4, h5, h6, h7, h8⟩ := h
  exact ⟨va_K.moved hW.alike h1, (SF.moved hW.alike h2).kept hq, fun q hq => vk_R.warm hW (h3 q hq), NW.warm hW h4, Nat.le_trans h5 hz, h6, h7, va_AO.moved hW.alike h8⟩
/-! abstract values: a reference is a cell's number -/
def cv (wd : WD) : Value → Value
  | .ref i => .ref (wd.2.1 i)
  | v => v
def rv (r : Option Nat) : Value := match r with
  | none => .null
  | some i => .ref i
theorem cv_rv (wd : WD) (r : Option Nat) : cv wd (rv r) = va_re wd.2.1 r := by cases r <;> rfl
theorem cv_cat (wd : WD) (v : Value) : (cv wd v).category = v.category := by cases v <;> rfl
theorem cv_sum (wd : WD) (S : List Value) : ((S.map (cv wd)).map fun v => v.category).sum = (S.map fun v => v.category).sum := by
  rw [List.map_map]
  congr 1
  apply List.map_congr_left
  intro v _
  exact cv_cat wd v
abbrev Lc : Type := List (Option Value)
abbrev Ou : Type := (Option Value ⊕ Nat) × AH
abbrev Fn : Type := Lc → List Value → AH → Option Ou
/-- the locals hold what is listed -/
def LR (wd : WD) (nL : Nat) (ls : Array Slot) (L : Lc) : Prop := ls.size = nL ∧ lv_wf ls ∧ ∀ (i : Nat) (v : Value), L[i]? = some (some v) → ls[i]? = some (.val (cv wd v))
def lgAt (L : Lc) (i : Nat) : Bool := match i with
  | 0 => false
  | j + 1 => match L[j]? with
    | some (some (.long _)) => true
    | some (some (.double _)) => true
    | _ => false
def asc (wd : WD) (L : Lc) : List (Nat × Value) := (List.range L.length).filterMap (fun i => match L[i]? with
  | some (some v) => some (i, cv wd v)
  | _ => none)
theorem asc_mem {wd : WD} {L : Lc} {q : Nat × Value} : q ∈ asc wd L ↔ ∃ v, L[q.1]? = some (some v) ∧ q.2 = cv wd v := by
  unfold asc
  rw [List.mem_filterMap]
  constructor
  · rintro ⟨i, hi, h⟩
    cases hL : L[i]? with
    | none => rw [hL] at h; cases h
    | some o =>
      cases o with
      | none => rw [hL] at h; cases h
      | some v =>
        rw [hL] at h
        cases h
        exact ⟨v, hL, rfl⟩
  · rintro ⟨v, h1, h2⟩
    have hlt : q.1 < L.length := (List.getElem?_eq_some_iff.mp h1).1
    refine ⟨q.1, List.mem_range.mpr hlt, ?_⟩
    rw [h1]
    obtain ⟨a, b⟩ := q
    cases h2
    rfl
theorem LR.has {wd : WD} {nL : Nat} {ls : Array Slot} {L : Lc} (h : LR wd nL ls L) : lv_has ls nL (asc wd L) := ⟨h.1, h.2.1, fun q hq => by
  obtain ⟨v, h1, h2⟩ := asc_mem.mp hq
  rw [h2]
  exact h.2.2 q.1 v h1⟩
theorem LR.at {wd : WD} {nL : Nat} {ls : Array Slot} {L : Lc} (h : LR wd nL ls L) {i : Nat} {v : Value} (hv : L[i]? = some (some v)) : ls[i]? = some (.val (cv wd v)) := h.2.2 i v hv
theorem lgAt_no {L : Lc} {i j : Nat} {v : Value} {wd : WD} (h : lgAt L i = false) (hj : j + 1 = i) (hv : L[j]? = some (some v)) : (cv wd v).category ≠ 2 := by
  subst hj
  simp only [lgAt, hv] at h
  rw [cv_cat]
  cases v <;> first | (simp [Value.category]; done) | (simp at h)
theorem LR.of1 {wd : WD} {nL : Nat} {ls' : Array Slot} {L : Lc} {i : Nat} {v : Value} (hg : lgAt L i = false) (h : lv_has ls' nL ((i, cv wd v) :: (asc wd L).filter (fun q => !(q.1 == i) && !(q.1 + 1 == i && q.2.category == 2)))) : LR wd nL ls' (L.set i (some v)) := by
  refine ⟨h.1, h.2.1, fun j w hj => ?_⟩
  rw [List.getElem?_set] at hj
  by_cases e : i = j
  · subst e
    rw [if_pos rfl] at hj
    by_cases hl : i < L.length
    · rw [if_pos hl] at hj
      cases hj
      exact h.2.2 (i, cv wd v) List.mem_cons_self
    · rw [if_neg hl] at hj
      cases hj
  · rw [if_neg e] at hj
    refine h.2.2 (j, cv wd w) (List.mem_cons_of_mem _ (List.mem_filter.mpr ⟨asc_mem.mpr ⟨w, hj, rfl⟩, ?_⟩))
    have e1 : (j == i) = false := by simpa using fun z : j = i => e z.symm
    by_cases e2 : j + 1 = i
    · have := lgAt_no (wd := wd) hg e2 hj
      have e3 : ((cv wd w).category == 2) = false := by simpa using this
      simp [e1, e3]
    · have e3 : (j + 1 == i) = false := by simpa using e2
      simp [e1, e3]
theorem LR.of2 {wd : WD} {nL : Nat} {ls' : Array Slot} {L : Lc} {i : Nat} {v : Value} (hg : lgAt L i = false) (h : lv_has ls' nL ((i, cv wd v) :: (asc wd L).filter (fun q => !(q.1 == i) && (!(q.1 == i + 1) && !(q.1 + 1 == i && q.2.category == 2))))) : LR wd nL ls' ((L.set i (some v)).set (i + 1) none) := by
  refine ⟨h.1, h.2.1, fun j w hj => ?_⟩
  rw [List.getElem?_set] at hj
  by_cases e9 : i + 1 = j
  · subst e9
    rw [if_pos rfl] at hj
    split at hj <;> cases hj
  · rw [if_neg e9, List.getElem?_set] at hj
    by_cases e : i = j
    · subst e
      rw [if_pos rfl] at hj
      by_cases hl : i < L.length
      · rw [if_pos hl] at hj
        cases hj
        exact h.2.2 (i, cv wd v) List.mem_cons_self
      · rw [if_neg hl] at hj
        cases hj
    · rw [if_neg e] at hj
      refine h.2.2 (j, cv wd w) (List.mem_cons_of_mem _ (List.mem_filter.mpr ⟨asc_mem.mpr ⟨w, hj, rfl⟩, ?_⟩))
      have e1 : (j == i) = false := by simpa using fun z : j = i => e z.symm
      have e4 : (j == i + 1) = false := by simpa using fun z : j = i + 1 => e9 z.symm
      by_cases e2 : j + 1 = i
      · have := lgAt_no (wd := wd) hg e2 hj
        have e3 : ((cv wd w).category == 2) = false := by simpa using this
        simp [e1, e3, e4]
      · have e3 : (j + 1 == i) = false := by simpa using e2
        simp [e1, e3, e4]
/-- the facts of one activation -/
def Act (p : Program) (l : Launch) (s : State) (m : MethodId) (args : Array Value) (meth : Method) (c : Code) (wd : WD) (own : String) (cc : ByteArray) (nL : Nat) (ret : Option FieldType) : Prop :=
  p.tables.exec = Jvm.exec ∧ c.code = cc ∧ c.maxLocals = nL ∧ s.vm.findClass own = some m.cls ∧ meth.sig.returnType = ret ∧ meth.locks = false ∧ (∀ w ∈ TS, w.before args s = true) ∧ KK l wd s
/-- from pc on the code does what F says, with at most nc cells of nw slots more -/
def Snd (p : Program) (l : Launch) (e : Env) (R : Room) (s : State) (m : MethodId) (args : Array Value) (below : List Frame) (meth : Method) (c : Code) (wd : WD) (nL : Nat) (QF : Ou → State → Prop) (nc nw pc : Nat) (F : Fn) : Prop :=
  ∀ (L : Lc) (S : List Value) (h : AH) (o : Ou) (H : Heap) (locs : List Loc) (cells slots : Nat) (ls : Array Slot), F L S h = some o → L.length = nL → LR wd nL ls L → PH wd h H → va_S (AO wd) s.heap H locs → cells + nc ≤ R.cells → slots + nw ≤ R.slots →
    W p l e R s m args below meth c H locs cells slots (QF o) (F0 m pc ls (S.map (cv wd)))
