def narL : List Cond := flatC (Jvm.Cond.and given_1 narrow_1)
def tokT (i : Nat) : Term := .static RX9 (tokNm.getD i "") "LDrillPlanner$Token;"
def asT : Term := .static RX10 "ALL_SORTS" "[LDrillPlanner$Token;"
def txOwn : List (String × Nat) := [("DrillPlanner", 348), ("DrillPlanner", 342), ("DrillPlanner", 344), ("DrillPlanner", 333), ("DrillPlanner", 338), ("DrillPlanner", 340), ("DrillPlanner$Token", 112), ("DrillPlanner$Token", 118), ("DrillPlanner$Token", 121), ("DrillPlanner$Token", 124), ("DrillPlanner$Token", 127), ("DrillPlanner$Token", 130), ("DrillPlanner$Token", 133), ("DrillPlanner$Token", 136), ("DrillPlanner$Token", 139), ("DrillPlanner$Token", 142), ("DrillPlanner$Token", 145), ("DrillPlanner$Token", 148), ("DrillPlanner$Token", 151), ("DrillPlanner$Token", 154), ("DrillPlanner$Token", 157), ("DrillPlanner$Token", 160), ("DrillPlanner$Token", 163), ("DrillPlanner$Token", 166), ("DrillPlanner$Token", 169), ("DrillPlanner$Token", 172), ("DrillPlanner$Token", 175)]
def txT (i : Nat) : Term := .string (txOwn.getD i ("", 0)).1 (txOwn.getD i ("", 0)).2
def txV (i : Nat) : Term := .field (txT i) "java/lang/String" "value" "[B"
def p_ex : List Nat := [88, 64, 68, 72, 76, 80, 142, 84, 92, 108, 132, 136, 112, 116, 120, 124, 128, 96, 100, 104, 44, 48, 52, 56, 4, 60]
set_option maxRecDepth 100000 in
theorem nar_ex : ∀ i, i < 26 → (.exactly (tokT i) RX9 : Cond) ∈ narL := by
  have h : (List.range 26).all (fun i => decide (narL[p_ex.getD i 0]? = some (.exactly (tokT i) RX9))) = true := by decide +kernel
  intro i hi
  exact List.mem_of_getElem? (of_decide_eq_true (List.all_eq_true.mp h i (List.mem_range.mpr hi)))
def p_or : List Nat := [89, 65, 69, 73, 77, 81, 143, 85, 93, 109, 133, 137, 113, 117, 121, 125, 129, 97, 101, 105, 45, 49, 53, 57, 5, 61]
set_option maxRecDepth 100000 in
theorem nar_or : ∀ i, i < 26 → (.eq (.field (tokT i) "java/lang/Enum" "ordinal" "I") (.int (Int32.ofNat i)) : Cond) ∈ narL := by
  have h : (List.range 26).all (fun i => decide (narL[p_or.getD i 0]? = some (.eq (.field (tokT i) "java/lang/Enum" "ordinal" "I") (.int (Int32.ofNat i))))) = true := by decide +kernel
  intro i hi
  exact List.mem_of_getElem? (of_decide_eq_true (List.all_eq_true.mp h i (List.mem_range.mpr hi)))
def p_li : List Nat := [91, 67, 71, 75, 79, 83, 145, 87, 95, 111, 135, 139, 115, 119, 123, 127, 131, 99, 103, 107, 47, 51, 55, 59, 7, 63]
set_option maxRecDepth 100000 in
theorem nar_li : ∀ i, i < 26 → (.eq (.field (tokT i) RX9 "limit" "I") (.int (tokLim.getD i 0)) : Cond) ∈ narL := by
  have h : (List.range 26).all (fun i => decide (narL[p_li.getD i 0]? = some (.eq (.field (tokT i) RX9 "limit" "I") (.int (tokLim.getD i 0))))) = true := by decide +kernel
  intro i hi
  exact List.mem_of_getElem? (of_decide_eq_true (List.all_eq_true.mp h i (List.mem_range.mpr hi)))
def p_tx : List Nat := [90, 66, 70, 74, 78, 82, 144, 86, 94, 110, 134, 138, 114, 118, 122, 126, 130, 98, 102, 106, 46, 50, 54, 58, 6, 62]
set_option maxRecDepth 100000 in
theorem nar_tx : ∀ i, i < 26 → (.eq (.field (tokT i) RX9 "text" "Ljava/lang/String;") (txT (tokTx.getD i 0)) : Cond) ∈ narL := by
  have h : (List.range 26).all (fun i => decide (narL[p_tx.getD i 0]? = some (.eq (.field (tokT i) RX9 "text" "Ljava/lang/String;") (txT (tokTx.getD i 0))))) = true := by decide +kernel
  intro i hi
  exact List.mem_of_getElem? (of_decide_eq_true (List.all_eq_true.mp h i (List.mem_range.mpr hi)))
def p_el : List Nat := [13, 14, 15, 16, 17, 18, 19, 20, 21, 22, 23, 24, 25, 26, 27, 28, 29, 30, 31, 32, 33, 34, 35, 36, 37, 38]
set_option maxRecDepth 100000 in
theorem nar_el : ∀ i, i < 26 → (.eq (.elem asT (.int (Int32.ofNat i))) (tokT i) : Cond) ∈ narL := by
  have h : (List.range 26).all (fun i => decide (narL[p_el.getD i 0]? = some (.eq (.elem asT (.int (Int32.ofNat i))) (tokT i)))) = true := by decide +kernel
  intro i hi
  exact List.mem_of_getElem? (of_decide_eq_true (List.all_eq_true.mp h i (List.mem_range.mpr hi)))
def p_aa : List Nat := [10]
set_option maxRecDepth 100000 in
theorem nar_aa : ∀ i, i < 1 → (.arrayOf asT (.object RX9) : Cond) ∈ narL := by
  have h : (List.range 1).all (fun i => decide (narL[p_aa.getD i 0]? = some (.arrayOf asT (.object RX9)))) = true := by decide +kernel
  intro i hi
  exact List.mem_of_getElem? (of_decide_eq_true (List.all_eq_true.mp h i (List.mem_range.mpr hi)))
def p_al : List Nat := [11]
set_option maxRecDepth 100000 in
theorem nar_al : ∀ i, i < 1 → (.eq (.length asT) (.int 26) : Cond) ∈ narL := by
  have h : (List.range 1).all (fun i => decide (narL[p_al.getD i 0]? = some (.eq (.length asT) (.int 26)))) = true := by decide +kernel
  intro i hi
  exact List.mem_of_getElem? (of_decide_eq_true (List.all_eq_true.mp h i (List.mem_range.mpr hi)))
def p_sx : List Nat := [174, 202, 232, 260, 281, 321, 596, 534, 543, 552, 564, 575, 720, 586, 605, 643, 702, 710, 654, 664, 674, 683, 693, 612, 621, 632, 530]
set_option maxRecDepth 100000 in
theorem nar_sx : ∀ i, i < 27 → (.exactly (txT i) "java/lang/String" : Cond) ∈ narL := by
  have h : (List.range 27).all (fun i => decide (narL[p_sx.getD i 0]? = some (.exactly (txT i) "java/lang/String"))) = true := by decide +kernel
  intro i hi
  exact List.mem_of_getElem? (of_decide_eq_true (List.all_eq_true.mp h i (List.mem_range.mpr hi)))
def p_sc : List Nat := [175, 203, 233, 261, 282, 322, 597, 535, 544, 553, 565, 576, 721, 587, 606, 644, 703, 711, 655, 665, 675, 684, 694, 613, 622, 633, 531]
set_option maxRecDepth 100000 in
theorem nar_sc : ∀ i, i < 27 → (.eq (.field (txT i) "java/lang/String" "coder" "B") (.int 0) : Cond) ∈ narL := by
  have h : (List.range 27).all (fun i => decide (narL[p_sc.getD i 0]? = some (.eq (.field (txT i) "java/lang/String" "coder" "B") (.int 0)))) = true := by decide +kernel
  intro i hi
  exact List.mem_of_getElem? (of_decide_eq_true (List.all_eq_true.mp h i (List.mem_range.mpr hi)))
def p_sa : List Nat := [176, 204, 234, 262, 283, 323, 598, 536, 545, 554, 566, 577, 722, 588, 607, 645, 704, 712, 656, 666, 676, 685, 695, 614, 623, 634, 532]
set_option maxRecDepth 100000 in
theorem nar_sa : ∀ i, i < 27 → (.arrayOf (txV i) .byte : Cond) ∈ narL := by
  have h : (List.range 27).all (fun i => decide (narL[p_sa.getD i 0]? = some (.arrayOf (txV i) .byte))) = true := by decide +kernel
  intro i hi
  exact List.mem_of_getElem? (of_decide_eq_true (List.all_eq_true.mp h i (List.mem_range.mpr hi)))
def p_sl : List Nat := [177, 205, 235, 263, 284, 324, 599, 537, 546, 555, 567, 578, 723, 589, 608, 646, 705, 713, 657, 667, 677, 686, 696, 615, 624, 635, 533]
set_option maxRecDepth 100000 in
theorem nar_sl : ∀ i, i < 27 → (.eq (.length (txV i)) (.int (Int32.ofNat (txLen.getD i 0))) : Cond) ∈ narL := by
  have h : (List.range 27).all (fun i => decide (narL[p_sl.getD i 0]? = some (.eq (.length (txV i)) (.int (Int32.ofNat (txLen.getD i 0)))))) = true := by decide +kernel
  intro i hi
  exact List.mem_of_getElem? (of_decide_eq_true (List.all_eq_true.mp h i (List.mem_range.mpr hi)))
def p_se : List (List Nat) := [[178, 179, 180, 181, 182, 183, 184, 185, 186, 187, 188, 189, 190, 191, 192, 193, 194, 195, 196, 197, 198, 199, 200, 201], [206, 207, 208, 209, 210, 211, 212, 213, 214, 215, 216, 217, 218, 219, 220, 221, 222, 223, 224, 225, 226, 227, 228, 229, 230, 231], [236, 237, 238, 239, 240, 241, 242, 243, 244, 245, 246, 247, 248, 249, 250, 251, 252, 253, 254, 255, 256, 257, 258, 259], [264, 265, 266, 267, 268, 269, 270, 271, 272, 273, 274, 275, 276, 277, 278, 279, 280], [285, 286, 287, 288, 289, 290, 291, 292, 293, 294, 295, 296, 297, 298, 299, 300, 301, 302, 303, 304, 305, 306, 307, 308, 309, 310, 311, 312, 313, 314, 315, 316, 317, 318, 319, 320], [325, 326, 327, 328, 329, 330, 331, 332, 333, 334, 335, 336, 337, 338, 339, 340, 341, 342, 343, 344, 345, 346, 347, 348, 349, 350, 351, 352, 353], [600, 601, 602, 603], [538, 539, 540, 541], [547, 548, 549, 550], [556, 557, 558, 559, 560, 561, 562], [568, 569, 570, 571, 572, 573], [579, 580, 581, 582, 583, 584], [724, 725, 726, 727, 728], [590, 591, 592, 593, 594], [609, 610], [647, 648, 649, 650, 651, 652], [706, 707, 708], [714, 715, 716, 717, 718], [658, 659, 660, 661, 662], [668, 669, 670, 671, 672], [678, 679, 680, 681], [687, 688, 689, 690, 691], [697, 698, 699, 700], [616, 617, 618, 619], [625, 626, 627, 628, 629, 630], [636, 637, 638, 639, 640, 641], []]
set_option maxRecDepth 100000 in
theorem nar_se : ∀ i, i < 27 → ∀ j, j < txLen.getD i 0 → (.eq (.elem (txV i) (.int (Int32.ofNat j))) (.int ((txByt.getD i []).getD j 0)) : Cond) ∈ narL := by
  have h : (List.range 27).all (fun i => (List.range (txLen.getD i 0)).all (fun j => decide (narL[(p_se.getD i []).getD j 0]? = some (.eq (.elem (txV i) (.int (Int32.ofNat j))) (.int ((txByt.getD i []).getD j 0)))))) = true := by decide +kernel
  intro i hi j hj
  exact List.mem_of_getElem? (of_decide_eq_true (List.all_eq_true.mp (List.all_eq_true.mp h i (List.mem_range.mpr hi)) j (List.mem_range.mpr hj)))
set_option maxRecDepth 100000 in
theorem nar_re : ∀ q ∈ txRefs, (Cond.stringRef q.1 q.2.1 q.2.2.1 ∈ lw_tbl) ∧ q.2.2.2 < 27 ∧ ((q.1, q.2.1) = txOwn.getD q.2.2.2 ("", 0) ∨ (.eq (.string q.1 q.2.1) (txT q.2.2.2) : Cond) ∈ narL) := by
  have h : txRefs.all (fun q => decide ((Cond.stringRef q.1 q.2.1 q.2.2.1 ∈ lw_tbl) ∧ q.2.2.2 < 27 ∧ ((q.1, q.2.1) = txOwn.getD q.2.2.2 ("", 0) ∨ (.eq (.string q.1 q.2.1) (txT q.2.2.2) : Cond) ∈ narL))) = true := by decide +kernel
  intro q hq
  exact of_decide_eq_true (List.all_eq_true.mp h q hq)
set_option maxRecDepth 100000 in
theorem tab_en : ∀ i, i < 26 → Cond.laysStatic RX9 (tokNm.getD i "") "LDrillPlanner$Token;" ∈ lw_tbl := by
  have h : (List.range 26).all (fun i => decide (Cond.laysStatic RX9 (tokNm.getD i "") "LDrillPlanner$Token;" ∈ lw_tbl)) = true := by decide +kernel
  intro i hi
  exact of_decide_eq_true (List.all_eq_true.mp h i (List.mem_range.mpr hi))
theorem tx_apart : ∀ i, i < 27 → ∀ j, j < 27 → i ≠ j → txLen.getD i 0 ≠ txLen.getD j 0 ∨ ∃ k, k < txLen.getD i 0 ∧ k < txLen.getD j 0 ∧ (txByt.getD i []).getD k 0 ≠ (txByt.getD j []).getD k 0 := by
  have h : ∀ i : Fin 27, ∀ j : Fin 27, i ≠ j → txLen.getD i.val 0 ≠ txLen.getD j.val 0 ∨ ∃ k : Fin 40, k.val < txLen.getD i.val 0 ∧ k.val < txLen.getD j.val 0 ∧ (txByt.getD i.val []).getD k.val 0 ≠ (txByt.getD j.val []).getD k.val 0 := by decide +kernel
  intro i hi j hj hij
  rcases h ⟨i, hi⟩ ⟨j, hj⟩ (fun z => hij (congrArg Fin.val z)) with h1 | ⟨k, h1, h2, h3⟩
  · exact Or.inl h1
  · exact Or.inr ⟨k.val, h1, h2, h3⟩
theorem ofNat_inj32 {i j : Nat} (hi : i < 2 ^ 31) (hj : j < 2 ^ 31) (h : Int32.ofNat i = Int32.ofNat j) : i = j := by
  have := congrArg Int32.toNatClampNeg h
  rwa [Int32.toNatClampNeg_ofNat_of_lt hi, Int32.toNatClampNeg_ofNat_of_lt hj] at this
theorem va_En3 {args : Array Value} {s : State} {A : Nat → Prop} (hl : ∀ i, i < 26 → (Cond.laysStatic RX9 (tokNm.getD i "") "LDrillPlanner$Token;").before args s = true) (hini : (Cond.initialized RX9).before args s = true)
    (hex : ∀ i, i < 26 → (Cond.exactly (tokT i) RX9).before args s = true) (hf : ∀ i, i < 26 → (Cond.eq (.field (tokT i) RX9 "limit" "I") (.int (tokLim.getD i 0))).before args s = true)
    (ho : ∀ i, i < 26 → (Cond.eq (.field (tokT i) "java/lang/Enum" "ordinal" "I") (.int (Int32.ofNat i))).before args s = true) (hA : ∀ a : Nat, a < s.heap.size → ¬ A a) :
    ∃ ad : Nat → Nat, va_En RX9 "LDrillPlanner$Token;" tokNm [(RX9, "limit", "I", tokLim)] ad A s s.heap ∧ ∀ i, i < 26 → (tokT i).eval args s none [] s = some (.ref (ad i)) := by
  have h0 : ∀ i : Nat, ∃ t : Nat, i < 26 → (tokT i).eval args s none [] s = some (.ref t) ∧ va_O RX9 t A s s.heap := by
    intro i
    by_cases hi : i < 26
    · obtain ⟨a, c, cell, k, q1, q2, q3, q4, q5, q6, -⟩ := Cond.exactly_spec (hex i hi)
      exact ⟨a, fun _ => ⟨q1, cell, q3, q5, by rw [q6]; exact q2, hA a (Array.getElem?_eq_some_iff.mp q3).1⟩⟩
    · exact ⟨0, fun h => absurd h hi⟩
  obtain ⟨ad, had⟩ := Classical.axiomOfChoice h0
  refine ⟨ad, ⟨fun i hi => ⟨va_Zref (hl i hi) hini (had i hi).1 hA, (had i hi).2, fun q hq => ?_⟩, fun i j hi hj e => ?_⟩, fun i hi => (had i hi).1⟩
  · rw [List.mem_singleton.mp hq]
    exact vk_OFof (had i hi).1 (va_eqt (hf i hi)) hA
  · have hi : i < 26 := hi
    have hj : j < 26 := hj
    have h1 := va_eqt (ho i hi)
    have h2 := va_eqt (ho j hj)
    rw [va_fe (had i hi).1] at h1
    rw [va_fe (had j hj).1, ← e] at h2
    have h3 := Value.int.inj (Option.some.inj (h1.symm.trans h2))
    exact ofNat_inj32 (by omega) (by omega) h3
theorem va_OF_inj {o n d : String} {v w : Value} {t : Nat} {A B : Nat → Prop} {U : State} {H : Heap} (h : va_OF o n d v t A U H) (g : va_OF o n d w t B U H) : v = w := by
  obtain ⟨cf, k, i, f, cell, h1, h2, h3, h4, h5, h6⟩ := h
  obtain ⟨cf', k', i', f', cell', g1, g2, g3, g4, g5, g6⟩ := g
  have e1 := Option.some.inj (h1.symm.trans g1)
  have e2 := Option.some.inj (h3.symm.trans g3)
  have e3 : f = f' := congrArg (fun q => q.2.2.2) e1
  subst e3
  subst e2
  exact Option.some.inj (h5.symm.trans g5)
theorem vk_S3 {args : Array Value} {s : State} {A : Nat → Prop} (hex : ∀ i : Nat, i < 27 → (Cond.exactly (txT i) "java/lang/String").before args s = true) (hco : ∀ i : Nat, i < 27 → (Cond.eq (.field (txT i) "java/lang/String" "coder" "B") (.int 0)).before args s = true)
    (har : ∀ i : Nat, i < 27 → (Cond.arrayOf (txV i) .byte).before args s = true) (hle : ∀ i : Nat, i < 27 → (Cond.eq (.length (txV i)) (.int (Int32.ofNat (txLen.getD i 0)))).before args s = true)
    (hel : ∀ i : Nat, i < 27 → ∀ j : Nat, j < txLen.getD i 0 → (Cond.eq (.elem (txV i) (.int (Int32.ofNat j))) (.int ((txByt.getD i []).getD j 0))).before args s = true) (hA : ∀ a : Nat, a < s.heap.size → ¬ A a) :
    ∃ adK adV : Nat → Nat, vk_S txN txLen txByt adK adV A s s.heap ∧ ∀ i : Nat, i < 27 → (txT i).eval args s none [] s = some (.ref (adK i)) := by
  have hN : ∀ i : Nat, i < 27 → txLen.getD i 0 < 2 ^ 31 := by
    have h : ∀ i : Fin 27, txLen.getD i.val 0 < 2 ^ 31 := by decide +kernel
    exact fun i hi => h ⟨i, hi⟩
  have h0 : ∀ i : Nat, ∃ q : Nat × Nat, i < 27 → (txT i).eval args s none [] s = some (.ref q.1) ∧ va_O "java/lang/String" q.1 A s s.heap ∧ va_OF "java/lang/String" "coder" "B" (.int 0) q.1 A s s.heap ∧ va_OF "java/lang/String" "value" "[B" (.ref q.2) q.1 A s s.heap ∧ va_T .byte q.2 (txLen.getD i 0) (fun j => .int ((txByt.getD i []).getD j 0)) A s s.heap := by
    intro i
    by_cases hi : i < 27
    · obtain ⟨a, c, cA, kA, q1, q2, q3, q4, q5, q6, -⟩ := Cond.exactly_spec (args := args) (first := s) (o := none) (s := s) (idx := []) (t := txT i) (cls := "java/lang/String") (hex i hi)
      obtain ⟨t, ht, hT⟩ := va_Tof (f := fun j => .int ((txByt.getD i []).getD j 0)) (A := A) (hN i hi) (har i hi) (va_eqt (hle i hi)) (fun j hj => va_eqt (hel i hi j hj)) hA
      exact ⟨(a, t), fun _ => ⟨q1, ⟨cA, q3, q5, by rw [q6]; exact q2, hA a (Array.getElem?_eq_some_iff.mp q3).1⟩, vk_OFof q1 (va_eqt (hco i hi)) hA, vk_OFof q1 ht hA, hT⟩⟩
    · exact ⟨(0, 0), fun h => absurd h hi⟩
  obtain ⟨ad, had⟩ := Classical.axiomOfChoice h0
  refine ⟨fun i => (ad i).1, fun i => (ad i).2, ⟨fun i hi => (had i hi).2, fun i j hi hj e => ?_⟩, fun i hi => (had i hi).1⟩
  by_cases hij : i = j
  · exact hij
  · exfalso
    obtain ⟨-, -, -, a4, a5⟩ := had i hi
    obtain ⟨-, -, -, b4, b5⟩ := had j hj
    have e : (ad i).1 = (ad j).1 := e
    rw [← e] at b4
    have e2 := Value.ref.inj (va_OF_inj a4 b4)
    rw [← e2] at b5
    obtain ⟨c1, a51, a52, a53, a54, a55, a56, a57⟩ := a5
    obtain ⟨c2, b51, b52, b53, b54, b55, b56, b57⟩ := b5
    have e3 := Option.some.inj (a51.symm.trans b51)
    subst e3
    have e4 : txLen.getD i 0 = txLen.getD j 0 := ofNat_inj32 (hN i hi) (hN j hj) (a55.symm.trans b55)
    rcases tx_apart i hi j hj hij with h | ⟨k, h1, h2, h3⟩
    · exact h e4
    · exact h3 (Value.int.inj (Option.some.inj ((a56 k h1).symm.trans (b56 k h2))))
theorem va_En.cong {E d : String} {nm : List String} {F : List (String × String × String × List Int32)} {ad ad' : Nat → Nat} {A : Nat → Prop} {U : State} {H : Heap} (h : va_En E d nm F ad A U H) (e : ∀ i, i < nm.length → ad' i = ad i) : va_En E d nm F ad' A U H :=
  ⟨fun i hi => by rw [e i hi]; exact h.1 i hi, fun i j hi hj q => h.2 i j hi hj (by rw [← e i hi, ← e j hj]; exact q)⟩
def mkAd (B : Nat) (adE : Nat → Nat) (t : Nat) (adK adV : Nat → Nat) (b : Nat) : Nat → Nat := fun i => if i < 134 then B + i else if i < 1100 then adE (i - 1000) else if i < 2000 then t else if i < 3000 then adK (i - 2000) else if i < 5000 then adV (i - 3000) else b
theorem mkAd_o {B : Nat} {adE : Nat → Nat} {t : Nat} {adK adV : Nat → Nat} {b i : Nat} (h : i < 134) : mkAd B adE t adK adV b i = B + i := by unfold mkAd; rw [if_pos h]
theorem mkAd_e {B : Nat} {adE : Nat → Nat} {t : Nat} {adK adV : Nat → Nat} {b i : Nat} (h : i < 100) : mkAd B adE t adK adV b (1000 + i) = adE i := by
  unfold mkAd
  rw [if_neg (by omega), if_pos (by omega), Nat.add_sub_cancel_left]
theorem mkAd_k {B : Nat} {adE : Nat → Nat} {t : Nat} {adK adV : Nat → Nat} {b i : Nat} (h : i < 1000) : mkAd B adE t adK adV b (2000 + i) = adK i := by
  unfold mkAd
  rw [if_neg (by omega), if_neg (by omega), if_neg (by omega), if_pos (by omega), Nat.add_sub_cancel_left]
theorem mkAd_v {B : Nat} {adE : Nat → Nat} {t : Nat} {adK adV : Nat → Nat} {b i : Nat} (h : i < 1000) : mkAd B adE t adK adV b (3000 + i) = adV i := by
  unfold mkAd
  rw [if_neg (by omega), if_neg (by omega), if_neg (by omega), if_neg (by omega), if_pos (by omega), Nat.add_sub_cancel_left]
theorem arr_of {args : Array Value} {s : State} {ty : FieldType} (hp : ∀ C, ty ≠ .object C) (h : (Cond.arrayClass ty).before args s = true) : ∃ cA : ClassId, ArrOfT s cA ty ∧ va_RA s cA ty := by
  obtain ⟨cA, kA, comp, h1, h2, h3⟩ := Cond.arrayClass_spec h
  refine ⟨cA, fun n z => ⟨(fun k h => by cases h), kA, h2, comp, h3⟩, ?_⟩
  cases ty <;> first | exact h1 | exact absurd rfl (hp _)
theorem arr_ofQ {args : Array Value} {s : State} {C : String} (h : (Cond.arrayOver (.object C)).before args s = true) : ∃ cA : ClassId, ArrOfT s cA (.object C) ∧ va_RA s cA (.object C) := by
  obtain ⟨comp, cA, kA, h1, h2, h3, h4, h5⟩ := Cond.arrayOver_spec h
  exact ⟨cA, fun n z => ⟨(fun k h => by cases h), kA, h3, comp, h4⟩, kA, comp, h3, h4, h1, h5⟩
/-- the empty heap -/
def h00 : AH := (fun _ _ => 0, fun _ _ => 0, fun _ _ => none, 0, 0)
theorem TS_in {w : Cond} (h : w ∈ TS) : w ∈ lw_tbl := (List.mem_filter.mp h).1
theorem known_all {args : Array Value} {s : State} (hts : ∀ w ∈ lw_tbl, w.before args s = true) : ∃ D : va_G, ∀ (k : Nat) (q : vw_C), vwCl[k]? = some q → u_Kn s q.1 q.2.1 q.2.2 (D.1 k) (D.2 k) := by
  have hT : ∀ w ∈ TS, w.before args s = true := fun w hw => hts w (TS_in hw)
  obtain ⟨c0, i0, h0⟩ := u_known (C := RX0) (T := TX0) (N := 17) (n := 17) hT inl_X0 (hts (.instantiable RX0 17) (by decide +kernel))
  obtain ⟨c1, i1, h1⟩ := u_known (C := RX1) (T := TX1) (N := 11) (n := 11) hT inl_X1 (hts (.instantiable RX1 11) (by decide +kernel))
  obtain ⟨c2, i2, h2⟩ := u_known (C := RX2) (T := TX2) (N := 5) (n := 5) hT inl_X2 (hts (.instantiable RX2 5) (by decide +kernel))
  obtain ⟨c3, i3, h3⟩ := u_known (C := RX3) (T := TX3) (N := 10) (n := 10) hT inl_X3 (hts (.instantiable RX3 10) (by decide +kernel))
  obtain ⟨c4, i4, h4⟩ := u_known (C := RX4) (T := TX4) (N := 2) (n := 2) hT inl_X4 (hts (.instantiable RX4 2) (by decide +kernel))
  obtain ⟨c5, i5, h5⟩ := u_known (C := RX5) (T := TX5) (N := 10) (n := 10) hT inl_X5 (hts (.instantiable RX5 10) (by decide +kernel))
  obtain ⟨c6, i6, h6⟩ := u_known (C := RX6) (T := TX6) (N := 4) (n := 4) hT inl_X6 (hts (.instantiable RX6 4) (by decide +kernel))
  obtain ⟨c7, i7, h7⟩ := u_known (C := RX7) (T := TX7) (N := 4) (n := 4) hT inl_X7 (hts (.instantiable RX7 4) (by decide +kernel))
  obtain ⟨c8, i8, h8⟩ := u_known (C := RX8) (T := TX8) (N := 18) (n := 18) hT inl_X8 (hts (.instantiable RX8 18) (by decide +kernel))
  obtain ⟨c9, i9, h9⟩ := u_known (C := RX10) (T := TX10) (N := 4) (n := 4) hT inl_X10 (hts (.instantiable RX10 4) (by decide +kernel))
  obtain ⟨c10, i10, h10⟩ := u_known (C := RX11) (T := TX11) (N := 13) (n := 13) hT inl_X11 (hts (.instantiable RX11 13) (by decide +kernel))
  obtain ⟨c11, i11, h11⟩ := u_known (C := RX12) (T := TX12) (N := 86) (n := 86) hT inl_X12 (hts (.instantiable RX12 86) (by decide +kernel))
  refine ⟨(fun k => match k with | 0 => c0 | 1 => c1 | 2 => c2 | 3 => c3 | 4 => c4 | 5 => c5 | 6 => c6 | 7 => c7 | 8 => c8 | 9 => c9 | 10 => c10 | 11 => c11 | _ => c0, fun k => match k with | 0 => i0 | 1 => i1 | 2 => i2 | 3 => i3 | 4 => i4 | 5 => i5 | 6 => i6 | 7 => i7 | 8 => i8 | 9 => i9 | 10 => i10 | 11 => i11 | _ => i0), fun k q hq => ?_⟩
  match k, hq with
  | 0, hq => cases hq; exact h0
  | 1, hq => cases hq; exact h1
  | 2, hq => cases hq; exact h2
  | 3, hq => cases hq; exact h3
  | 4, hq => cases hq; exact h4
  | 5, hq => cases hq; exact h5
  | 6, hq => cases hq; exact h6
  | 7, hq => cases hq; exact h7
  | 8, hq => cases hq; exact h8
  | 9, hq => cases hq; exact h9
  | 10, hq => cases hq; exact h10
  | 11, hq => cases hq; exact h11
  | k + 12, hq => simp at hq
theorem whole_start_of (pure : ∀ (L : Nat) (xs : Nat → Int32), L ≤ 3072 → ∃ o, fL_law_0 L xs (entL 7 [.ref 5000]) [] h00 = some o)
    {p : Program} {e : Env} {s : State} {m : MethodId} {below : List Frame} {meth : Method} {c : Code} (l : Launch) (hflags : l.flags = flags0) {b L : Nat} {xs : Nat → Int32} (hL : L ≤ 3072) (C0 : lw_At p s m meth c b L xs) : W p l e room_1 s m #[Value.ref b] below meth c s.heap [] 0 0 (lw_Z below #[Value.ref b] s) (entryFrame m ([Value.ref b] : List Value).toArray 7) := by
  obtain ⟨hx, hb, hr, hml, hown, hts, hX, hbl, hlocks, hgv⟩ := id C0
  have hnar : ∀ w ∈ narL, w.before #[Value.ref b] s = true := flat_of_before _ hgv
  have hA : ∀ a : Nat, a < s.heap.size → ¬ (fun q : Nat => s.heap.size ≤ q) a := fun a h => Nat.not_le.mpr h
  obtain ⟨D, hD⟩ := known_all hts
  obtain ⟨adE, hE, hEv⟩ := va_En3 (A := fun q : Nat => s.heap.size ≤ q) (fun i hi => hts _ (tab_en i hi)) (hts _ (by decide +kernel)) (fun i hi => hnar _ (nar_ex i hi)) (fun i hi => hnar _ (nar_li i hi)) (fun i hi => hnar _ (nar_or i hi)) hA
  obtain ⟨t, htv, htT⟩ := va_Tof (A := fun q : Nat => s.heap.size ≤ q) (tm := asT) (ty := .object RX9) (N := 26) (f := fun i => .ref (adE i)) (by decide) (hnar _ (nar_aa 0 (by decide))) (va_eqt (hnar _ (nar_al 0 (by decide)))) (fun j hj => va_eqv (hnar _ (nar_el j hj)) (hEv j hj)) hA
  obtain ⟨adK, adV, hS, hSv⟩ := vk_S3 (A := fun q : Nat => s.heap.size ≤ q) (fun i hi => hnar _ (nar_sx i hi)) (fun i hi => hnar _ (nar_sc i hi)) (fun i hi => hnar _ (nar_sa i hi)) (fun i hi => hnar _ (nar_sl i hi)) (fun i hi j hj => hnar _ (nar_se i hi j hj)) hA
  obtain ⟨cI, i1, i2⟩ := arr_of (ty := .int) (fun C h => by cases h) (hts _ (by decide +kernel))
  obtain ⟨cB, b1, b2⟩ := arr_of (ty := .byte) (fun C h => by cases h) (hts _ (by decide +kernel))
  obtain ⟨cL, l1, l2⟩ := arr_of (ty := .long) (fun C h => by cases h) (hts _ (by decide +kernel))
  have hover : (Cond.arrayOver (.object RX9)).before #[Value.ref b] s = true := hts _ (by decide +kernel)
  obtain ⟨cQ, q1, q2⟩ := arr_ofQ hover
  have hwd : ∃ wd : WD, wd = (s.heap.size, mkAd s.heap.size adE t adK adV b, D, fun k => match k with | 0 => cI | 1 => cB | 2 => cL | _ => cQ) := ⟨_, rfl⟩
  obtain ⟨wd, hwd⟩ := hwd
  have w1 : wd.1 = s.heap.size := by rw [hwd]
  have w2 : wd.2.1 = mkAd s.heap.size adE t adK adV b := by rw [hwd]
  have w3 : wd.2.2.1 = D := by rw [hwd]
  have wAO : AO wd = fun q : Nat => s.heap.size ≤ q := by rw [hwd]
  have wb : wd.2.1 5000 = b := by rw [w2]; rfl
  have hKK : KK l wd s := by
    refine ⟨⟨?_, ?_⟩, ⟨?_, ?_, ?_, ?_, ?_, ?_, ?_, ?_, ?_⟩, ?_, ?_, ?_, ?_, ?_, ?_⟩
    · rw [w3]; exact hD
    · intro k q hk
      rw [hwd] at hk
      match k, hk with
      | 0, hk => cases hk; exact ⟨i1, i2⟩
      | 1, hk => cases hk; exact ⟨b1, b2⟩
      | 2, hk => cases hk; exact ⟨l1, l2⟩
      | 3, hk => cases hk; exact ⟨q1, q2⟩
      | k + 4, hk => simp at hk
    · rw [wAO, w2]
      exact hE.cong (fun i hi => mkAd_e (by have : i < 26 := hi; omega))
    · rw [wAO, w2]
      intro i hi
      show va_OF _ _ _ (.ref (mkAd _ _ _ _ _ _ (2000 + tokTx.getD i 0))) (mkAd _ _ _ _ _ _ (1000 + i)) _ _ _
      have h9 : tokTx.getD i 0 < 27 := by
        have h : ∀ i : Fin 26, tokTx.getD i.val 0 < 27 := by decide +kernel
        exact h ⟨i, hi⟩
      rw [mkAd_k (by omega), mkAd_e (by omega)]
      exact vk_OFof (hEv i hi) (va_eqv (hnar _ (nar_tx i hi)) (hSv _ h9)) hA
    · rw [wAO, w2]
      exact va_Zof (hts _ (by decide +kernel)) (hts _ (by decide +kernel)) htv hA
    · rw [wAO, w2]
      obtain ⟨cell, t1, t2, t3, t4, t5, t6, t7⟩ := htT
      refine ⟨cell, t1, t2, t3, t4, t5, fun j hj => ?_, t7⟩
      show cell.slots[j]? = some (.ref (mkAd _ _ _ _ _ _ (1000 + j)))
      rw [mkAd_e (by omega)]
      exact t6 j hj
    · rw [wAO, w2]
      refine ⟨fun i hi => ?_, fun i j hi hj => ?_⟩
      · have : i < 27 := hi
        dsimp only
        rw [mkAd_k (by omega), mkAd_v (by omega)]
        exact hS.1 i hi
      · have h1 : i < 27 := hi
        have h2 : j < 27 := hj
        dsimp only
        rw [mkAd_k (by omega), mkAd_k (by omega)]
        exact hS.2 i j hi hj
    · rw [wAO]; exact vx_Zqof (hts _ (by decide +kernel)) (hts _ (by decide +kernel)) (hnar _ (by decide +kernel)) hA
    · rw [wAO]; exact vx_Zqof (hts _ (by decide +kernel)) (hts _ (by decide +kernel)) (hnar _ (by decide +kernel)) hA
    · rw [wAO]; exact va_Zof (hts _ (by decide +kernel)) (hts _ (by decide +kernel)) (va_eqt (hnar _ (by decide +kernel))) hA
    · rw [wAO]; exact va_Zqof (hts _ (by decide +kernel)) (hts _ (by decide +kernel)) (hnar _ (by decide +kernel)) hA
    · intro q hq
      obtain ⟨g1, g2, g3⟩ := nar_re q hq
      have g4 : wd.2.1 (2000 + q.2.2.2) = adK q.2.2.2 := by rw [w2, mkAd_k (by omega)]
      rw [g4]
      refine vk_R.of (hts _ g1) ?_
      rcases g3 with g3 | g3
      · have g5 := hSv _ g2
        unfold txT at g5
        rw [← g3] at g5
        exact g5
      · exact va_eqv (hnar _ g3) (hSv _ g2)
    · intro w hw hi
      exact va_Nw.of (isNw_tab hi) (hts w hw)
    · rw [w1]; exact Nat.le_refl _
    · intro i hi
      rw [w1, w2]
      exact mkAd_o hi
    · unfold Launch.stackTraces
      rw [hflags]
      decide +kernel
    · exact va_AO.of hover
  have hNc : NcX s := va_Nc.of (args := #[Value.ref b]) (hnar _ (by decide +kernel))
  have A : Act p l s m #[Value.ref b] meth c wd RL cL_law 7 (some .boolean) := ⟨hx, hb, hml, hown, hr, hlocks, fun w hw => hts w (TS_in hw), hKK⟩
  obtain ⟨o, ho⟩ := pure L xs hL
  rw [lg_entry_eq]
  have hP : PH wd h00 s.heap := ⟨fun k q h => by simp [wsO, gN, h00] at h, Nat.zero_le _, fun _ => w1.symm⟩
  have hX' : va_X (wd.2.1 5000) L xs s s.heap := by rw [wb]; exact hX
  have hLR := entL_LR wd [.ref 5000] (nL := 7) (Nat.le_of_ble_eq_true rfl)
  have hcv : ([Value.ref 5000].map (cv wd)) = [Value.ref b] := by
    show [Value.ref (wd.2.1 5000)] = _
    rw [wb]
  rw [hcv] at hLR
  exact s_fL_law_0 A hNc hX' (by rw [wb]; exact hbl) (by rw [wb, wAO]; exact hA b hbl) ⟨w1, by rw [wb]⟩ (entL 7 [.ref 5000]) [] h00 o s.heap [] 0 0 _ ho rfl hLR hP va_S.rf (Nat.le_of_ble_eq_true rfl) (Nat.le_of_ble_eq_true rfl)

