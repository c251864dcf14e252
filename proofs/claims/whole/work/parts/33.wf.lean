def refs0 : List (Nat × Nat × Nat) := [(0, 0, 1), (0, 1, 2), (0, 2, 6), (0, 3, 50), (0, 4, 51), (0, 5, 56), (0, 6, 72), (0, 7, 88), (2, 0, 3), (2, 1, 4), (2, 2, 5), (6, 1, 7), (8, 0, 9), (8, 1, 13), (8, 11, 23), (8, 12, 24), (8, 13, 25), (8, 14, 26), (8, 15, 27), (8, 16, 28), (9, 1, 10), (9, 2, 11), (9, 3, 12), (13, 1, 14), (13, 2, 15), (13, 3, 16), (13, 4, 17), (13, 5, 18), (13, 6, 19), (13, 7, 20), (13, 8, 21), (13, 9, 22), (29, 0, 30), (29, 1, 34), (29, 11, 44), (29, 12, 45), (29, 13, 46), (29, 14, 47), (29, 15, 48), (29, 16, 49), (30, 1, 31), (30, 2, 32), (30, 3, 33), (34, 1, 35), (34, 2, 36), (34, 3, 37), (34, 4, 38), (34, 5, 39), (34, 6, 40), (34, 7, 41), (34, 8, 42), (34, 9, 43), (50, 2, 2), (51, 1, 52), (51, 2, 53), (51, 3, 54), (51, 4, 55), (56, 0, 57), (56, 9, 51), (56, 10, 70), (56, 11, 71), (56, 1, 63), (56, 2, 64), (56, 3, 65), (56, 4, 66), (56, 5, 67), (56, 6, 68), (56, 7, 69), (57, 0, 58), (57, 1, 59), (57, 2, 60), (57, 8, 61), (57, 9, 62), (72, 0, 73), (72, 9, 51), (72, 10, 86), (72, 11, 87), (72, 1, 79), (72, 2, 80), (72, 3, 81), (72, 4, 82), (72, 5, 83), (72, 6, 84), (72, 7, 85), (73, 0, 74), (73, 1, 75), (73, 2, 76), (73, 8, 77), (73, 9, 78), (88, 2, 72), (89, 11, 90), (89, 12, 91), (89, 13, 92), (89, 14, 93), (89, 15, 94), (89, 16, 95), (89, 17, 96), (89, 18, 97), (89, 19, 98), (89, 20, 99), (89, 21, 100), (89, 22, 101), (89, 23, 102), (89, 24, 103), (89, 25, 104), (89, 26, 105), (89, 27, 106), (89, 28, 107), (89, 29, 108), (89, 30, 109), (89, 31, 110), (89, 32, 111), (89, 35, 112), (89, 36, 113), (89, 53, 114), (89, 54, 115), (89, 56, 116), (89, 57, 117), (89, 61, 118), (89, 62, 119), (89, 63, 120), (89, 64, 121), (89, 65, 122), (89, 66, 123), (89, 67, 124), (89, 68, 125), (89, 69, 126), (89, 70, 127), (89, 71, 128), (89, 76, 129), (89, 81, 130), (89, 82, 131), (89, 85, 132)]
def WF (h : AH) : Prop := gN h = 134 ∧ gX h = 1 ∧ ∀ q ∈ refs0, gR h q.1 q.2.1 = some q.2.2
theorem WF.n {h : AH} (w : WF h) : gN h = 134 := w.1
theorem WF.x {h : AH} (w : WF h) : gX h = 1 := w.2.1
section RD
variable (h : AH) (a k b j : Nat)
theorem gI_sI (v : Int32) : gI (sI h a k v) b j = if b = a ∧ j = k then v else gI h b j := rfl
theorem gI_sL (v : Int64) : gI (sL h a k v) b j = gI h b j := rfl
theorem gI_sR (v : Option Nat) : gI (sR h a k v) b j = gI h b j := rfl
theorem gL_sI (v : Int32) : gL (sI h a k v) b j = gL h b j := rfl
theorem gL_sL (v : Int64) : gL (sL h a k v) b j = if b = a ∧ j = k then v else gL h b j := rfl
theorem gL_sR (v : Option Nat) : gL (sR h a k v) b j = gL h b j := rfl
theorem gR_sI (v : Int32) : gR (sI h a k v) b j = gR h b j := rfl
theorem gR_sL (v : Int64) : gR (sL h a k v) b j = gR h b j := rfl
theorem gR_sR (v : Option Nat) : gR (sR h a k v) b j = if b = a ∧ j = k then v else gR h b j := rfl
theorem gN_sI (v : Int32) : gN (sI h a k v) = gN h := rfl
theorem gN_sL (v : Int64) : gN (sL h a k v) = gN h := rfl
theorem gN_sR (v : Option Nat) : gN (sR h a k v) = gN h := rfl
theorem gX_sI (v : Int32) : gX (sI h a k v) = gX h := rfl
theorem gX_sL (v : Int64) : gX (sL h a k v) = gX h := rfl
theorem gX_sR (v : Option Nat) : gX (sR h a k v) = gX h := rfl
theorem gI_xt : gI (xt h) b j = gI h b j := rfl
theorem gL_xt : gL (xt h) b j = gL h b j := rfl
theorem gR_xt : gR (xt h) b j = gR h b j := rfl
theorem gN_xt : gN (xt h) = gN h := rfl
theorem gX_xt : gX (xt h) = 1 := rfl
theorem gI_cpI (sp dp n c : Nat) : gI (cpI h a sp b dp n) c j = if c = b ∧ dp ≤ j ∧ j < dp + n then gI h a (sp + (j - dp)) else gI h c j := rfl
theorem gL_cpI (sp dp n c : Nat) : gL (cpI h a sp b dp n) c j = gL h c j := rfl
theorem gR_cpI (sp dp n c : Nat) : gR (cpI h a sp b dp n) c j = gR h c j := rfl
theorem gN_cpI (sp dp n : Nat) : gN (cpI h a sp b dp n) = gN h := rfl
theorem gX_cpI (sp dp n : Nat) : gX (cpI h a sp b dp n) = gX h := rfl
end RD
theorem WF.same {h h' : AH} (w : WF h) (e : h'.2.2 = h.2.2) : WF h' := by
  obtain ⟨w1, w2, w3⟩ := w
  have e1 : gN h' = gN h := congrArg (fun q => q.2.1) e
  have e2 : gX h' = gX h := congrArg (fun q => q.2.2) e
  have e3 : ∀ a k, gR h' a k = gR h a k := fun a k => congrArg (fun q => q.1 a k) e
  exact ⟨e1.trans w1, e2.trans w2, fun q hq => (e3 _ _).trans (w3 q hq)⟩
theorem WF.sI {h : AH} (w : WF h) (a k : Nat) (v : Int32) : WF (sI h a k v) := w.same rfl
theorem WF.sL {h : AH} (w : WF h) (a k : Nat) (v : Int64) : WF (sL h a k v) := w.same rfl
theorem WF.cpI {h : AH} (w : WF h) (a b c d e : Nat) : WF (cpI h a b c d e) := w.same rfl
theorem WF.xt {h : AH} (w : WF h) : WF (xt h) := ⟨w.1, rfl, w.2.2⟩
theorem WF.sR {h : AH} (w : WF h) (a k : Nat) (v : Option Nat) (hn : ∀ q ∈ refs0, ¬ (q.1 = a ∧ q.2.1 = k)) : WF (sR h a k v) :=
  ⟨w.1, w.2.1, fun q hq => by rw [gR_sR, if_neg (hn q hq)]; exact w.2.2 q hq⟩
theorem WF.r {h : AH} (w : WF h) (q : Nat × Nat × Nat) (hq : q ∈ refs0) : gR h q.1 q.2.1 = some q.2.2 := w.2.2 q hq
theorem sh_0 : sh 0 = (0, 10) := rfl
theorem sh_1 : sh 1 = (2, 1000) := rfl
theorem sh_2 : sh 2 = (0, 9) := rfl
theorem sh_3 : sh 3 = (4, 1001) := rfl
theorem sh_4 : sh 4 = (1, 1001) := rfl
theorem sh_5 : sh 5 = (1, 1001) := rfl
theorem sh_6 : sh 6 = (0, 4) := rfl
theorem sh_7 : sh 7 = (1, 40) := rfl
theorem sh_8 : sh 8 = (0, 0) := rfl
theorem sh_9 : sh 9 = (0, 7) := rfl
theorem sh_10 : sh 10 = (1, 12) := rfl
theorem sh_11 : sh 11 = (1, 12) := rfl
theorem sh_12 : sh 12 = (1, 12) := rfl
theorem sh_13 : sh 13 = (0, 3) := rfl
theorem sh_14 : sh 14 = (1, 5) := rfl
theorem sh_15 : sh 15 = (1, 5) := rfl
theorem sh_16 : sh 16 = (1, 5) := rfl
theorem sh_17 : sh 17 = (1, 5) := rfl
theorem sh_18 : sh 18 = (1, 5) := rfl
theorem sh_19 : sh 19 = (1, 15) := rfl
theorem sh_20 : sh 20 = (1, 50) := rfl
theorem sh_21 : sh 21 = (1, 50) := rfl
theorem sh_22 : sh 22 = (1, 5) := rfl
theorem sh_23 : sh 23 = (1, 33) := rfl
theorem sh_24 : sh 24 = (1, 33) := rfl
theorem sh_25 : sh 25 = (1, 144) := rfl
theorem sh_26 : sh 26 = (1, 6) := rfl
theorem sh_27 : sh 27 = (1, 10) := rfl
theorem sh_28 : sh 28 = (1, 10) := rfl
theorem sh_29 : sh 29 = (0, 0) := rfl
theorem sh_30 : sh 30 = (0, 7) := rfl
theorem sh_31 : sh 31 = (1, 12) := rfl
theorem sh_32 : sh 32 = (1, 12) := rfl
theorem sh_33 : sh 33 = (1, 12) := rfl
theorem sh_34 : sh 34 = (0, 3) := rfl
theorem sh_35 : sh 35 = (1, 5) := rfl
theorem sh_36 : sh 36 = (1, 5) := rfl
theorem sh_37 : sh 37 = (1, 5) := rfl
theorem sh_38 : sh 38 = (1, 5) := rfl
theorem sh_39 : sh 39 = (1, 5) := rfl
theorem sh_40 : sh 40 = (1, 15) := rfl
theorem sh_41 : sh 41 = (1, 50) := rfl
theorem sh_42 : sh 42 = (1, 50) := rfl
theorem sh_43 : sh 43 = (1, 5) := rfl
theorem sh_44 : sh 44 = (1, 33) := rfl
theorem sh_45 : sh 45 = (1, 33) := rfl
theorem sh_46 : sh 46 = (1, 144) := rfl
theorem sh_47 : sh 47 = (1, 6) := rfl
theorem sh_48 : sh 48 = (1, 10) := rfl
theorem sh_49 : sh 49 = (1, 10) := rfl
theorem sh_50 : sh 50 = (0, 1) := rfl
theorem sh_51 : sh 51 = (0, 2) := rfl
theorem sh_52 : sh 52 = (1, 1024) := rfl
theorem sh_53 : sh 53 = (1, 18) := rfl
theorem sh_54 : sh 54 = (1, 10) := rfl
theorem sh_55 : sh 55 = (1, 6) := rfl
theorem sh_56 : sh 56 = (0, 8) := rfl
theorem sh_57 : sh 57 = (0, 5) := rfl
theorem sh_58 : sh 58 = (1, 48) := rfl
theorem sh_59 : sh 59 = (1, 48) := rfl
theorem sh_60 : sh 60 = (1, 48) := rfl
theorem sh_61 : sh 61 = (1, 48) := rfl
theorem sh_62 : sh 62 = (1, 48) := rfl
theorem sh_63 : sh 63 = (1, 5) := rfl
theorem sh_64 : sh 64 = (1, 5) := rfl
theorem sh_65 : sh 65 = (1, 5) := rfl
theorem sh_66 : sh 66 = (1, 5) := rfl
theorem sh_67 : sh 67 = (1, 5) := rfl
theorem sh_68 : sh 68 = (1, 5) := rfl
theorem sh_69 : sh 69 = (1, 48) := rfl
theorem sh_70 : sh 70 = (1, 53) := rfl
theorem sh_71 : sh 71 = (1, 48) := rfl
theorem sh_72 : sh 72 = (0, 8) := rfl
theorem sh_73 : sh 73 = (0, 5) := rfl
theorem sh_74 : sh 74 = (1, 48) := rfl
theorem sh_75 : sh 75 = (1, 48) := rfl
theorem sh_76 : sh 76 = (1, 48) := rfl
theorem sh_77 : sh 77 = (1, 48) := rfl
theorem sh_78 : sh 78 = (1, 48) := rfl
theorem sh_79 : sh 79 = (1, 5) := rfl
theorem sh_80 : sh 80 = (1, 5) := rfl
theorem sh_81 : sh 81 = (1, 5) := rfl
theorem sh_82 : sh 82 = (1, 5) := rfl
theorem sh_83 : sh 83 = (1, 5) := rfl
theorem sh_84 : sh 84 = (1, 5) := rfl
theorem sh_85 : sh 85 = (1, 48) := rfl
theorem sh_86 : sh 86 = (1, 53) := rfl
theorem sh_87 : sh 87 = (1, 48) := rfl
theorem sh_88 : sh 88 = (0, 6) := rfl
theorem sh_89 : sh 89 = (0, 11) := rfl
theorem sh_90 : sh 90 = (3, 12) := rfl
theorem sh_91 : sh 91 = (1, 20) := rfl
theorem sh_92 : sh 92 = (1, 20) := rfl
theorem sh_93 : sh 93 = (1, 20) := rfl
theorem sh_94 : sh 94 = (3, 6) := rfl
theorem sh_95 : sh 95 = (1, 6) := rfl
theorem sh_96 : sh 96 = (3, 10) := rfl
theorem sh_97 : sh 97 = (1, 10) := rfl
theorem sh_98 : sh 98 = (1, 10) := rfl
theorem sh_99 : sh 99 = (1, 12) := rfl
theorem sh_100 : sh 100 = (1, 12) := rfl
theorem sh_101 : sh 101 = (1, 12) := rfl
theorem sh_102 : sh 102 = (3, 5) := rfl
theorem sh_103 : sh 103 = (1, 5) := rfl
theorem sh_104 : sh 104 = (1, 5) := rfl
theorem sh_105 : sh 105 = (1, 15) := rfl
theorem sh_106 : sh 106 = (1, 5) := rfl
theorem sh_107 : sh 107 = (1, 5) := rfl
theorem sh_108 : sh 108 = (1, 5) := rfl
theorem sh_109 : sh 109 = (1, 5) := rfl
theorem sh_110 : sh 110 = (1, 220) := rfl
theorem sh_111 : sh 111 = (3, 33) := rfl
theorem sh_112 : sh 112 = (1, 10) := rfl
theorem sh_113 : sh 113 = (1, 1000) := rfl
theorem sh_114 : sh 114 = (1, 144) := rfl
theorem sh_115 : sh 115 = (1, 1024) := rfl
theorem sh_116 : sh 116 = (1, 10) := rfl
theorem sh_117 : sh 117 = (1, 6) := rfl
theorem sh_118 : sh 118 = (1, 5) := rfl
theorem sh_119 : sh 119 = (1, 5) := rfl
theorem sh_120 : sh 120 = (1, 5) := rfl
theorem sh_121 : sh 121 = (1, 5) := rfl
theorem sh_122 : sh 122 = (1, 5) := rfl
theorem sh_123 : sh 123 = (1, 10) := rfl
theorem sh_124 : sh 124 = (1, 48) := rfl
theorem sh_125 : sh 125 = (1, 48) := rfl
theorem sh_126 : sh 126 = (1, 48) := rfl
theorem sh_127 : sh 127 = (1, 48) := rfl
theorem sh_128 : sh 128 = (1, 64) := rfl
theorem sh_129 : sh 129 = (1, 40) := rfl
theorem sh_130 : sh 130 = (1, 5) := rfl
theorem sh_131 : sh 131 = (1, 5) := rfl
theorem sh_132 : sh 132 = (1, 5) := rfl
theorem sh_133 : sh 133 = (3, 1) := rfl
theorem rf_0_0 {h : AH} (w : WF h) : gR h 0 0 = some 1 := w.2.2 (0, 0, 1) (List.mem_of_getElem? (i := 0) rfl)
theorem rf_0_1 {h : AH} (w : WF h) : gR h 0 1 = some 2 := w.2.2 (0, 1, 2) (List.mem_of_getElem? (i := 1) rfl)
theorem rf_0_2 {h : AH} (w : WF h) : gR h 0 2 = some 6 := w.2.2 (0, 2, 6) (List.mem_of_getElem? (i := 2) rfl)
theorem rf_0_3 {h : AH} (w : WF h) : gR h 0 3 = some 50 := w.2.2 (0, 3, 50) (List.mem_of_getElem? (i := 3) rfl)
theorem rf_0_4 {h : AH} (w : WF h) : gR h 0 4 = some 51 := w.2.2 (0, 4, 51) (List.mem_of_getElem? (i := 4) rfl)
theorem rf_0_5 {h : AH} (w : WF h) : gR h 0 5 = some 56 := w.2.2 (0, 5, 56) (List.mem_of_getElem? (i := 5) rfl)
theorem rf_0_6 {h : AH} (w : WF h) : gR h 0 6 = some 72 := w.2.2 (0, 6, 72) (List.mem_of_getElem? (i := 6) rfl)
theorem rf_0_7 {h : AH} (w : WF h) : gR h 0 7 = some 88 := w.2.2 (0, 7, 88) (List.mem_of_getElem? (i := 7) rfl)
theorem rf_2_0 {h : AH} (w : WF h) : gR h 2 0 = some 3 := w.2.2 (2, 0, 3) (List.mem_of_getElem? (i := 8) rfl)
theorem rf_2_1 {h : AH} (w : WF h) : gR h 2 1 = some 4 := w.2.2 (2, 1, 4) (List.mem_of_getElem? (i := 9) rfl)
theorem rf_2_2 {h : AH} (w : WF h) : gR h 2 2 = some 5 := w.2.2 (2, 2, 5) (List.mem_of_getElem? (i := 10) rfl)
theorem rf_6_1 {h : AH} (w : WF h) : gR h 6 1 = some 7 := w.2.2 (6, 1, 7) (List.mem_of_getElem? (i := 11) rfl)
theorem rf_8_0 {h : AH} (w : WF h) : gR h 8 0 = some 9 := w.2.2 (8, 0, 9) (List.mem_of_getElem? (i := 12) rfl)
theorem rf_8_1 {h : AH} (w : WF h) : gR h 8 1 = some 13 := w.2.2 (8, 1, 13) (List.mem_of_getElem? (i := 13) rfl)
theorem rf_8_11 {h : AH} (w : WF h) : gR h 8 11 = some 23 := w.2.2 (8, 11, 23) (List.mem_of_getElem? (i := 14) rfl)
theorem rf_8_12 {h : AH} (w : WF h) : gR h 8 12 = some 24 := w.2.2 (8, 12, 24) (List.mem_of_getElem? (i := 15) rfl)
theorem rf_8_13 {h : AH} (w : WF h) : gR h 8 13 = some 25 := w.2.2 (8, 13, 25) (List.mem_of_getElem? (i := 16) rfl)
theorem rf_8_14 {h : AH} (w : WF h) : gR h 8 14 = some 26 := w.2.2 (8, 14, 26) (List.mem_of_getElem? (i := 17) rfl)
theorem rf_8_15 {h : AH} (w : WF h) : gR h 8 15 = some 27 := w.2.2 (8, 15, 27) (List.mem_of_getElem? (i := 18) rfl)
theorem rf_8_16 {h : AH} (w : WF h) : gR h 8 16 = some 28 := w.2.2 (8, 16, 28) (List.mem_of_getElem? (i := 19) rfl)
theorem rf_9_1 {h : AH} (w : WF h) : gR h 9 1 = some 10 := w.2.2 (9, 1, 10) (List.mem_of_getElem? (i := 20) rfl)
theorem rf_9_2 {h : AH} (w : WF h) : gR h 9 2 = some 11 := w.2.2 (9, 2, 11) (List.mem_of_getElem? (i := 21) rfl)
theorem rf_9_3 {h : AH} (w : WF h) : gR h 9 3 = some 12 := w.2.2 (9, 3, 12) (List.mem_of_getElem? (i := 22) rfl)
theorem rf_13_1 {h : AH} (w : WF h) : gR h 13 1 = some 14 := w.2.2 (13, 1, 14) (List.mem_of_getElem? (i := 23) rfl)
theorem rf_13_2 {h : AH} (w : WF h) : gR h 13 2 = some 15 := w.2.2 (13, 2, 15) (List.mem_of_getElem? (i := 24) rfl)
theorem rf_13_3 {h : AH} (w : WF h) : gR h 13 3 = some 16 := w.2.2 (13, 3, 16) (List.mem_of_getElem? (i := 25) rfl)
theorem rf_13_4 {h : AH} (w : WF h) : gR h 13 4 = some 17 := w.2.2 (13, 4, 17) (List.mem_of_getElem? (i := 26) rfl)
theorem rf_13_5 {h : AH} (w : WF h) : gR h 13 5 = some 18 := w.2.2 (13, 5, 18) (List.mem_of_getElem? (i := 27) rfl)
theorem rf_13_6 {h : AH} (w : WF h) : gR h 13 6 = some 19 := w.2.2 (13, 6, 19) (List.mem_of_getElem? (i := 28) rfl)
theorem rf_13_7 {h : AH} (w : WF h) : gR h 13 7 = some 20 := w.2.2 (13, 7, 20) (List.mem_of_getElem? (i := 29) rfl)
theorem rf_13_8 {h : AH} (w : WF h) : gR h 13 8 = some 21 := w.2.2 (13, 8, 21) (List.mem_of_getElem? (i := 30) rfl)
theorem rf_13_9 {h : AH} (w : WF h) : gR h 13 9 = some 22 := w.2.2 (13, 9, 22) (List.mem_of_getElem? (i := 31) rfl)
theorem rf_29_0 {h : AH} (w : WF h) : gR h 29 0 = some 30 := w.2.2 (29, 0, 30) (List.mem_of_getElem? (i := 32) rfl)
theorem rf_29_1 {h : AH} (w : WF h) : gR h 29 1 = some 34 := w.2.2 (29, 1, 34) (List.mem_of_getElem? (i := 33) rfl)
theorem rf_29_11 {h : AH} (w : WF h) : gR h 29 11 = some 44 := w.2.2 (29, 11, 44) (List.mem_of_getElem? (i := 34) rfl)
theorem rf_29_12 {h : AH} (w : WF h) : gR h 29 12 = some 45 := w.2.2 (29, 12, 45) (List.mem_of_getElem? (i := 35) rfl)
theorem rf_29_13 {h : AH} (w : WF h) : gR h 29 13 = some 46 := w.2.2 (29, 13, 46) (List.mem_of_getElem? (i := 36) rfl)
theorem rf_29_14 {h : AH} (w : WF h) : gR h 29 14 = some 47 := w.2.2 (29, 14, 47) (List.mem_of_getElem? (i := 37) rfl)
theorem rf_29_15 {h : AH} (w : WF h) : gR h 29 15 = some 48 := w.2.2 (29, 15, 48) (List.mem_of_getElem? (i := 38) rfl)
theorem rf_29_16 {h : AH} (w : WF h) : gR h 29 16 = some 49 := w.2.2 (29, 16, 49) (List.mem_of_getElem? (i := 39) rfl)
theorem rf_30_1 {h : AH} (w : WF h) : gR h 30 1 = some 31 := w.2.2 (30, 1, 31) (List.mem_of_getElem? (i := 40) rfl)
theorem rf_30_2 {h : AH} (w : WF h) : gR h 30 2 = some 32 := w.2.2 (30, 2, 32) (List.mem_of_getElem? (i := 41) rfl)
theorem rf_30_3 {h : AH} (w : WF h) : gR h 30 3 = some 33 := w.2.2 (30, 3, 33) (List.mem_of_getElem? (i := 42) rfl)
theorem rf_34_1 {h : AH} (w : WF h) : gR h 34 1 = some 35 := w.2.2 (34, 1, 35) (List.mem_of_getElem? (i := 43) rfl)
theorem rf_34_2 {h : AH} (w : WF h) : gR h 34 2 = some 36 := w.2.2 (34, 2, 36) (List.mem_of_getElem? (i := 44) rfl)
theorem rf_34_3 {h : AH} (w : WF h) : gR h 34 3 = some 37 := w.2.2 (34, 3, 37) (List.mem_of_getElem? (i := 45) rfl)
theorem rf_34_4 {h : AH} (w : WF h) : gR h 34 4 = some 38 := w.2.2 (34, 4, 38) (List.mem_of_getElem? (i := 46) rfl)
theorem rf_34_5 {h : AH} (w : WF h) : gR h 34 5 = some 39 := w.2.2 (34, 5, 39) (List.mem_of_getElem? (i := 47) rfl)
theorem rf_34_6 {h : AH} (w : WF h) : gR h 34 6 = some 40 := w.2.2 (34, 6, 40) (List.mem_of_getElem? (i := 48) rfl)
theorem rf_34_7 {h : AH} (w : WF h) : gR h 34 7 = some 41 := w.2.2 (34, 7, 41) (List.mem_of_getElem? (i := 49) rfl)
theorem rf_34_8 {h : AH} (w : WF h) : gR h 34 8 = some 42 := w.2.2 (34, 8, 42) (List.mem_of_getElem? (i := 50) rfl)
theorem rf_34_9 {h : AH} (w : WF h) : gR h 34 9 = some 43 := w.2.2 (34, 9, 43) (List.mem_of_getElem? (i := 51) rfl)
theorem rf_50_2 {h : AH} (w : WF h) : gR h 50 2 = some 2 := w.2.2 (50, 2, 2) (List.mem_of_getElem? (i := 52) rfl)
theorem rf_51_1 {h : AH} (w : WF h) : gR h 51 1 = some 52 := w.2.2 (51, 1, 52) (List.mem_of_getElem? (i := 53) rfl)
theorem rf_51_2 {h : AH} (w : WF h) : gR h 51 2 = some 53 := w.2.2 (51, 2, 53) (List.mem_of_getElem? (i := 54) rfl)
theorem rf_51_3 {h : AH} (w : WF h) : gR h 51 3 = some 54 := w.2.2 (51, 3, 54) (List.mem_of_getElem? (i := 55) rfl)
theorem rf_51_4 {h : AH} (w : WF h) : gR h 51 4 = some 55 := w.2.2 (51, 4, 55) (List.mem_of_getElem? (i := 56) rfl)
theorem rf_56_0 {h : AH} (w : WF h) : gR h 56 0 = some 57 := w.2.2 (56, 0, 57) (List.mem_of_getElem? (i := 57) rfl)
theorem rf_56_9 {h : AH} (w : WF h) : gR h 56 9 = some 51 := w.2.2 (56, 9, 51) (List.mem_of_getElem? (i := 58) rfl)
theorem rf_56_10 {h : AH} (w : WF h) : gR h 56 10 = some 70 := w.2.2 (56, 10, 70) (List.mem_of_getElem? (i := 59) rfl)
theorem rf_56_11 {h : AH} (w : WF h) : gR h 56 11 = some 71 := w.2.2 (56, 11, 71) (List.mem_of_getElem? (i := 60) rfl)
theorem rf_56_1 {h : AH} (w : WF h) : gR h 56 1 = some 63 := w.2.2 (56, 1, 63) (List.mem_of_getElem? (i := 61) rfl)
theorem rf_56_2 {h : AH} (w : WF h) : gR h 56 2 = some 64 := w.2.2 (56, 2, 64) (List.mem_of_getElem? (i := 62) rfl)
theorem rf_56_3 {h : AH} (w : WF h) : gR h 56 3 = some 65 := w.2.2 (56, 3, 65) (List.mem_of_getElem? (i := 63) rfl)
theorem rf_56_4 {h : AH} (w : WF h) : gR h 56 4 = some 66 := w.2.2 (56, 4, 66) (List.mem_of_getElem? (i := 64) rfl)
theorem rf_56_5 {h : AH} (w : WF h) : gR h 56 5 = some 67 := w.2.2 (56, 5, 67) (List.mem_of_getElem? (i := 65) rfl)
theorem rf_56_6 {h : AH} (w : WF h) : gR h 56 6 = some 68 := w.2.2 (56, 6, 68) (List.mem_of_getElem? (i := 66) rfl)
theorem rf_56_7 {h : AH} (w : WF h) : gR h 56 7 = some 69 := w.2.2 (56, 7, 69) (List.mem_of_getElem? (i := 67) rfl)
theorem rf_57_0 {h : AH} (w : WF h) : gR h 57 0 = some 58 := w.2.2 (57, 0, 58) (List.mem_of_getElem? (i := 68) rfl)
theorem rf_57_1 {h : AH} (w : WF h) : gR h 57 1 = some 59 := w.2.2 (57, 1, 59) (List.mem_of_getElem? (i := 69) rfl)
theorem rf_57_2 {h : AH} (w : WF h) : gR h 57 2 = some 60 := w.2.2 (57, 2, 60) (List.mem_of_getElem? (i := 70) rfl)
theorem rf_57_8 {h : AH} (w : WF h) : gR h 57 8 = some 61 := w.2.2 (57, 8, 61) (List.mem_of_getElem? (i := 71) rfl)
theorem rf_57_9 {h : AH} (w : WF h) : gR h 57 9 = some 62 := w.2.2 (57, 9, 62) (List.mem_of_getElem? (i := 72) rfl)
theorem rf_72_0 {h : AH} (w : WF h) : gR h 72 0 = some 73 := w.2.2 (72, 0, 73) (List.mem_of_getElem? (i := 73) rfl)
theorem rf_72_9 {h : AH} (w : WF h) : gR h 72 9 = some 51 := w.2.2 (72, 9, 51) (List.mem_of_getElem? (i := 74) rfl)
theorem rf_72_10 {h : AH} (w : WF h) : gR h 72 10 = some 86 := w.2.2 (72, 10, 86) (List.mem_of_getElem? (i := 75) rfl)
theorem rf_72_11 {h : AH} (w : WF h) : gR h 72 11 = some 87 := w.2.2 (72, 11, 87) (List.mem_of_getElem? (i := 76) rfl)
theorem rf_72_1 {h : AH} (w : WF h) : gR h 72 1 = some 79 := w.2.2 (72, 1, 79) (List.mem_of_getElem? (i := 77) rfl)
theorem rf_72_2 {h : AH} (w : WF h) : gR h 72 2 = some 80 := w.2.2 (72, 2, 80) (List.mem_of_getElem? (i := 78) rfl)
theorem rf_72_3 {h : AH} (w : WF h) : gR h 72 3 = some 81 := w.2.2 (72, 3, 81) (List.mem_of_getElem? (i := 79) rfl)
theorem rf_72_4 {h : AH} (w : WF h) : gR h 72 4 = some 82 := w.2.2 (72, 4, 82) (List.mem_of_getElem? (i := 80) rfl)
theorem rf_72_5 {h : AH} (w : WF h) : gR h 72 5 = some 83 := w.2.2 (72, 5, 83) (List.mem_of_getElem? (i := 81) rfl)
theorem rf_72_6 {h : AH} (w : WF h) : gR h 72 6 = some 84 := w.2.2 (72, 6, 84) (List.mem_of_getElem? (i := 82) rfl)
theorem rf_72_7 {h : AH} (w : WF h) : gR h 72 7 = some 85 := w.2.2 (72, 7, 85) (List.mem_of_getElem? (i := 83) rfl)
theorem rf_73_0 {h : AH} (w : WF h) : gR h 73 0 = some 74 := w.2.2 (73, 0, 74) (List.mem_of_getElem? (i := 84) rfl)
theorem rf_73_1 {h : AH} (w : WF h) : gR h 73 1 = some 75 := w.2.2 (73, 1, 75) (List.mem_of_getElem? (i := 85) rfl)
theorem rf_73_2 {h : AH} (w : WF h) : gR h 73 2 = some 76 := w.2.2 (73, 2, 76) (List.mem_of_getElem? (i := 86) rfl)
theorem rf_73_8 {h : AH} (w : WF h) : gR h 73 8 = some 77 := w.2.2 (73, 8, 77) (List.mem_of_getElem? (i := 87) rfl)
theorem rf_73_9 {h : AH} (w : WF h) : gR h 73 9 = some 78 := w.2.2 (73, 9, 78) (List.mem_of_getElem? (i := 88) rfl)
theorem rf_88_2 {h : AH} (w : WF h) : gR h 88 2 = some 72 := w.2.2 (88, 2, 72) (List.mem_of_getElem? (i := 89) rfl)
theorem rf_89_11 {h : AH} (w : WF h) : gR h 89 11 = some 90 := w.2.2 (89, 11, 90) (List.mem_of_getElem? (i := 90) rfl)
theorem rf_89_12 {h : AH} (w : WF h) : gR h 89 12 = some 91 := w.2.2 (89, 12, 91) (List.mem_of_getElem? (i := 91) rfl)
theorem rf_89_13 {h : AH} (w : WF h) : gR h 89 13 = some 92 := w.2.2 (89, 13, 92) (List.mem_of_getElem? (i := 92) rfl)
theorem rf_89_14 {h : AH} (w : WF h) : gR h 89 14 = some 93 := w.2.2 (89, 14, 93) (List.mem_of_getElem? (i := 93) rfl)
theorem rf_89_15 {h : AH} (w : WF h) : gR h 89 15 = some 94 := w.2.2 (89, 15, 94) (List.mem_of_getElem? (i := 94) rfl)
theorem rf_89_16 {h : AH} (w : WF h) : gR h 89 16 = some 95 := w.2.2 (89, 16, 95) (List.mem_of_getElem? (i := 95) rfl)
theorem rf_89_17 {h : AH} (w : WF h) : gR h 89 17 = some 96 := w.2.2 (89, 17, 96) (List.mem_of_getElem? (i := 96) rfl)
theorem rf_89_18 {h : AH} (w : WF h) : gR h 89 18 = some 97 := w.2.2 (89, 18, 97) (List.mem_of_getElem? (i := 97) rfl)
theorem rf_89_19 {h : AH} (w : WF h) : gR h 89 19 = some 98 := w.2.2 (89, 19, 98) (List.mem_of_getElem? (i := 98) rfl)
theorem rf_89_20 {h : AH} (w : WF h) : gR h 89 20 = some 99 := w.2.2 (89, 20, 99) (List.mem_of_getElem? (i := 99) rfl)
theorem rf_89_21 {h : AH} (w : WF h) : gR h 89 21 = some 100 := w.2.2 (89, 21, 100) (List.mem_of_getElem? (i := 100) rfl)
theorem rf_89_22 {h : AH} (w : WF h) : gR h 89 22 = some 101 := w.2.2 (89, 22, 101) (List.mem_of_getElem? (i := 101) rfl)
theorem rf_89_23 {h : AH} (w : WF h) : gR h 89 23 = some 102 := w.2.2 (89, 23, 102) (List.mem_of_getElem? (i := 102) rfl)
theorem rf_89_24 {h : AH} (w : WF h) : gR h 89 24 = some 103 := w.2.2 (89, 24, 103) (List.mem_of_getElem? (i := 103) rfl)
theorem rf_89_25 {h : AH} (w : WF h) : gR h 89 25 = some 104 := w.2.2 (89, 25, 104) (List.mem_of_getElem? (i := 104) rfl)
theorem rf_89_26 {h : AH} (w : WF h) : gR h 89 26 = some 105 := w.2.2 (89, 26, 105) (List.mem_of_getElem? (i := 105) rfl)
theorem rf_89_27 {h : AH} (w : WF h) : gR h 89 27 = some 106 := w.2.2 (89, 27, 106) (List.mem_of_getElem? (i := 106) rfl)
theorem rf_89_28 {h : AH} (w : WF h) : gR h 89 28 = some 107 := w.2.2 (89, 28, 107) (List.mem_of_getElem? (i := 107) rfl)
theorem rf_89_29 {h : AH} (w : WF h) : gR h 89 29 = some 108 := w.2.2 (89, 29, 108) (List.mem_of_getElem? (i := 108) rfl)
theorem rf_89_30 {h : AH} (w : WF h) : gR h 89 30 = some 109 := w.2.2 (89, 30, 109) (List.mem_of_getElem? (i := 109) rfl)
theorem rf_89_31 {h : AH} (w : WF h) : gR h 89 31 = some 110 := w.2.2 (89, 31, 110) (List.mem_of_getElem? (i := 110) rfl)
theorem rf_89_32 {h : AH} (w : WF h) : gR h 89 32 = some 111 := w.2.2 (89, 32, 111) (List.mem_of_getElem? (i := 111) rfl)
theorem rf_89_35 {h : AH} (w : WF h) : gR h 89 35 = some 112 := w.2.2 (89, 35, 112) (List.mem_of_getElem? (i := 112) rfl)
theorem rf_89_36 {h : AH} (w : WF h) : gR h 89 36 = some 113 := w.2.2 (89, 36, 113) (List.mem_of_getElem? (i := 113) rfl)
theorem rf_89_53 {h : AH} (w : WF h) : gR h 89 53 = some 114 := w.2.2 (89, 53, 114) (List.mem_of_getElem? (i := 114) rfl)
theorem rf_89_54 {h : AH} (w : WF h) : gR h 89 54 = some 115 := w.2.2 (89, 54, 115) (List.mem_of_getElem? (i := 115) rfl)
theorem rf_89_56 {h : AH} (w : WF h) : gR h 89 56 = some 116 := w.2.2 (89, 56, 116) (List.mem_of_getElem? (i := 116) rfl)
theorem rf_89_57 {h : AH} (w : WF h) : gR h 89 57 = some 117 := w.2.2 (89, 57, 117) (List.mem_of_getElem? (i := 117) rfl)
theorem rf_89_61 {h : AH} (w : WF h) : gR h 89 61 = some 118 := w.2.2 (89, 61, 118) (List.mem_of_getElem? (i := 118) rfl)
theorem rf_89_62 {h : AH} (w : WF h) : gR h 89 62 = some 119 := w.2.2 (89, 62, 119) (List.mem_of_getElem? (i := 119) rfl)
theorem rf_89_63 {h : AH} (w : WF h) : gR h 89 63 = some 120 := w.2.2 (89, 63, 120) (List.mem_of_getElem? (i := 120) rfl)
theorem rf_89_64 {h : AH} (w : WF h) : gR h 89 64 = some 121 := w.2.2 (89, 64, 121) (List.mem_of_getElem? (i := 121) rfl)
theorem rf_89_65 {h : AH} (w : WF h) : gR h 89 65 = some 122 := w.2.2 (89, 65, 122) (List.mem_of_getElem? (i := 122) rfl)
theorem rf_89_66 {h : AH} (w : WF h) : gR h 89 66 = some 123 := w.2.2 (89, 66, 123) (List.mem_of_getElem? (i := 123) rfl)
theorem rf_89_67 {h : AH} (w : WF h) : gR h 89 67 = some 124 := w.2.2 (89, 67, 124) (List.mem_of_getElem? (i := 124) rfl)
theorem rf_89_68 {h : AH} (w : WF h) : gR h 89 68 = some 125 := w.2.2 (89, 68, 125) (List.mem_of_getElem? (i := 125) rfl)
theorem rf_89_69 {h : AH} (w : WF h) : gR h 89 69 = some 126 := w.2.2 (89, 69, 126) (List.mem_of_getElem? (i := 126) rfl)
theorem rf_89_70 {h : AH} (w : WF h) : gR h 89 70 = some 127 := w.2.2 (89, 70, 127) (List.mem_of_getElem? (i := 127) rfl)
theorem rf_89_71 {h : AH} (w : WF h) : gR h 89 71 = some 128 := w.2.2 (89, 71, 128) (List.mem_of_getElem? (i := 128) rfl)
theorem rf_89_76 {h : AH} (w : WF h) : gR h 89 76 = some 129 := w.2.2 (89, 76, 129) (List.mem_of_getElem? (i := 129) rfl)
theorem rf_89_81 {h : AH} (w : WF h) : gR h 89 81 = some 130 := w.2.2 (89, 81, 130) (List.mem_of_getElem? (i := 130) rfl)
theorem rf_89_82 {h : AH} (w : WF h) : gR h 89 82 = some 131 := w.2.2 (89, 82, 131) (List.mem_of_getElem? (i := 131) rfl)
theorem rf_89_85 {h : AH} (w : WF h) : gR h 89 85 = some 132 := w.2.2 (89, 85, 132) (List.mem_of_getElem? (i := 132) rfl)
