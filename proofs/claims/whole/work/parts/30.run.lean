section RUN
variable {F G : Fn} {L : Lc} {S : List Value} {h : AH} {x y : Int32} {u v : Int64} {i j : Nat} {a0 a1 a2 a3 a4 a5 a6 a7 a8 a9 : Option Value} {w w1 w2 w3 w4 w5 w6 w7 : Value}
theorem r_push : i_push w F L S h = F L (w :: S) h := rfl
theorem r_iload_0 : i_iload 0 F (some (.int x) :: L) S h = F (some (.int x) :: L) (.int x :: S) h := rfl
theorem r_aload_0 : i_aload 0 F (some (.ref i) :: L) S h = F (some (.ref i) :: L) (.ref i :: S) h := rfl
theorem r_lload_0 : i_lload 0 F (some (.long u) :: L) S h = F (some (.long u) :: L) (.long u :: S) h := rfl
theorem r_iload_1 : i_iload 1 F (a0 :: some (.int x) :: L) S h = F (a0 :: some (.int x) :: L) (.int x :: S) h := rfl
theorem r_aload_1 : i_aload 1 F (a0 :: some (.ref i) :: L) S h = F (a0 :: some (.ref i) :: L) (.ref i :: S) h := rfl
theorem r_lload_1 : i_lload 1 F (a0 :: some (.long u) :: L) S h = F (a0 :: some (.long u) :: L) (.long u :: S) h := rfl
theorem r_iload_2 : i_iload 2 F (a0 :: a1 :: some (.int x) :: L) S h = F (a0 :: a1 :: some (.int x) :: L) (.int x :: S) h := rfl
theorem r_aload_2 : i_aload 2 F (a0 :: a1 :: some (.ref i) :: L) S h = F (a0 :: a1 :: some (.ref i) :: L) (.ref i :: S) h := rfl
theorem r_lload_2 : i_lload 2 F (a0 :: a1 :: some (.long u) :: L) S h = F (a0 :: a1 :: some (.long u) :: L) (.long u :: S) h := rfl
theorem r_iload_3 : i_iload 3 F (a0 :: a1 :: a2 :: some (.int x) :: L) S h = F (a0 :: a1 :: a2 :: some (.int x) :: L) (.int x :: S) h := rfl
theorem r_aload_3 : i_aload 3 F (a0 :: a1 :: a2 :: some (.ref i) :: L) S h = F (a0 :: a1 :: a2 :: some (.ref i) :: L) (.ref i :: S) h := rfl
theorem r_lload_3 : i_lload 3 F (a0 :: a1 :: a2 :: some (.long u) :: L) S h = F (a0 :: a1 :: a2 :: some (.long u) :: L) (.long u :: S) h := rfl
theorem r_iload_4 : i_iload 4 F (a0 :: a1 :: a2 :: a3 :: some (.int x) :: L) S h = F (a0 :: a1 :: a2 :: a3 :: some (.int x) :: L) (.int x :: S) h := rfl
theorem r_aload_4 : i_aload 4 F (a0 :: a1 :: a2 :: a3 :: some (.ref i) :: L) S h = F (a0 :: a1 :: a2 :: a3 :: some (.ref i) :: L) (.ref i :: S) h := rfl
theorem r_lload_4 : i_lload 4 F (a0 :: a1 :: a2 :: a3 :: some (.long u) :: L) S h = F (a0 :: a1 :: a2 :: a3 :: some (.long u) :: L) (.long u :: S) h := rfl
theorem r_iload_5 : i_iload 5 F (a0 :: a1 :: a2 :: a3 :: a4 :: some (.int x) :: L) S h = F (a0 :: a1 :: a2 :: a3 :: a4 :: some (.int x) :: L) (.int x :: S) h := rfl
theorem r_aload_5 : i_aload 5 F (a0 :: a1 :: a2 :: a3 :: a4 :: some (.ref i) :: L) S h = F (a0 :: a1 :: a2 :: a3 :: a4 :: some (.ref i) :: L) (.ref i :: S) h := rfl
theorem r_lload_5 : i_lload 5 F (a0 :: a1 :: a2 :: a3 :: a4 :: some (.long u) :: L) S h = F (a0 :: a1 :: a2 :: a3 :: a4 :: some (.long u) :: L) (.long u :: S) h := rfl
theorem r_iload_6 : i_iload 6 F (a0 :: a1 :: a2 :: a3 :: a4 :: a5 :: some (.int x) :: L) S h = F (a0 :: a1 :: a2 :: a3 :: a4 :: a5 :: some (.int x) :: L) (.int x :: S) h := rfl
theorem r_aload_6 : i_aload 6 F (a0 :: a1 :: a2 :: a3 :: a4 :: a5 :: some (.ref i) :: L) S h = F (a0 :: a1 :: a2 :: a3 :: a4 :: a5 :: some (.ref i) :: L) (.ref i :: S) h := rfl
theorem r_lload_6 : i_lload 6 F (a0 :: a1 :: a2 :: a3 :: a4 :: a5 :: some (.long u) :: L) S h = F (a0 :: a1 :: a2 :: a3 :: a4 :: a5 :: some (.long u) :: L) (.long u :: S) h := rfl
theorem r_iload_7 : i_iload 7 F (a0 :: a1 :: a2 :: a3 :: a4 :: a5 :: a6 :: some (.int x) :: L) S h = F (a0 :: a1 :: a2 :: a3 :: a4 :: a5 :: a6 :: some (.int x) :: L) (.int x :: S) h := rfl
theorem r_aload_7 : i_aload 7 F (a0 :: a1 :: a2 :: a3 :: a4 :: a5 :: a6 :: some (.ref i) :: L) S h = F (a0 :: a1 :: a2 :: a3 :: a4 :: a5 :: a6 :: some (.ref i) :: L) (.ref i :: S) h := rfl
theorem r_lload_7 : i_lload 7 F (a0 :: a1 :: a2 :: a3 :: a4 :: a5 :: a6 :: some (.long u) :: L) S h = F (a0 :: a1 :: a2 :: a3 :: a4 :: a5 :: a6 :: some (.long u) :: L) (.long u :: S) h := rfl
theorem r_iload_8 : i_iload 8 F (a0 :: a1 :: a2 :: a3 :: a4 :: a5 :: a6 :: a7 :: some (.int x) :: L) S h = F (a0 :: a1 :: a2 :: a3 :: a4 :: a5 :: a6 :: a7 :: some (.int x) :: L) (.int x :: S) h := rfl
theorem r_aload_8 : i_aload 8 F (a0 :: a1 :: a2 :: a3 :: a4 :: a5 :: a6 :: a7 :: some (.ref i) :: L) S h = F (a0 :: a1 :: a2 :: a3 :: a4 :: a5 :: a6 :: a7 :: some (.ref i) :: L) (.ref i :: S) h := rfl
theorem r_lload_8 : i_lload 8 F (a0 :: a1 :: a2 :: a3 :: a4 :: a5 :: a6 :: a7 :: some (.long u) :: L) S h = F (a0 :: a1 :: a2 :: a3 :: a4 :: a5 :: a6 :: a7 :: some (.long u) :: L) (.long u :: S) h := rfl
theorem r_istore_00 : i_istore 0 F (a0 :: L) (.int x :: S) h = F (some (.int x) :: L) S h := by simp [i_istore, lgAt]
theorem r_astore_00 : i_astore 0 F (a0 :: L) (.ref i :: S) h = F (some (.ref i) :: L) S h := by simp [i_astore, lgAt]
theorem r_iinc_00 : i_iinc 0 y F (some (.int x) :: L) S h = F (some (.int (x + y)) :: L) S h := by simp [i_iinc, lgAt]
theorem r_lstore_00 : i_lstore 0 F (a0 :: a9 :: L) (.long u :: S) h = F (some (.long u) :: none :: L) S h := by simp [i_lstore, lgAt]
theorem r_istore_1i : i_istore 1 F (some (.int y) :: a1 :: L) (.int x :: S) h = F (some (.int y) :: some (.int x) :: L) S h := by simp [i_istore, lgAt]
theorem r_astore_1i : i_astore 1 F (some (.int y) :: a1 :: L) (.ref i :: S) h = F (some (.int y) :: some (.ref i) :: L) S h := by simp [i_astore, lgAt]
theorem r_iinc_1i {z : Int32} : i_iinc 1 y F (some (.int z) :: some (.int x) :: L) S h = F (some (.int z) :: some (.int (x + y)) :: L) S h := by simp [i_iinc, lgAt]
theorem r_lstore_1i : i_lstore 1 F (some (.int y) :: a1 :: a9 :: L) (.long u :: S) h = F (some (.int y) :: some (.long u) :: none :: L) S h := by simp [i_lstore, lgAt]
theorem r_istore_1r : i_istore 1 F (some (.ref j) :: a1 :: L) (.int x :: S) h = F (some (.ref j) :: some (.int x) :: L) S h := by simp [i_istore, lgAt]
theorem r_astore_1r : i_astore 1 F (some (.ref j) :: a1 :: L) (.ref i :: S) h = F (some (.ref j) :: some (.ref i) :: L) S h := by simp [i_astore, lgAt]
theorem r_iinc_1r : i_iinc 1 y F (some (.ref j) :: some (.int x) :: L) S h = F (some (.ref j) :: some (.int (x + y)) :: L) S h := by simp [i_iinc, lgAt]
theorem r_lstore_1r : i_lstore 1 F (some (.ref j) :: a1 :: a9 :: L) (.long u :: S) h = F (some (.ref j) :: some (.long u) :: none :: L) S h := by simp [i_lstore, lgAt]
theorem r_istore_1n : i_istore 1 F (none :: a1 :: L) (.int x :: S) h = F (none :: some (.int x) :: L) S h := by simp [i_istore, lgAt]
theorem r_astore_1n : i_astore 1 F (none :: a1 :: L) (.ref i :: S) h = F (none :: some (.ref i) :: L) S h := by simp [i_astore, lgAt]
theorem r_iinc_1n : i_iinc 1 y F (none :: some (.int x) :: L) S h = F (none :: some (.int (x + y)) :: L) S h := by simp [i_iinc, lgAt]
theorem r_lstore_1n : i_lstore 1 F (none :: a1 :: a9 :: L) (.long u :: S) h = F (none :: some (.long u) :: none :: L) S h := by simp [i_lstore, lgAt]
theorem r_istore_1z : i_istore 1 F (some .null :: a1 :: L) (.int x :: S) h = F (some .null :: some (.int x) :: L) S h := by simp [i_istore, lgAt]
theorem r_astore_1z : i_astore 1 F (some .null :: a1 :: L) (.ref i :: S) h = F (some .null :: some (.ref i) :: L) S h := by simp [i_astore, lgAt]
theorem r_iinc_1z : i_iinc 1 y F (some .null :: some (.int x) :: L) S h = F (some .null :: some (.int (x + y)) :: L) S h := by simp [i_iinc, lgAt]
theorem r_lstore_1z : i_lstore 1 F (some .null :: a1 :: a9 :: L) (.long u :: S) h = F (some .null :: some (.long u) :: none :: L) S h := by simp [i_lstore, lgAt]
theorem r_istore_2i : i_istore 2 F (a0 :: some (.int y) :: a2 :: L) (.int x :: S) h = F (a0 :: some (.int y) :: some (.int x) :: L) S h := by simp [i_istore, lgAt]
theorem r_astore_2i : i_astore 2 F (a0 :: some (.int y) :: a2 :: L) (.ref i :: S) h = F (a0 :: some (.int y) :: some (.ref i) :: L) S h := by simp [i_astore, lgAt]
theorem r_iinc_2i {z : Int32} : i_iinc 2 y F (a0 :: some (.int z) :: some (.int x) :: L) S h = F (a0 :: some (.int z) :: some (.int (x + y)) :: L) S h := by simp [i_iinc, lgAt]
theorem r_lstore_2i : i_lstore 2 F (a0 :: some (.int y) :: a2 :: a9 :: L) (.long u :: S) h = F (a0 :: some (.int y) :: some (.long u) :: none :: L) S h := by simp [i_lstore, lgAt]
theorem r_istore_2r : i_istore 2 F (a0 :: some (.ref j) :: a2 :: L) (.int x :: S) h = F (a0 :: some (.ref j) :: some (.int x) :: L) S h := by simp [i_istore, lgAt]
theorem r_astore_2r : i_astore 2 F (a0 :: some (.ref j) :: a2 :: L) (.ref i :: S) h = F (a0 :: some (.ref j) :: some (.ref i) :: L) S h := by simp [i_astore, lgAt]
theorem r_iinc_2r : i_iinc 2 y F (a0 :: some (.ref j) :: some (.int x) :: L) S h = F (a0 :: some (.ref j) :: some (.int (x + y)) :: L) S h := by simp [i_iinc, lgAt]
theorem r_lstore_2r : i_lstore 2 F (a0 :: some (.ref j) :: a2 :: a9 :: L) (.long u :: S) h = F (a0 :: some (.ref j) :: some (.long u) :: none :: L) S h := by simp [i_lstore, lgAt]
theorem r_istore_2n : i_istore 2 F (a0 :: none :: a2 :: L) (.int x :: S) h = F (a0 :: none :: some (.int x) :: L) S h := by simp [i_istore, lgAt]
theorem r_astore_2n : i_astore 2 F (a0 :: none :: a2 :: L) (.ref i :: S) h = F (a0 :: none :: some (.ref i) :: L) S h := by simp [i_astore, lgAt]
theorem r_iinc_2n : i_iinc 2 y F (a0 :: none :: some (.int x) :: L) S h = F (a0 :: none :: some (.int (x + y)) :: L) S h := by simp [i_iinc, lgAt]
theorem r_lstore_2n : i_lstore 2 F (a0 :: none :: a2 :: a9 :: L) (.long u :: S) h = F (a0 :: none :: some (.long u) :: none :: L) S h := by simp [i_lstore, lgAt]
theorem r_istore_2z : i_istore 2 F (a0 :: some .null :: a2 :: L) (.int x :: S) h = F (a0 :: some .null :: some (.int x) :: L) S h := by simp [i_istore, lgAt]
theorem r_astore_2z : i_astore 2 F (a0 :: some .null :: a2 :: L) (.ref i :: S) h = F (a0 :: some .null :: some (.ref i) :: L) S h := by simp [i_astore, lgAt]
theorem r_iinc_2z : i_iinc 2 y F (a0 :: some .null :: some (.int x) :: L) S h = F (a0 :: some .null :: some (.int (x + y)) :: L) S h := by simp [i_iinc, lgAt]
theorem r_lstore_2z : i_lstore 2 F (a0 :: some .null :: a2 :: a9 :: L) (.long u :: S) h = F (a0 :: some .null :: some (.long u) :: none :: L) S h := by simp [i_lstore, lgAt]
theorem r_istore_3i : i_istore 3 F (a0 :: a1 :: some (.int y) :: a3 :: L) (.int x :: S) h = F (a0 :: a1 :: some (.int y) :: some (.int x) :: L) S h := by simp [i_istore, lgAt]
theorem r_astore_3i : i_astore 3 F (a0 :: a1 :: some (.int y) :: a3 :: L) (.ref i :: S) h = F (a0 :: a1 :: some (.int y) :: some (.ref i) :: L) S h := by simp [i_astore, lgAt]
theorem r_iinc_3i {z : Int32} : i_iinc 3 y F (a0 :: a1 :: some (.int z) :: some (.int x) :: L) S h = F (a0 :: a1 :: some (.int z) :: some (.int (x + y)) :: L) S h := by simp [i_iinc, lgAt]
theorem r_lstore_3i : i_lstore 3 F (a0 :: a1 :: some (.int y) :: a3 :: a9 :: L) (.long u :: S) h = F (a0 :: a1 :: some (.int y) :: some (.long u) :: none :: L) S h := by simp [i_lstore, lgAt]
theorem r_istore_3r : i_istore 3 F (a0 :: a1 :: some (.ref j) :: a3 :: L) (.int x :: S) h = F (a0 :: a1 :: some (.ref j) :: some (.int x) :: L) S h := by simp [i_istore, lgAt]
theorem r_astore_3r : i_astore 3 F (a0 :: a1 :: some (.ref j) :: a3 :: L) (.ref i :: S) h = F (a0 :: a1 :: some (.ref j) :: some (.ref i) :: L) S h := by simp [i_astore, lgAt]
theorem r_iinc_3r : i_iinc 3 y F (a0 :: a1 :: some (.ref j) :: some (.int x) :: L) S h = F (a0 :: a1 :: some (.ref j) :: some (.int (x + y)) :: L) S h := by simp [i_iinc, lgAt]
theorem r_lstore_3r : i_lstore 3 F (a0 :: a1 :: some (.ref j) :: a3 :: a9 :: L) (.long u :: S) h = F (a0 :: a1 :: some (.ref j) :: some (.long u) :: none :: L) S h := by simp [i_lstore, lgAt]
theorem r_istore_3n : i_istore 3 F (a0 :: a1 :: none :: a3 :: L) (.int x :: S) h = F (a0 :: a1 :: none :: some (.int x) :: L) S h := by simp [i_istore, lgAt]
theorem r_astore_3n : i_astore 3 F (a0 :: a1 :: none :: a3 :: L) (.ref i :: S) h = F (a0 :: a1 :: none :: some (.ref i) :: L) S h := by simp [i_astore, lgAt]
theorem r_iinc_3n : i_iinc 3 y F (a0 :: a1 :: none :: some (.int x) :: L) S h = F (a0 :: a1 :: none :: some (.int (x + y)) :: L) S h := by simp [i_iinc, lgAt]
theorem r_lstore_3n : i_lstore 3 F (a0 :: a1 :: none :: a3 :: a9 :: L) (.long u :: S) h = F (a0 :: a1 :: none :: some (.long u) :: none :: L) S h := by simp [i_lstore, lgAt]
theorem r_istore_3z : i_istore 3 F (a0 :: a1 :: some .null :: a3 :: L) (.int x :: S) h = F (a0 :: a1 :: some .null :: some (.int x) :: L) S h := by simp [i_istore, lgAt]
theorem r_astore_3z : i_astore 3 F (a0 :: a1 :: some .null :: a3 :: L) (.ref i :: S) h = F (a0 :: a1 :: some .null :: some (.ref i) :: L) S h := by simp [i_astore, lgAt]
theorem r_iinc_3z : i_iinc 3 y F (a0 :: a1 :: some .null :: some (.int x) :: L) S h = F (a0 :: a1 :: some .null :: some (.int (x + y)) :: L) S h := by simp [i_iinc, lgAt]
theorem r_lstore_3z : i_lstore 3 F (a0 :: a1 :: some .null :: a3 :: a9 :: L) (.long u :: S) h = F (a0 :: a1 :: some .null :: some (.long u) :: none :: L) S h := by simp [i_lstore, lgAt]
theorem r_istore_4i : i_istore 4 F (a0 :: a1 :: a2 :: some (.int y) :: a4 :: L) (.int x :: S) h = F (a0 :: a1 :: a2 :: some (.int y) :: some (.int x) :: L) S h := by simp [i_istore, lgAt]
theorem r_astore_4i : i_astore 4 F (a0 :: a1 :: a2 :: some (.int y) :: a4 :: L) (.ref i :: S) h = F (a0 :: a1 :: a2 :: some (.int y) :: some (.ref i) :: L) S h := by simp [i_astore, lgAt]
theorem r_iinc_4i {z : Int32} : i_iinc 4 y F (a0 :: a1 :: a2 :: some (.int z) :: some (.int x) :: L) S h = F (a0 :: a1 :: a2 :: some (.int z) :: some (.int (x + y)) :: L) S h := by simp [i_iinc, lgAt]
theorem r_lstore_4i : i_lstore 4 F (a0 :: a1 :: a2 :: some (.int y) :: a4 :: a9 :: L) (.long u :: S) h = F (a0 :: a1 :: a2 :: some (.int y) :: some (.long u) :: none :: L) S h := by simp [i_lstore, lgAt]
theorem r_istore_4r : i_istore 4 F (a0 :: a1 :: a2 :: some (.ref j) :: a4 :: L) (.int x :: S) h = F (a0 :: a1 :: a2 :: some (.ref j) :: some (.int x) :: L) S h := by simp [i_istore, lgAt]
theorem r_astore_4r : i_astore 4 F (a0 :: a1 :: a2 :: some (.ref j) :: a4 :: L) (.ref i :: S) h = F (a0 :: a1 :: a2 :: some (.ref j) :: some (.ref i) :: L) S h := by simp [i_astore, lgAt]
theorem r_iinc_4r : i_iinc 4 y F (a0 :: a1 :: a2 :: some (.ref j) :: some (.int x) :: L) S h = F (a0 :: a1 :: a2 :: some (.ref j) :: some (.int (x + y)) :: L) S h := by simp [i_iinc, lgAt]
theorem r_lstore_4r : i_lstore 4 F (a0 :: a1 :: a2 :: some (.ref j) :: a4 :: a9 :: L) (.long u :: S) h = F (a0 :: a1 :: a2 :: some (.ref j) :: some (.long u) :: none :: L) S h := by simp [i_lstore, lgAt]
theorem r_istore_4n : i_istore 4 F (a0 :: a1 :: a2 :: none :: a4 :: L) (.int x :: S) h = F (a0 :: a1 :: a2 :: none :: some (.int x) :: L) S h := by simp [i_istore, lgAt]
theorem r_astore_4n : i_astore 4 F (a0 :: a1 :: a2 :: none :: a4 :: L) (.ref i :: S) h = F (a0 :: a1 :: a2 :: none :: some (.ref i) :: L) S h := by simp [i_astore, lgAt]
theorem r_iinc_4n : i_iinc 4 y F (a0 :: a1 :: a2 :: none :: some (.int x) :: L) S h = F (a0 :: a1 :: a2 :: none :: some (.int (x + y)) :: L) S h := by simp [i_iinc, lgAt]
theorem r_lstore_4n : i_lstore 4 F (a0 :: a1 :: a2 :: none :: a4 :: a9 :: L) (.long u :: S) h = F (a0 :: a1 :: a2 :: none :: some (.long u) :: none :: L) S h := by simp [i_lstore, lgAt]
theorem r_istore_4z : i_istore 4 F (a0 :: a1 :: a2 :: some .null :: a4 :: L) (.int x :: S) h = F (a0 :: a1 :: a2 :: some .null :: some (.int x) :: L) S h := by simp [i_istore, lgAt]
theorem r_astore_4z : i_astore 4 F (a0 :: a1 :: a2 :: some .null :: a4 :: L) (.ref i :: S) h = F (a0 :: a1 :: a2 :: some .null :: some (.ref i) :: L) S h := by simp [i_astore, lgAt]
theorem r_iinc_4z : i_iinc 4 y F (a0 :: a1 :: a2 :: some .null :: some (.int x) :: L) S h = F (a0 :: a1 :: a2 :: some .null :: some (.int (x + y)) :: L) S h := by simp [i_iinc, lgAt]
theorem r_lstore_4z : i_lstore 4 F (a0 :: a1 :: a2 :: some .null :: a4 :: a9 :: L) (.long u :: S) h = F (a0 :: a1 :: a2 :: some .null :: some (.long u) :: none :: L) S h := by simp [i_lstore, lgAt]
theorem r_istore_5i : i_istore 5 F (a0 :: a1 :: a2 :: a3 :: some (.int y) :: a5 :: L) (.int x :: S) h = F (a0 :: a1 :: a2 :: a3 :: some (.int y) :: some (.int x) :: L) S h := by simp [i_istore, lgAt]
theorem r_astore_5i : i_astore 5 F (a0 :: a1 :: a2 :: a3 :: some (.int y) :: a5 :: L) (.ref i :: S) h = F (a0 :: a1 :: a2 :: a3 :: some (.int y) :: some (.ref i) :: L) S h := by simp [i_astore, lgAt]
theorem r_iinc_5i {z : Int32} : i_iinc 5 y F (a0 :: a1 :: a2 :: a3 :: some (.int z) :: some (.int x) :: L) S h = F (a0 :: a1 :: a2 :: a3 :: some (.int z) :: some (.int (x + y)) :: L) S h := by simp [i_iinc, lgAt]
theorem r_lstore_5i : i_lstore 5 F (a0 :: a1 :: a2 :: a3 :: some (.int y) :: a5 :: a9 :: L) (.long u :: S) h = F (a0 :: a1 :: a2 :: a3 :: some (.int y) :: some (.long u) :: none :: L) S h := by simp [i_lstore, lgAt]
theorem r_istore_5r : i_istore 5 F (a0 :: a1 :: a2 :: a3 :: some (.ref j) :: a5 :: L) (.int x :: S) h = F (a0 :: a1 :: a2 :: a3 :: some (.ref j) :: some (.int x) :: L) S h := by simp [i_istore, lgAt]
theorem r_astore_5r : i_astore 5 F (a0 :: a1 :: a2 :: a3 :: some (.ref j) :: a5 :: L) (.ref i :: S) h = F (a0 :: a1 :: a2 :: a3 :: some (.ref j) :: some (.ref i) :: L) S h := by simp [i_astore, lgAt]
theorem r_iinc_5r : i_iinc 5 y F (a0 :: a1 :: a2 :: a3 :: some (.ref j) :: some (.int x) :: L) S h = F (a0 :: a1 :: a2 :: a3 :: some (.ref j) :: some (.int (x + y)) :: L) S h := by simp [i_iinc, lgAt]
theorem r_lstore_5r : i_lstore 5 F (a0 :: a1 :: a2 :: a3 :: some (.ref j) :: a5 :: a9 :: L) (.long u :: S) h = F (a0 :: a1 :: a2 :: a3 :: some (.ref j) :: some (.long u) :: none :: L) S h := by simp [i_lstore, lgAt]
theorem r_istore_5n : i_istore 5 F (a0 :: a1 :: a2 :: a3 :: none :: a5 :: L) (.int x :: S) h = F (a0 :: a1 :: a2 :: a3 :: none :: some (.int x) :: L) S h := by simp [i_istore, lgAt]
theorem r_astore_5n : i_astore 5 F (a0 :: a1 :: a2 :: a3 :: none :: a5 :: L) (.ref i :: S) h = F (a0 :: a1 :: a2 :: a3 :: none :: some (.ref i) :: L) S h := by simp [i_astore, lgAt]
theorem r_iinc_5n : i_iinc 5 y F (a0 :: a1 :: a2 :: a3 :: none :: some (.int x) :: L) S h = F (a0 :: a1 :: a2 :: a3 :: none :: some (.int (x + y)) :: L) S h := by simp [i_iinc, lgAt]
theorem r_lstore_5n : i_lstore 5 F (a0 :: a1 :: a2 :: a3 :: none :: a5 :: a9 :: L) (.long u :: S) h = F (a0 :: a1 :: a2 :: a3 :: none :: some (.long u) :: none :: L) S h := by simp [i_lstore, lgAt]
theorem r_istore_5z : i_istore 5 F (a0 :: a1 :: a2 :: a3 :: some .null :: a5 :: L) (.int x :: S) h = F (a0 :: a1 :: a2 :: a3 :: some .null :: some (.int x) :: L) S h := by simp [i_istore, lgAt]
theorem r_astore_5z : i_astore 5 F (a0 :: a1 :: a2 :: a3 :: some .null :: a5 :: L) (.ref i :: S) h = F (a0 :: a1 :: a2 :: a3 :: some .null :: some (.ref i) :: L) S h := by simp [i_astore, lgAt]
theorem r_iinc_5z : i_iinc 5 y F (a0 :: a1 :: a2 :: a3 :: some .null :: some (.int x) :: L) S h = F (a0 :: a1 :: a2 :: a3 :: some .null :: some (.int (x + y)) :: L) S h := by simp [i_iinc, lgAt]
theorem r_lstore_5z : i_lstore 5 F (a0 :: a1 :: a2 :: a3 :: some .null :: a5 :: a9 :: L) (.long u :: S) h = F (a0 :: a1 :: a2 :: a3 :: some .null :: some (.long u) :: none :: L) S h := by simp [i_lstore, lgAt]
theorem r_istore_6i : i_istore 6 F (a0 :: a1 :: a2 :: a3 :: a4 :: some (.int y) :: a6 :: L) (.int x :: S) h = F (a0 :: a1 :: a2 :: a3 :: a4 :: some (.int y) :: some (.int x) :: L) S h := by simp [i_istore, lgAt]
theorem r_astore_6i : i_astore 6 F (a0 :: a1 :: a2 :: a3 :: a4 :: some (.int y) :: a6 :: L) (.ref i :: S) h = F (a0 :: a1 :: a2 :: a3 :: a4 :: some (.int y) :: some (.ref i) :: L) S h := by simp [i_astore, lgAt]
theorem r_iinc_6i {z : Int32} : i_iinc 6 y F (a0 :: a1 :: a2 :: a3 :: a4 :: some (.int z) :: some (.int x) :: L) S h = F (a0 :: a1 :: a2 :: a3 :: a4 :: some (.int z) :: some (.int (x + y)) :: L) S h := by simp [i_iinc, lgAt]
theorem r_lstore_6i : i_lstore 6 F (a0 :: a1 :: a2 :: a3 :: a4 :: some (.int y) :: a6 :: a9 :: L) (.long u :: S) h = F (a0 :: a1 :: a2 :: a3 :: a4 :: some (.int y) :: some (.long u) :: none :: L) S h := by simp [i_lstore, lgAt]
theorem r_istore_6r : i_istore 6 F (a0 :: a1 :: a2 :: a3 :: a4 :: some (.ref j) :: a6 :: L) (.int x :: S) h = F (a0 :: a1 :: a2 :: a3 :: a4 :: some (.ref j) :: some (.int x) :: L) S h := by simp [i_istore, lgAt]
theorem r_astore_6r : i_astore 6 F (a0 :: a1 :: a2 :: a3 :: a4 :: some (.ref j) :: a6 :: L) (.ref i :: S) h = F (a0 :: a1 :: a2 :: a3 :: a4 :: some (.ref j) :: some (.ref i) :: L) S h := by simp [i_astore, lgAt]
theorem r_iinc_6r : i_iinc 6 y F (a0 :: a1 :: a2 :: a3 :: a4 :: some (.ref j) :: some (.int x) :: L) S h = F (a0 :: a1 :: a2 :: a3 :: a4 :: some (.ref j) :: some (.int (x + y)) :: L) S h := by simp [i_iinc, lgAt]
theorem r_lstore_6r : i_lstore 6 F (a0 :: a1 :: a2 :: a3 :: a4 :: some (.ref j) :: a6 :: a9 :: L) (.long u :: S) h = F (a0 :: a1 :: a2 :: a3 :: a4 :: some (.ref j) :: some (.long u) :: none :: L) S h := by simp [i_lstore, lgAt]
theorem r_istore_6n : i_istore 6 F (a0 :: a1 :: a2 :: a3 :: a4 :: none :: a6 :: L) (.int x :: S) h = F (a0 :: a1 :: a2 :: a3 :: a4 :: none :: some (.int x) :: L) S h := by simp [i_istore, lgAt]
theorem r_astore_6n : i_astore 6 F (a0 :: a1 :: a2 :: a3 :: a4 :: none :: a6 :: L) (.ref i :: S) h = F (a0 :: a1 :: a2 :: a3 :: a4 :: none :: some (.ref i) :: L) S h := by simp [i_astore, lgAt]
theorem r_iinc_6n : i_iinc 6 y F (a0 :: a1 :: a2 :: a3 :: a4 :: none :: some (.int x) :: L) S h = F (a0 :: a1 :: a2 :: a3 :: a4 :: none :: some (.int (x + y)) :: L) S h := by simp [i_iinc, lgAt]
theorem r_lstore_6n : i_lstore 6 F (a0 :: a1 :: a2 :: a3 :: a4 :: none :: a6 :: a9 :: L) (.long u :: S) h = F (a0 :: a1 :: a2 :: a3 :: a4 :: none :: some (.long u) :: none :: L) S h := by simp [i_lstore, lgAt]
theorem r_istore_6z : i_istore 6 F (a0 :: a1 :: a2 :: a3 :: a4 :: some .null :: a6 :: L) (.int x :: S) h = F (a0 :: a1 :: a2 :: a3 :: a4 :: some .null :: some (.int x) :: L) S h := by simp [i_istore, lgAt]
theorem r_astore_6z : i_astore 6 F (a0 :: a1 :: a2 :: a3 :: a4 :: some .null :: a6 :: L) (.ref i :: S) h = F (a0 :: a1 :: a2 :: a3 :: a4 :: some .null :: some (.ref i) :: L) S h := by simp [i_astore, lgAt]
theorem r_iinc_6z : i_iinc 6 y F (a0 :: a1 :: a2 :: a3 :: a4 :: some .null :: some (.int x) :: L) S h = F (a0 :: a1 :: a2 :: a3 :: a4 :: some .null :: some (.int (x + y)) :: L) S h := by simp [i_iinc, lgAt]
theorem r_lstore_6z : i_lstore 6 F (a0 :: a1 :: a2 :: a3 :: a4 :: some .null :: a6 :: a9 :: L) (.long u :: S) h = F (a0 :: a1 :: a2 :: a3 :: a4 :: some .null :: some (.long u) :: none :: L) S h := by simp [i_lstore, lgAt]
theorem r_istore_7i : i_istore 7 F (a0 :: a1 :: a2 :: a3 :: a4 :: a5 :: some (.int y) :: a7 :: L) (.int x :: S) h = F (a0 :: a1 :: a2 :: a3 :: a4 :: a5 :: some (.int y) :: some (.int x) :: L) S h := by simp [i_istore, lgAt]
theorem r_astore_7i : i_astore 7 F (a0 :: a1 :: a2 :: a3 :: a4 :: a5 :: some (.int y) :: a7 :: L) (.ref i :: S) h = F (a0 :: a1 :: a2 :: a3 :: a4 :: a5 :: some (.int y) :: some (.ref i) :: L) S h := by simp [i_astore, lgAt]
theorem r_iinc_7i {z : Int32} : i_iinc 7 y F (a0 :: a1 :: a2 :: a3 :: a4 :: a5 :: some (.int z) :: some (.int x) :: L) S h = F (a0 :: a1 :: a2 :: a3 :: a4 :: a5 :: some (.int z) :: some (.int (x + y)) :: L) S h := by simp [i_iinc, lgAt]
theorem r_lstore_7i : i_lstore 7 F (a0 :: a1 :: a2 :: a3 :: a4 :: a5 :: some (.int y) :: a7 :: a9 :: L) (.long u :: S) h = F (a0 :: a1 :: a2 :: a3 :: a4 :: a5 :: some (.int y) :: some (.long u) :: none :: L) S h := by simp [i_lstore, lgAt]
theorem r_istore_7r : i_istore 7 F (a0 :: a1 :: a2 :: a3 :: a4 :: a5 :: some (.ref j) :: a7 :: L) (.int x :: S) h = F (a0 :: a1 :: a2 :: a3 :: a4 :: a5 :: some (.ref j) :: some (.int x) :: L) S h := by simp [i_istore, lgAt]
theorem r_astore_7r : i_astore 7 F (a0 :: a1 :: a2 :: a3 :: a4 :: a5 :: some (.ref j) :: a7 :: L) (.ref i :: S) h = F (a0 :: a1 :: a2 :: a3 :: a4 :: a5 :: some (.ref j) :: some (.ref i) :: L) S h := by simp [i_astore, lgAt]
theorem r_iinc_7r : i_iinc 7 y F (a0 :: a1 :: a2 :: a3 :: a4 :: a5 :: some (.ref j) :: some (.int x) :: L) S h = F (a0 :: a1 :: a2 :: a3 :: a4 :: a5 :: some (.ref j) :: some (.int (x + y)) :: L) S h := by simp [i_iinc, lgAt]
theorem r_lstore_7r : i_lstore 7 F (a0 :: a1 :: a2 :: a3 :: a4 :: a5 :: some (.ref j) :: a7 :: a9 :: L) (.long u :: S) h = F (a0 :: a1 :: a2 :: a3 :: a4 :: a5 :: some (.ref j) :: some (.long u) :: none :: L) S h := by simp [i_lstore, lgAt]
theorem r_istore_7n : i_istore 7 F (a0 :: a1 :: a2 :: a3 :: a4 :: a5 :: none :: a7 :: L) (.int x :: S) h = F (a0 :: a1 :: a2 :: a3 :: a4 :: a5 :: none :: some (.int x) :: L) S h := by simp [i_istore, lgAt]
theorem r_astore_7n : i_astore 7 F (a0 :: a1 :: a2 :: a3 :: a4 :: a5 :: none :: a7 :: L) (.ref i :: S) h = F (a0 :: a1 :: a2 :: a3 :: a4 :: a5 :: none :: some (.ref i) :: L) S h := by simp [i_astore, lgAt]
theorem r_iinc_7n : i_iinc 7 y F (a0 :: a1 :: a2 :: a3 :: a4 :: a5 :: none :: some (.int x) :: L) S h = F (a0 :: a1 :: a2 :: a3 :: a4 :: a5 :: none :: some (.int (x + y)) :: L) S h := by simp [i_iinc, lgAt]
theorem r_lstore_7n : i_lstore 7 F (a0 :: a1 :: a2 :: a3 :: a4 :: a5 :: none :: a7 :: a9 :: L) (.long u :: S) h = F (a0 :: a1 :: a2 :: a3 :: a4 :: a5 :: none :: some (.long u) :: none :: L) S h := by simp [i_lstore, lgAt]
theorem r_istore_7z : i_istore 7 F (a0 :: a1 :: a2 :: a3 :: a4 :: a5 :: some .null :: a7 :: L) (.int x :: S) h = F (a0 :: a1 :: a2 :: a3 :: a4 :: a5 :: some .null :: some (.int x) :: L) S h := by simp [i_istore, lgAt]
theorem r_astore_7z : i_astore 7 F (a0 :: a1 :: a2 :: a3 :: a4 :: a5 :: some .null :: a7 :: L) (.ref i :: S) h = F (a0 :: a1 :: a2 :: a3 :: a4 :: a5 :: some .null :: some (.ref i) :: L) S h := by simp [i_astore, lgAt]
theorem r_iinc_7z : i_iinc 7 y F (a0 :: a1 :: a2 :: a3 :: a4 :: a5 :: some .null :: some (.int x) :: L) S h = F (a0 :: a1 :: a2 :: a3 :: a4 :: a5 :: some .null :: some (.int (x + y)) :: L) S h := by simp [i_iinc, lgAt]
theorem r_lstore_7z : i_lstore 7 F (a0 :: a1 :: a2 :: a3 :: a4 :: a5 :: some .null :: a7 :: a9 :: L) (.long u :: S) h = F (a0 :: a1 :: a2 :: a3 :: a4 :: a5 :: some .null :: some (.long u) :: none :: L) S h := by simp [i_lstore, lgAt]
theorem r_istore_8i : i_istore 8 F (a0 :: a1 :: a2 :: a3 :: a4 :: a5 :: a6 :: some (.int y) :: a8 :: L) (.int x :: S) h = F (a0 :: a1 :: a2 :: a3 :: a4 :: a5 :: a6 :: some (.int y) :: some (.int x) :: L) S h := by simp [i_istore, lgAt]
theorem r_astore_8i : i_astore 8 F (a0 :: a1 :: a2 :: a3 :: a4 :: a5 :: a6 :: some (.int y) :: a8 :: L) (.ref i :: S) h = F (a0 :: a1 :: a2 :: a3 :: a4 :: a5 :: a6 :: some (.int y) :: some (.ref i) :: L) S h := by simp [i_astore, lgAt]
theorem r_iinc_8i {z : Int32} : i_iinc 8 y F (a0 :: a1 :: a2 :: a3 :: a4 :: a5 :: a6 :: some (.int z) :: some (.int x) :: L) S h = F (a0 :: a1 :: a2 :: a3 :: a4 :: a5 :: a6 :: some (.int z) :: some (.int (x + y)) :: L) S h := by simp [i_iinc, lgAt]
theorem r_istore_8r : i_istore 8 F (a0 :: a1 :: a2 :: a3 :: a4 :: a5 :: a6 :: some (.ref j) :: a8 :: L) (.int x :: S) h = F (a0 :: a1 :: a2 :: a3 :: a4 :: a5 :: a6 :: some (.ref j) :: some (.int x) :: L) S h := by simp [i_istore, lgAt]
theorem r_astore_8r : i_astore 8 F (a0 :: a1 :: a2 :: a3 :: a4 :: a5 :: a6 :: some (.ref j) :: a8 :: L) (.ref i :: S) h = F (a0 :: a1 :: a2 :: a3 :: a4 :: a5 :: a6 :: some (.ref j) :: some (.ref i) :: L) S h := by simp [i_astore, lgAt]
theorem r_iinc_8r : i_iinc 8 y F (a0 :: a1 :: a2 :: a3 :: a4 :: a5 :: a6 :: some (.ref j) :: some (.int x) :: L) S h = F (a0 :: a1 :: a2 :: a3 :: a4 :: a5 :: a6 :: some (.ref j) :: some (.int (x + y)) :: L) S h := by simp [i_iinc, lgAt]
theorem r_istore_8n : i_istore 8 F (a0 :: a1 :: a2 :: a3 :: a4 :: a5 :: a6 :: none :: a8 :: L) (.int x :: S) h = F (a0 :: a1 :: a2 :: a3 :: a4 :: a5 :: a6 :: none :: some (.int x) :: L) S h := by simp [i_istore, lgAt]
theorem r_astore_8n : i_astore 8 F (a0 :: a1 :: a2 :: a3 :: a4 :: a5 :: a6 :: none :: a8 :: L) (.ref i :: S) h = F (a0 :: a1 :: a2 :: a3 :: a4 :: a5 :: a6 :: none :: some (.ref i) :: L) S h := by simp [i_astore, lgAt]
theorem r_iinc_8n : i_iinc 8 y F (a0 :: a1 :: a2 :: a3 :: a4 :: a5 :: a6 :: none :: some (.int x) :: L) S h = F (a0 :: a1 :: a2 :: a3 :: a4 :: a5 :: a6 :: none :: some (.int (x + y)) :: L) S h := by simp [i_iinc, lgAt]
theorem r_istore_8z : i_istore 8 F (a0 :: a1 :: a2 :: a3 :: a4 :: a5 :: a6 :: some .null :: a8 :: L) (.int x :: S) h = F (a0 :: a1 :: a2 :: a3 :: a4 :: a5 :: a6 :: some .null :: some (.int x) :: L) S h := by simp [i_istore, lgAt]
theorem r_astore_8z : i_astore 8 F (a0 :: a1 :: a2 :: a3 :: a4 :: a5 :: a6 :: some .null :: a8 :: L) (.ref i :: S) h = F (a0 :: a1 :: a2 :: a3 :: a4 :: a5 :: a6 :: some .null :: some (.ref i) :: L) S h := by simp [i_astore, lgAt]
theorem r_iinc_8z : i_iinc 8 y F (a0 :: a1 :: a2 :: a3 :: a4 :: a5 :: a6 :: some .null :: some (.int x) :: L) S h = F (a0 :: a1 :: a2 :: a3 :: a4 :: a5 :: a6 :: some .null :: some (.int (x + y)) :: L) S h := by simp [i_iinc, lgAt]
theorem r_bin {f : Int32 → Int32 → Int32} : i_bin f F L (.int y :: .int x :: S) h = F L (.int (f x y) :: S) h := rfl
theorem r_lbin {f : Int64 → Int64 → Int64} : i_lbin f F L (.long v :: .long u :: S) h = F L (.long (f u v) :: S) h := rfl
theorem r_div {f : Int32 → Int32 → Int32} : i_div f F L (.int y :: .int x :: S) h = if y = 0 then none else F L (.int (f x y) :: S) h := rfl
theorem r_ineg : i_ineg F L (.int x :: S) h = F L (.int (-x) :: S) h := rfl
theorem r_i2l : i_i2l F L (.int x :: S) h = F L (.long x.toInt64 :: S) h := rfl
theorem r_i2b : i_i2b F L (.int x :: S) h = F L (.int x.toInt8.toInt32 :: S) h := rfl
theorem r_i2c : i_i2c F L (.int x :: S) h = F L (.int (x.toUInt32 % 65536).toInt32 :: S) h := rfl
theorem r_lcmp : i_lcmp F L (.long v :: .long u :: S) h = F L (.int (lg_cmp u v) :: S) h := rfl
theorem r_dup_i : i_dup F L (.int x :: S) h = F L (.int x :: .int x :: S) h := rfl
theorem r_dup_r : i_dup F L (.ref i :: S) h = F L (.ref i :: .ref i :: S) h := rfl
theorem r_pop_i : i_pop F L (.int x :: S) h = F L S h := rfl
theorem r_pop_r : i_pop F L (.ref i :: S) h = F L S h := rfl
theorem r_dup2 : i_dup2 F L (.int x :: .ref i :: S) h = F L (.int x :: .ref i :: .int x :: .ref i :: S) h := rfl
theorem r_ifeq : i_ifeq F G L (.int x :: S) h = if x = 0 then F L S h else G L S h := rfl
theorem r_iceq : i_iceq F G L (.int y :: .int x :: S) h = if x = y then F L S h else G L S h := rfl
theorem r_iflt : i_iflt F G L (.int x :: S) h = if x < 0 then F L S h else G L S h := rfl
theorem r_iclt : i_iclt F G L (.int y :: .int x :: S) h = if x < y then F L S h else G L S h := rfl
theorem r_ifge : i_ifge F G L (.int x :: S) h = if 0 ≤ x then F L S h else G L S h := rfl
theorem r_icge : i_icge F G L (.int y :: .int x :: S) h = if y ≤ x then F L S h else G L S h := rfl
theorem r_ifgt : i_ifgt F G L (.int x :: S) h = if 0 < x then F L S h else G L S h := rfl
theorem r_icgt : i_icgt F G L (.int y :: .int x :: S) h = if y < x then F L S h else G L S h := rfl
theorem r_ifle : i_ifle F G L (.int x :: S) h = if x ≤ 0 then F L S h else G L S h := rfl
theorem r_icle : i_icle F G L (.int y :: .int x :: S) h = if x ≤ y then F L S h else G L S h := rfl
theorem r_ifne : i_ifne F G L (.int x :: S) h = if x = 0 then G L S h else F L S h := rfl
theorem r_icne : i_icne F G L (.int y :: .int x :: S) h = if x = y then G L S h else F L S h := rfl
theorem r_getI {ci k : Nat} : i_getI ci k F L (.ref i :: S) h = if sh i = (0, ci) ∧ i < gN h then F L ((.int (gI h i k)) :: S) h else none := rfl
theorem r_getL {ci k : Nat} : i_getL ci k F L (.ref i :: S) h = if sh i = (0, ci) ∧ i < gN h then F L ((.long (gL h i k)) :: S) h else none := rfl
theorem r_getR {ci k : Nat} : i_getR ci k F L (.ref i :: S) h = if sh i = (0, ci) ∧ i < gN h then F L (rv (gR h i k) :: S) h else none := rfl
theorem r_putI {ci k : Nat} : i_putI ci k F L (.int x :: .ref i :: S) h = if sh i = (0, ci) ∧ i < gN h then F L S (sI h i k x) else none := rfl
theorem r_putZ {ci k : Nat} : i_putZ ci k F L (.int x :: .ref i :: S) h = if (x = 0 ∨ x = 1) ∧ sh i = (0, ci) ∧ i < gN h then F L S (sI h i k x) else none := rfl
theorem r_putL {ci k : Nat} : i_putL ci k F L (.long u :: .ref i :: S) h = if sh i = (0, ci) ∧ i < gN h then F L S (sL h i k u) else none := rfl
theorem r_putR {ci k : Nat} : i_putR ci k F L (.ref j :: .ref i :: S) h = if sh i = (0, ci) ∧ i < gN h then F L S (sR h i k (some j)) else none := rfl
theorem r_iaload : i_iaload F L (.int x :: .ref i :: S) h = if (sh i).1 = 1 ∧ i < gN h ∧ ¬ x < 0 ∧ x.toNatClampNeg < (sh i).2 then F L (.int (gI h i x.toNatClampNeg) :: S) h else none := rfl
theorem r_baload : i_baload F L (.int x :: .ref i :: S) h = if (sh i).1 = 2 ∧ i < gN h ∧ ¬ x < 0 ∧ x.toNatClampNeg < (sh i).2 then F L (.int (gI h i x.toNatClampNeg) :: S) h else none := rfl
theorem r_laload : i_laload F L (.int x :: .ref i :: S) h = if (sh i).1 = 3 ∧ i < gN h ∧ ¬ x < 0 ∧ x.toNatClampNeg < (sh i).2 then F L (.long (gL h i x.toNatClampNeg) :: S) h else none := rfl
theorem r_aaload : i_aaload F L (.int x :: .ref i :: S) h = if (sh i).1 = 4 ∧ i < gN h ∧ ¬ x < 0 ∧ x.toNatClampNeg < (sh i).2 then F L (rv (gR h i x.toNatClampNeg) :: S) h else none := rfl
theorem r_alen : i_alen F L (.ref i :: S) h = if ¬ (sh i).1 = 0 ∧ (sh i).1 < 5 ∧ i < gN h then F L (.int (Int32.ofNat (sh i).2) :: S) h else none := rfl
theorem r_iastore : i_iastore F L (.int y :: .int x :: .ref i :: S) h = if (sh i).1 = 1 ∧ i < gN h ∧ ¬ x < 0 ∧ x.toNatClampNeg < (sh i).2 then F L S (sI h i x.toNatClampNeg y) else none := rfl
theorem r_bastore : i_bastore F L (.int y :: .int x :: .ref i :: S) h = if (sh i).1 = 2 ∧ i < gN h ∧ ¬ x < 0 ∧ x.toNatClampNeg < (sh i).2 then F L S (sI h i x.toNatClampNeg y.toInt8.toInt32) else none := rfl
theorem r_lastore : i_lastore F L (.long u :: .int x :: .ref i :: S) h = if (sh i).1 = 3 ∧ i < gN h ∧ ¬ x < 0 ∧ x.toNatClampNeg < (sh i).2 then F L S (sL h i x.toNatClampNeg u) else none := rfl
theorem r_aastore : i_aastore F L (.ref j :: .int x :: .ref i :: S) h = if inB 1000 26 j = true ∧ (sh i).1 = 4 ∧ i < gN h ∧ gX h = 1 ∧ ¬ x < 0 ∧ x.toNatClampNeg < (sh i).2 then F L S (sR h i x.toNatClampNeg (some j)) else none := rfl
def cs (S : List Value) : Nat := (S.map fun v => v.category).sum
theorem cs_nil : cs [] = 0 := rfl
theorem cs_int : cs (.int x :: S) = 1 + cs S := rfl
theorem cs_ref : cs (.ref i :: S) = 1 + cs S := rfl
theorem cs_null : cs (.null :: S) = 1 + cs S := rfl
theorem cs_long : cs (.long u :: S) = 2 + cs S := rfl
theorem r_callS_0 {f : List Value → AH → Option Ou} : i_callS 0 f F L (S) h = if cs S ≤ 8 then i_after (f [] h) S F L else none := by simp [i_callS]; rfl
theorem r_callW_0 {f : List Value → AH → Option Ou} : i_callW 0 f F L (S) h = if cs S ≤ 8 then i_afterN (f [] h) S F L else none := by simp [i_callW]; rfl
theorem r_callV_0 {f : List Value → AH → Option Ou} {ci : Nat} : i_callV ci 0 f F L (.ref i :: S) h = if sh i = (0, ci) ∧ i < gN h ∧ cs S ≤ 8 then i_after (f [.ref i] h) S F L else none := by simp [i_callV]; rfl
theorem r_callVN_0 {f : List Value → AH → Option Ou} {ci : Nat} : i_callVN ci 0 f F L (.ref i :: S) h = if sh i = (0, ci) ∧ i < gN h ∧ cs S ≤ 8 then i_afterN (f [.ref i] h) S F L else none := by simp [i_callVN]; rfl
theorem r_callI_0 {f : List Value → AH → Option Ou} : i_callI 0 f F L (.ref i :: S) h = if cs S ≤ 8 then i_after (f [.ref i] h) S F L else none := by simp [i_callI]; rfl
theorem r_callIN_0 {f : List Value → AH → Option Ou} : i_callIN 0 f F L (.ref i :: S) h = if cs S ≤ 8 then i_afterN (f [.ref i] h) S F L else none := by simp [i_callIN]; rfl
theorem r_callT_0 {f : List Value → AH → Option Ou} : i_callT 0 f F L (.ref i :: S) h = if inB 2000 txN i = true ∧ cs S ≤ 8 then i_after (f [.ref i] h) S F L else none := by simp [i_callT]; rfl
theorem r_callS_1 {f : List Value → AH → Option Ou} : i_callS 1 f F L (w1 :: S) h = if cs S ≤ 8 then i_after (f [w1] h) S F L else none := by simp [i_callS]; rfl
theorem r_callW_1 {f : List Value → AH → Option Ou} : i_callW 1 f F L (w1 :: S) h = if cs S ≤ 8 then i_afterN (f [w1] h) S F L else none := by simp [i_callW]; rfl
theorem r_callV_1 {f : List Value → AH → Option Ou} {ci : Nat} : i_callV ci 1 f F L (w1 :: .ref i :: S) h = if sh i = (0, ci) ∧ i < gN h ∧ cs S ≤ 8 then i_after (f [.ref i, w1] h) S F L else none := by simp [i_callV]; rfl
theorem r_callVN_1 {f : List Value → AH → Option Ou} {ci : Nat} : i_callVN ci 1 f F L (w1 :: .ref i :: S) h = if sh i = (0, ci) ∧ i < gN h ∧ cs S ≤ 8 then i_afterN (f [.ref i, w1] h) S F L else none := by simp [i_callVN]; rfl
theorem r_callI_1 {f : List Value → AH → Option Ou} : i_callI 1 f F L (w1 :: .ref i :: S) h = if cs S ≤ 8 then i_after (f [.ref i, w1] h) S F L else none := by simp [i_callI]; rfl
theorem r_callIN_1 {f : List Value → AH → Option Ou} : i_callIN 1 f F L (w1 :: .ref i :: S) h = if cs S ≤ 8 then i_afterN (f [.ref i, w1] h) S F L else none := by simp [i_callIN]; rfl
theorem r_callT_1 {f : List Value → AH → Option Ou} : i_callT 1 f F L (w1 :: .ref i :: S) h = if inB 2000 txN i = true ∧ cs S ≤ 8 then i_after (f [.ref i, w1] h) S F L else none := by simp [i_callT]; rfl
theorem r_callS_2 {f : List Value → AH → Option Ou} : i_callS 2 f F L (w2 :: w1 :: S) h = if cs S ≤ 8 then i_after (f [w1, w2] h) S F L else none := by simp [i_callS]; rfl
theorem r_callW_2 {f : List Value → AH → Option Ou} : i_callW 2 f F L (w2 :: w1 :: S) h = if cs S ≤ 8 then i_afterN (f [w1, w2] h) S F L else none := by simp [i_callW]; rfl
theorem r_callV_2 {f : List Value → AH → Option Ou} {ci : Nat} : i_callV ci 2 f F L (w2 :: w1 :: .ref i :: S) h = if sh i = (0, ci) ∧ i < gN h ∧ cs S ≤ 8 then i_after (f [.ref i, w1, w2] h) S F L else none := by simp [i_callV]; rfl
theorem r_callVN_2 {f : List Value → AH → Option Ou} {ci : Nat} : i_callVN ci 2 f F L (w2 :: w1 :: .ref i :: S) h = if sh i = (0, ci) ∧ i < gN h ∧ cs S ≤ 8 then i_afterN (f [.ref i, w1, w2] h) S F L else none := by simp [i_callVN]; rfl
theorem r_callI_2 {f : List Value → AH → Option Ou} : i_callI 2 f F L (w2 :: w1 :: .ref i :: S) h = if cs S ≤ 8 then i_after (f [.ref i, w1, w2] h) S F L else none := by simp [i_callI]; rfl
theorem r_callIN_2 {f : List Value → AH → Option Ou} : i_callIN 2 f F L (w2 :: w1 :: .ref i :: S) h = if cs S ≤ 8 then i_afterN (f [.ref i, w1, w2] h) S F L else none := by simp [i_callIN]; rfl
theorem r_callS_3 {f : List Value → AH → Option Ou} : i_callS 3 f F L (w3 :: w2 :: w1 :: S) h = if cs S ≤ 8 then i_after (f [w1, w2, w3] h) S F L else none := by simp [i_callS]; rfl
theorem r_callW_3 {f : List Value → AH → Option Ou} : i_callW 3 f F L (w3 :: w2 :: w1 :: S) h = if cs S ≤ 8 then i_afterN (f [w1, w2, w3] h) S F L else none := by simp [i_callW]; rfl
theorem r_callV_3 {f : List Value → AH → Option Ou} {ci : Nat} : i_callV ci 3 f F L (w3 :: w2 :: w1 :: .ref i :: S) h = if sh i = (0, ci) ∧ i < gN h ∧ cs S ≤ 8 then i_after (f [.ref i, w1, w2, w3] h) S F L else none := by simp [i_callV]; rfl
theorem r_callVN_3 {f : List Value → AH → Option Ou} {ci : Nat} : i_callVN ci 3 f F L (w3 :: w2 :: w1 :: .ref i :: S) h = if sh i = (0, ci) ∧ i < gN h ∧ cs S ≤ 8 then i_afterN (f [.ref i, w1, w2, w3] h) S F L else none := by simp [i_callVN]; rfl
theorem r_callI_3 {f : List Value → AH → Option Ou} : i_callI 3 f F L (w3 :: w2 :: w1 :: .ref i :: S) h = if cs S ≤ 8 then i_after (f [.ref i, w1, w2, w3] h) S F L else none := by simp [i_callI]; rfl
theorem r_callIN_3 {f : List Value → AH → Option Ou} : i_callIN 3 f F L (w3 :: w2 :: w1 :: .ref i :: S) h = if cs S ≤ 8 then i_afterN (f [.ref i, w1, w2, w3] h) S F L else none := by simp [i_callIN]; rfl
theorem r_callS_4 {f : List Value → AH → Option Ou} : i_callS 4 f F L (w4 :: w3 :: w2 :: w1 :: S) h = if cs S ≤ 8 then i_after (f [w1, w2, w3, w4] h) S F L else none := by simp [i_callS]; rfl
theorem r_callW_4 {f : List Value → AH → Option Ou} : i_callW 4 f F L (w4 :: w3 :: w2 :: w1 :: S) h = if cs S ≤ 8 then i_afterN (f [w1, w2, w3, w4] h) S F L else none := by simp [i_callW]; rfl
theorem r_callV_4 {f : List Value → AH → Option Ou} {ci : Nat} : i_callV ci 4 f F L (w4 :: w3 :: w2 :: w1 :: .ref i :: S) h = if sh i = (0, ci) ∧ i < gN h ∧ cs S ≤ 8 then i_after (f [.ref i, w1, w2, w3, w4] h) S F L else none := by simp [i_callV]; rfl
theorem r_callVN_4 {f : List Value → AH → Option Ou} {ci : Nat} : i_callVN ci 4 f F L (w4 :: w3 :: w2 :: w1 :: .ref i :: S) h = if sh i = (0, ci) ∧ i < gN h ∧ cs S ≤ 8 then i_afterN (f [.ref i, w1, w2, w3, w4] h) S F L else none := by simp [i_callVN]; rfl
theorem r_callI_4 {f : List Value → AH → Option Ou} : i_callI 4 f F L (w4 :: w3 :: w2 :: w1 :: .ref i :: S) h = if cs S ≤ 8 then i_after (f [.ref i, w1, w2, w3, w4] h) S F L else none := by simp [i_callI]; rfl
theorem r_callIN_4 {f : List Value → AH → Option Ou} : i_callIN 4 f F L (w4 :: w3 :: w2 :: w1 :: .ref i :: S) h = if cs S ≤ 8 then i_afterN (f [.ref i, w1, w2, w3, w4] h) S F L else none := by simp [i_callIN]; rfl
theorem r_callS_5 {f : List Value → AH → Option Ou} : i_callS 5 f F L (w5 :: w4 :: w3 :: w2 :: w1 :: S) h = if cs S ≤ 8 then i_after (f [w1, w2, w3, w4, w5] h) S F L else none := by simp [i_callS]; rfl
theorem r_callW_5 {f : List Value → AH → Option Ou} : i_callW 5 f F L (w5 :: w4 :: w3 :: w2 :: w1 :: S) h = if cs S ≤ 8 then i_afterN (f [w1, w2, w3, w4, w5] h) S F L else none := by simp [i_callW]; rfl
theorem r_callV_5 {f : List Value → AH → Option Ou} {ci : Nat} : i_callV ci 5 f F L (w5 :: w4 :: w3 :: w2 :: w1 :: .ref i :: S) h = if sh i = (0, ci) ∧ i < gN h ∧ cs S ≤ 8 then i_after (f [.ref i, w1, w2, w3, w4, w5] h) S F L else none := by simp [i_callV]; rfl
theorem r_callVN_5 {f : List Value → AH → Option Ou} {ci : Nat} : i_callVN ci 5 f F L (w5 :: w4 :: w3 :: w2 :: w1 :: .ref i :: S) h = if sh i = (0, ci) ∧ i < gN h ∧ cs S ≤ 8 then i_afterN (f [.ref i, w1, w2, w3, w4, w5] h) S F L else none := by simp [i_callVN]; rfl
theorem r_callI_5 {f : List Value → AH → Option Ou} : i_callI 5 f F L (w5 :: w4 :: w3 :: w2 :: w1 :: .ref i :: S) h = if cs S ≤ 8 then i_after (f [.ref i, w1, w2, w3, w4, w5] h) S F L else none := by simp [i_callI]; rfl
theorem r_callIN_5 {f : List Value → AH → Option Ou} : i_callIN 5 f F L (w5 :: w4 :: w3 :: w2 :: w1 :: .ref i :: S) h = if cs S ≤ 8 then i_afterN (f [.ref i, w1, w2, w3, w4, w5] h) S F L else none := by simp [i_callIN]; rfl
theorem r_callS_6 {f : List Value → AH → Option Ou} : i_callS 6 f F L (w6 :: w5 :: w4 :: w3 :: w2 :: w1 :: S) h = if cs S ≤ 8 then i_after (f [w1, w2, w3, w4, w5, w6] h) S F L else none := by simp [i_callS]; rfl
theorem r_callW_6 {f : List Value → AH → Option Ou} : i_callW 6 f F L (w6 :: w5 :: w4 :: w3 :: w2 :: w1 :: S) h = if cs S ≤ 8 then i_afterN (f [w1, w2, w3, w4, w5, w6] h) S F L else none := by simp [i_callW]; rfl
theorem r_callV_6 {f : List Value → AH → Option Ou} {ci : Nat} : i_callV ci 6 f F L (w6 :: w5 :: w4 :: w3 :: w2 :: w1 :: .ref i :: S) h = if sh i = (0, ci) ∧ i < gN h ∧ cs S ≤ 8 then i_after (f [.ref i, w1, w2, w3, w4, w5, w6] h) S F L else none := by simp [i_callV]; rfl
theorem r_callVN_6 {f : List Value → AH → Option Ou} {ci : Nat} : i_callVN ci 6 f F L (w6 :: w5 :: w4 :: w3 :: w2 :: w1 :: .ref i :: S) h = if sh i = (0, ci) ∧ i < gN h ∧ cs S ≤ 8 then i_afterN (f [.ref i, w1, w2, w3, w4, w5, w6] h) S F L else none := by simp [i_callVN]; rfl
theorem r_callI_6 {f : List Value → AH → Option Ou} : i_callI 6 f F L (w6 :: w5 :: w4 :: w3 :: w2 :: w1 :: .ref i :: S) h = if cs S ≤ 8 then i_after (f [.ref i, w1, w2, w3, w4, w5, w6] h) S F L else none := by simp [i_callI]; rfl
theorem r_callIN_6 {f : List Value → AH → Option Ou} : i_callIN 6 f F L (w6 :: w5 :: w4 :: w3 :: w2 :: w1 :: .ref i :: S) h = if cs S ≤ 8 then i_afterN (f [.ref i, w1, w2, w3, w4, w5, w6] h) S F L else none := by simp [i_callIN]; rfl
theorem r_aft_n : i_after (some (.inl none, h)) S F L = F L S h := rfl
theorem r_aft_v : i_after (some (.inl (some w), h)) S F L = F L (w :: S) h := rfl
theorem r_aft_x : i_after (some (.inr i, h)) S F L = some (.inr i, h) := rfl
theorem r_aftN_n : i_afterN (some (.inl none, h)) S F L = F L S h := rfl
theorem r_aftN_v : i_afterN (some (.inl (some w), h)) S F L = F L (w :: S) h := rfl
theorem r_ireturn : i_ireturn L [.int x] h = some (.inl (some (.int x)), h) := rfl
theorem r_zreturn : i_zreturn L [.int x] h = if x = 0 ∨ x = 1 then some (.inl (some (.int x)), h) else none := rfl
theorem r_creturn : i_creturn L [.int x] h = if (x.toUInt32 % 65536).toInt32 = x then some (.inl (some (.int x)), h) else none := rfl
theorem r_breturn : i_breturn L [.int x] h = if x.toInt8.toInt32 = x then some (.inl (some (.int x)), h) else none := rfl
theorem r_areturn : i_areturn L [.ref i] h = some (.inl (some (.ref i)), h) := rfl
theorem r_return : i_return L [] h = some (.inl none, h) := rfl
theorem r_throw : i_throw i L S h = if cs S ≤ 8 then some (.inr i, xt h) else none := rfl
theorem r_max : i_max F L (.int y :: .int x :: S) h = if cs S ≤ 8 then F L (.int (if x < y then y else x) :: S) h else none := rfl
theorem r_min : i_min F L (.int y :: .int x :: S) h = if cs S ≤ 8 then F L (.int (if y < x then y else x) :: S) h else none := rfl
theorem r_alenT : i_alenT F L (.ref i :: S) h = if i = 1100 then F L (.int 26 :: S) h else none := rfl
theorem r_aaloadT : i_aaloadT F L (.int x :: .ref i :: S) h = if i = 1100 ∧ ¬ x < 0 ∧ x.toNatClampNeg < 26 then F L (.ref (1000 + x.toNatClampNeg) :: S) h else none := rfl
theorem r_tokLim : i_tokLim F L (.ref i :: S) h = if inB 1000 26 i = true then F L (.int (tokLim.getD (i - 1000) 0) :: S) h else none := rfl
theorem r_tokTx : i_tokTx F L (.ref i :: S) h = if inB 1000 26 i = true then F L (.ref (2000 + tokTx.getD (i - 1000) 0) :: S) h else none := rfl
theorem r_ifnn_r : i_ifnn F G L (.ref i :: S) h = F L S h := rfl
theorem r_ifnn_n : i_ifnn F G L (.null :: S) h = G L S h := rfl
theorem r_strVal : i_strVal F L (.ref i :: S) h = if inB 2000 txN i = true then F L (.ref (i + 1000) :: S) h else none := rfl
theorem r_strCod : i_strCod F L (.ref i :: S) h = if inB 2000 txN i = true then F L (.int 0 :: S) h else none := rfl
theorem r_strLen : i_strLen F L (.ref i :: S) h = if inB 3000 txN i = true then F L (.int (Int32.ofNat (txLen.getD (i - 3000) 0)) :: S) h else none := rfl
theorem r_strAt : i_strAt F L (.int x :: .ref i :: S) h = if inB 3000 txN i = true ∧ ¬ x < 0 ∧ x.toNatClampNeg < txLen.getD (i - 3000) 0 then F L (.int ((txByt.getD (i - 3000) []).getD x.toNatClampNeg 0) :: S) h else none := rfl
theorem r_acopy {z : Int32} : i_acopy F L (.int y :: .int x :: .ref j :: .int z :: .ref i :: S) h = if gX h = 1 ∧ cs S ≤ 8 ∧ (sh i).1 = 1 ∧ i < gN h ∧ (sh j).1 = 1 ∧ j < gN h ∧ ¬ z < 0 ∧ ¬ x < 0 ∧ ¬ y < 0 ∧ z.toNatClampNeg + y.toNatClampNeg ≤ (sh i).2 ∧ x.toNatClampNeg + y.toNatClampNeg ≤ (sh j).2 then F L S (cpI h i z.toNatClampNeg j x.toNatClampNeg y.toNatClampNeg) else none := rfl
theorem r_objInit : i_objInit F L (.ref i :: S) h = if cs S ≤ 8 then F L S h else none := rfl
theorem r_new {ci : Nat} : i_new ci F L S h = if gX h = 0 ∧ gN h < NT ∧ sh (gN h) = (0, ci) then F L (.ref (gN h) :: S) (nw h) else none := rfl
theorem r_newarr {kd N : Nat} : i_newarr kd N F L (.int x :: S) h = if gX h = 0 ∧ gN h < NT ∧ sh (gN h) = (kd, N) ∧ ¬ x < 0 ∧ x.toNatClampNeg = N ∧ N ≤ 4096 then F L (.ref (gN h) :: S) (nw h) else none := rfl
theorem r_slen {Ls : Nat} : i_slen Ls F L (.ref i :: S) h = if i = 5000 then F L (.int (Int32.ofNat Ls) :: S) h else none := rfl
theorem r_sload {Ls : Nat} {xs : Nat → Int32} : i_sload Ls xs F L (.int x :: .ref i :: S) h = if i = 5000 ∧ ¬ x < 0 ∧ x.toNatClampNeg < Ls then F L (.int (xs x.toNatClampNeg) :: S) h else none := rfl
theorem r_tsw {hi : Int32} {Fs : Nat → Fn} {Fd : Fn} : i_tsw hi Fs Fd L (.int x :: S) h = if x < 0 ∨ hi < x then Fd L S h else Fs x.toNatClampNeg L S h := rfl
theorem r_ghost : i_ghost F L S h = F L S (xt h) := rfl
theorem r_lawret : i_lawret L [.int x] h = if x = 1 then some (.inl (some (.int 1)), h) else none := rfl
theorem r_rv : rv (some i) = .ref i := rfl
theorem r_rv0 : rv none = .null := rfl
end RUN
